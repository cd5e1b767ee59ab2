/-! the model's acts  -/
theorem MRest.row {H H' : dxH} {tx : Nat → Nat} {ln n am am' nx nx' : Nat} {stk stk' : Nat → Sn} {kp : Nat → Bool} {ks : Nat → Sn} {tm : Nat} {tc th : Nat → Nat} {td : Nat → Bool} {A : Nat → Prop} {rw : Nat → Int32} (h : MRest H tx ln n am nx stk kp ks tm tc th td) (hO : Off A H H') (hA : ∀ j, 115 ≤ j → j ≤ 126 → j ≠ 119 → ¬ A j) (ht : H'[119]? = some (.inl (0, 378, .inl rw))) (ht2 : ∀ i, i < am' → LvS rw (27 * ((nx' + 13 - i) % 14)) n (stk' i)) : MRest H' tx ln n am' nx' stk' kp ks tm tc th td := by
  obtain ⟨⟨_, h1, h2⟩, ⟨mt, h3, h4⟩, ⟨a, b, c, h5, h6, h7, h8⟩, ⟨kq, kg, h9, i1, i2, i3⟩, ⟨q1, i4⟩, ⟨q2, i5⟩, ⟨q3, i6⟩, ⟨q4, i7⟩, q5, i8⟩ := h
  have o : ∀ (j : Nat) (e : dxE), 115 ≤ j → j ≤ 126 → j ≠ 119 → H[j]? = some e → H'[j]? = some e := fun j e a b c hj => hO.at hj (hA j a b c)
  exact ⟨⟨rw, ht, ht2⟩, ⟨mt, o _ _ (by decide) (by decide) (by decide) h3, h4⟩, ⟨a, b, c, o _ _ (by decide) (by decide) (by decide) h5, o _ _ (by decide) (by decide) (by decide) h6, o _ _ (by decide) (by decide) (by decide) h7, h8⟩, ⟨kq, kg, o _ _ (by decide) (by decide) (by decide) h9, i1, o _ _ (by decide) (by decide) (by decide) i2, i3⟩, ⟨q1, o _ _ (by decide) (by decide) (by decide) i4⟩, ⟨q2, o _ _ (by decide) (by decide) (by decide) i5⟩, ⟨q3, o _ _ (by decide) (by decide) (by decide) i6⟩, ⟨q4, o _ _ (by decide) (by decide) (by decide) i7⟩, q5, o _ _ (by decide) (by decide) (by decide) i8⟩
theorem lq136 {tb : dxT} {H : dxH} {n : Nat} {f : Nat → Int32} {sed : Int64} {sd kd : Nat → Nat} {g : Nat → Int32} {nx : Nat} {rw : Nat → Int32} {Q : Option Value → dxH → Prop} (e7 : f 7 = nI nx) (hnx : nx < 14) : ∀ (d k : Nat) (H1 : dxH) (rw1 : Nat → Int32), k + d = 27 → MC H1 n f sed sd kd g → H1[119]? = some (.inl (0, 378, .inl rw1)) → (∀ j, j < k → rw1 (27 * nx + j) = g j) → (∀ j, (j < 27 * nx ∨ 27 * nx + 27 ≤ j) → rw1 j = rw j) → Off (fun j => j = 119) H H1 → (∀ H3 rw3, MC H3 n f sed sd kd g → H3[119]? = some (.inl (0, 378, .inl rw3)) → (∀ j, j < 27 → rw3 (27 * nx + j) = g j) → (∀ j, (j < 27 * nx ∨ 27 * nx + 27 ≤ j) → rw3 j = rw j) → Off (fun j => j = 119) H H3 → Ev tb 136 34 [some (.ref 111), some (.int (nI 27))] [] H3 Q) → Ev tb 136 2 [some (.ref 111), some (.int (nI k))] [] H1 Q
  | 0, k, H1, rw1, hk, hC, hr, h1, h2, hO, hQ => by
    obtain rfl : k = 27 := by omega
    obtain ⟨c0, ⟨ms, mk, c1, c2, c3, c4⟩, c5⟩ := id hC
    unfold mOb at c0
    refine ev_iload_n i136_2 rfl ?_
    refine ev_bipush (v := nI 27) i136_3 (by decide) ?_
    refine evn_icmp_ge (t := 34) i136_5 (by decide) (by omega) (fun z5 => ?_) (fun z5 => by exfalso; omega)
    exact hQ H1 rw1 hC hr h1 h2 hO
  | d + 1, k, H1, rw1, hk, hC, hr, h1, h2, hO, hQ => by
    obtain ⟨c0, ⟨ms, mk, c1, c2, c3, c4⟩, c5⟩ := id hC
    unfold mOb at c0
    refine ev_iload_n i136_2 rfl ?_
    refine ev_bipush (v := nI 27) i136_3 (by decide) ?_
    refine evn_icmp_ge (t := 34) i136_5 (by decide) (by omega) (fun z5 => by exfalso; omega) (fun z5 => ?_)
    refine ev_aload_n i136_8 rfl ?_
    refine ev_get i136_9 ci136 fl8_31 (by assumption) rfl ?_
    refine ev_bipush (v := nI 27) i136_12 (by decide) ?_
    refine ev_aload_n i136_14 rfl ?_
    refine ev_get i136_15 ci136 fl8_126 (by assumption) rfl ?_
    rw [e7]
    refine evn_imul i136_18 ?_
    refine ev_iload_n i136_19 rfl ?_
    refine evn_iadd i136_20 ?_
    refine ev_aload_n i136_21 rfl ?_
    refine ev_get i136_22 ci136 fl8_16 (by assumption) rfl ?_
    refine ev_iload_n i136_25 rfl ?_
    refine ev_iald_n i136_26 (by assumption) (by omega) ?_
    refine evs_iastw i136_27 (by assumption) (by omega) (fun H2 hH2 => ?_)
    have c0 : H2[111]? = some (.inr (8, [.int (nI n), .ref 112, .ref 113, .ref 114, .ref 115, .ref 116, .ref 117, .int (f 0), .int (f 1), .int (f 2), .ref 118, .int (f 3), .int (f 4), .int (f 5), .int (f 6), .int (f 7), .ref 119, .ref 120, .int (f 8), .ref 121, .ref 122, .ref 123, .ref 124, .long sed, .ref 125, .ref 126])) := by rw [hH2]; exact set_ne c0 (by omega)
    have c1 : H2[112]? = some (.inl (0, 6, .inl ms)) := by rw [hH2]; exact set_ne c1 (by omega)
    have c3 : H2[113]? = some (.inl (0, 6, .inl mk)) := by rw [hH2]; exact set_ne c3 (by omega)
    have c5 : H2[114]? = some (.inl (0, 54, .inl g)) := by rw [hH2]; exact set_ne c5 (by omega)
    have hr : H2[119]? = some (.inl (0, 378, .inl (upd rw1 ((27 * nx) + k) (g k)))) := by rw [hH2]; exact set_self hr
    have hO : Off (fun j => j = 119) H H2 := by rw [hH2]; exact hO.set (by rfl)
    refine evn_iinc (d := 1) (L' := [some (.ref 111), some (.int (nI (k + 1)))]) i136_28 rfl rfl (by decide) rfl ?_
    refine ev_goto (t := 2) i136_31 (by decide) ?_
    exact lq136 e7 hnx d (k + 1) _ _ (by omega) ⟨c0, ⟨ms, mk, c1, c2, c3, c4⟩, c5⟩ hr (fun j hj => by
      unfold upd
      by_cases q : j = k
      · rw [if_pos (by omega), q]
      · rw [if_neg (by omega)]; exact h1 j (by omega)) (fun j hj => by unfold upd; rw [if_neg (by omega)]; exact h2 j hj) hO hQ
theorem y136 {tb : dxT} {H : dxH} {tx : Nat → Nat} {ln n : Nat} {sd kd : Nat → Nat} {s : Sn} {am : Nat} {stk : Nat → Sn} {kp : Nat → Bool} {ks : Nat → Sn} {tm : Nat} {tc th : Nat → Nat} {td : Nat → Bool} {sed : Int64} (hI : MInv H tx ln n sd kd s am stk kp ks tm tc th td sed) (hS : SpOK tx ln n sd kd s am stk kp ks tm tc th) : Cl tb 136 [.ref 111] H (fun r H' => r = none ∧ MInv H' tx ln n sd kd s (pushN am) (pushS s stk) kp ks tm tc th td sed ∧ Off mC H H') := by
  obtain ⟨f, g, nx, ⟨hC, hL, e3, e6, e7, e8, hnx⟩, hR⟩ := id hI
  obtain ⟨⟨b1, b2⟩, b3, b4, b5, b6, b7, b8, b9, b10, b11⟩ := id hS
  obtain ⟨c0, ⟨ms, mk, c1, c2, c3, c4⟩, c5⟩ := id hC
  unfold mOb at c0
  obtain ⟨⟨rw, r0, r1⟩, _⟩ := id hR
  show Ev tb 136 0 [some (.ref 111), none] [] H _
  refine ev_iconst (v := nI 0) i136_0 (by decide) ?_
  refine ev_istore_n (L' := [some (.ref 111), some (.int (nI 0))]) i136_1 ⟨Nat.le_of_ble_eq_true rfl, rfl⟩ rfl ?_
  refine lq136 (H := H) (rw := rw) e7 hnx 27 0 H rw (by omega) hC r0 (fun j hj => absurd hj (Nat.not_lt_zero _)) (fun j _ => rfl) Off.rf (fun H3 rw3 hC3 hr h1 h2 hO9 => ?_)
  have hO : Off (fun j => j = 111 ∨ j = 119) H H3 := hO9.weaken (fun j q => Or.inr q)
  obtain ⟨c0, ⟨ms, mk, c1, c2, c3, c4⟩, c5⟩ := id hC3
  unfold mOb at c0
  refine ev_aload_n i136_34 rfl ?_
  refine ev_aload_n i136_35 rfl ?_
  refine ev_get i136_36 ci136 fl8_126 (by assumption) rfl ?_
  rw [e7]
  refine ev_iconst (v := nI 1) i136_39 (by decide) ?_
  refine evn_iadd i136_40 ?_
  refine ev_bipush (v := nI 14) i136_41 (by decide) ?_
  refine evn_irem i136_43 (by first | omega | exact ⟨Nat.lt_of_le_of_lt (Nat.div_le_self _ _) (by omega), by decide, by decide⟩) ?_
  refine evs_put (fs' := [.int (nI n), .ref 112, .ref 113, .ref 114, .ref 115, .ref 116, .ref 117, .int (f 0), .int (f 1), .int (f 2), .ref 118, .int (f 3), .int (f 4), .int (f 5), .int (f 6), .int (nI ((nx + 1) % 14)), .ref 119, .ref 120, .int (f 8), .ref 121, .ref 122, .ref 123, .ref 124, .long sed, .ref 125, .ref 126]) i136_44 ci136 fl8_126 (by assumption) ⟨Nat.le_of_ble_eq_true rfl, rfl, Or.inl rfl⟩ rfl (fun H4 hH4 => ?_)
  have c0 : H4[111]? = some (.inr (8, [.int (nI n), .ref 112, .ref 113, .ref 114, .ref 115, .ref 116, .ref 117, .int (f 0), .int (f 1), .int (f 2), .ref 118, .int (f 3), .int (f 4), .int (f 5), .int (f 6), .int (nI ((nx + 1) % 14)), .ref 119, .ref 120, .int (f 8), .ref 121, .ref 122, .ref 123, .ref 124, .long sed, .ref 125, .ref 126])) := by rw [hH4]; exact set_self c0
  have c1 : H4[112]? = some (.inl (0, 6, .inl ms)) := by rw [hH4]; exact set_ne c1 (by omega)
  have c3 : H4[113]? = some (.inl (0, 6, .inl mk)) := by rw [hH4]; exact set_ne c3 (by omega)
  have c5 : H4[114]? = some (.inl (0, 54, .inl g)) := by rw [hH4]; exact set_ne c5 (by omega)
  have hr : H4[119]? = some (.inl (0, 378, .inl rw3)) := by rw [hH4]; exact set_ne hr (by omega)
  have hO : Off (fun j => j = 111 ∨ j = 119) H H4 := by rw [hH4]; exact hO.set (by first | exact Or.inl rfl | exact Or.inr rfl)
  refine ev_aload_n i136_47 rfl ?_
  refine ev_aload_n i136_48 rfl ?_
  refine ev_get i136_49 ci136 fl8_105 (by assumption) rfl ?_
  rw [e6]
  refine ev_bipush (v := nI 14) i136_52 (by decide) ?_
  refine evn_icmp_ge (t := 66) i136_54 (by decide) (by omega) (fun z54 => ?_) (fun z54 => ?_)
  · refine ev_bipush (v := nI 14) i136_66 (by decide) ?_
    refine evs_put (fs' := [.int (nI n), .ref 112, .ref 113, .ref 114, .ref 115, .ref 116, .ref 117, .int (f 0), .int (f 1), .int (f 2), .ref 118, .int (f 3), .int (f 4), .int (f 5), .int (nI 14), .int (nI ((nx + 1) % 14)), .ref 119, .ref 120, .int (f 8), .ref 121, .ref 122, .ref 123, .ref 124, .long sed, .ref 125, .ref 126]) i136_68 ci136 fl8_105 (by assumption) ⟨Nat.le_of_ble_eq_true rfl, rfl, Or.inl rfl⟩ rfl (fun H5 hH5 => ?_)
    have c0 : H5[111]? = some (.inr (8, [.int (nI n), .ref 112, .ref 113, .ref 114, .ref 115, .ref 116, .ref 117, .int (f 0), .int (f 1), .int (f 2), .ref 118, .int (f 3), .int (f 4), .int (f 5), .int (nI 14), .int (nI ((nx + 1) % 14)), .ref 119, .ref 120, .int (f 8), .ref 121, .ref 122, .ref 123, .ref 124, .long sed, .ref 125, .ref 126])) := by rw [hH5]; exact set_self c0
    have c1 : H5[112]? = some (.inl (0, 6, .inl ms)) := by rw [hH5]; exact set_ne c1 (by omega)
    have c3 : H5[113]? = some (.inl (0, 6, .inl mk)) := by rw [hH5]; exact set_ne c3 (by omega)
    have c5 : H5[114]? = some (.inl (0, 54, .inl g)) := by rw [hH5]; exact set_ne c5 (by omega)
    have hr : H5[119]? = some (.inl (0, 378, .inl rw3)) := by rw [hH5]; exact set_ne hr (by omega)
    have hO : Off (fun j => j = 111 ∨ j = 119) H H5 := by rw [hH5]; exact hO.set (by first | exact Or.inl rfl | exact Or.inr rfl)
    refine ev_vret i136_71 (by decide +kernel) ?_
    have ep : pushN am = 14 := by unfold pushN; rw [if_neg (by omega)]
    rw [ep]
    refine ⟨rfl, ⟨upd (upd f 7 (nI ((nx + 1) % 14))) 6 (nI (14)), g, (nx + 1) % 14, ⟨⟨c0, ⟨ms, mk, c1, c2, c3, c4⟩, c5⟩, hL, e3, rfl, rfl, e8, Nat.mod_lt _ (by decide)⟩, hR.row (am' := 14) (nx' := (nx + 1) % 14) (stk' := pushS s stk) hO (fun j a b c => by omega) hr (fun i hi => ?_)⟩, hO.weaken (fun j q => by unfold mC; omega)⟩
    cases i with
    | zero =>
      rw [show ((nx + 1) % 14 + 13 - 0) % 14 = nx by omega]
      exact hL.cp b3 (fun j hj => by rw [Nat.zero_add]; exact h1 j hj)
    | succ i =>
      have hs : ((nx + 1) % 14 + 13 - (i + 1)) % 14 = (nx + 13 - i) % 14 := by omega
      rw [hs]
      have hne : (nx + 13 - i) % 14 ≠ nx := by omega
      exact (r1 i (by omega)).cp b3 (fun j hj => h2 _ (by omega))
  · refine ev_aload_n i136_57 rfl ?_
    refine ev_get i136_58 ci136 fl8_105 (by assumption) rfl ?_
    rw [e6]
    refine ev_iconst (v := nI 1) i136_61 (by decide) ?_
    refine evn_iadd i136_62 ?_
    refine ev_goto (t := 68) i136_63 (by decide) ?_
    refine evs_put (fs' := [.int (nI n), .ref 112, .ref 113, .ref 114, .ref 115, .ref 116, .ref 117, .int (f 0), .int (f 1), .int (f 2), .ref 118, .int (f 3), .int (f 4), .int (f 5), .int (nI (am + 1)), .int (nI ((nx + 1) % 14)), .ref 119, .ref 120, .int (f 8), .ref 121, .ref 122, .ref 123, .ref 124, .long sed, .ref 125, .ref 126]) i136_68 ci136 fl8_105 (by assumption) ⟨Nat.le_of_ble_eq_true rfl, rfl, Or.inl rfl⟩ rfl (fun H5 hH5 => ?_)
    have c0 : H5[111]? = some (.inr (8, [.int (nI n), .ref 112, .ref 113, .ref 114, .ref 115, .ref 116, .ref 117, .int (f 0), .int (f 1), .int (f 2), .ref 118, .int (f 3), .int (f 4), .int (f 5), .int (nI (am + 1)), .int (nI ((nx + 1) % 14)), .ref 119, .ref 120, .int (f 8), .ref 121, .ref 122, .ref 123, .ref 124, .long sed, .ref 125, .ref 126])) := by rw [hH5]; exact set_self c0
    have c1 : H5[112]? = some (.inl (0, 6, .inl ms)) := by rw [hH5]; exact set_ne c1 (by omega)
    have c3 : H5[113]? = some (.inl (0, 6, .inl mk)) := by rw [hH5]; exact set_ne c3 (by omega)
    have c5 : H5[114]? = some (.inl (0, 54, .inl g)) := by rw [hH5]; exact set_ne c5 (by omega)
    have hr : H5[119]? = some (.inl (0, 378, .inl rw3)) := by rw [hH5]; exact set_ne hr (by omega)
    have hO : Off (fun j => j = 111 ∨ j = 119) H H5 := by rw [hH5]; exact hO.set (by first | exact Or.inl rfl | exact Or.inr rfl)
    refine ev_vret i136_71 (by decide +kernel) ?_
    have ep : pushN am = am + 1 := by unfold pushN; rw [if_pos (by omega)]
    rw [ep]
    refine ⟨rfl, ⟨upd (upd f 7 (nI ((nx + 1) % 14))) 6 (nI (am + 1)), g, (nx + 1) % 14, ⟨⟨c0, ⟨ms, mk, c1, c2, c3, c4⟩, c5⟩, hL, e3, rfl, rfl, e8, Nat.mod_lt _ (by decide)⟩, hR.row (am' := am + 1) (nx' := (nx + 1) % 14) (stk' := pushS s stk) hO (fun j a b c => by omega) hr (fun i hi => ?_)⟩, hO.weaken (fun j q => by unfold mC; omega)⟩
    cases i with
    | zero =>
      rw [show ((nx + 1) % 14 + 13 - 0) % 14 = nx by omega]
      exact hL.cp b3 (fun j hj => by rw [Nat.zero_add]; exact h1 j hj)
    | succ i =>
      have hs : ((nx + 1) % 14 + 13 - (i + 1)) % 14 = (nx + 13 - i) % 14 := by omega
      rw [hs]
      have hne : (nx + 13 - i) % 14 ≠ nx := by omega
      exact (r1 i (by omega)).cp b3 (fun j hj => h2 _ (by omega))
theorem y137 {tb : dxT} {H : dxH} {tx : Nat → Nat} {ln n : Nat} {sd kd : Nat → Nat} {s : Sn} {am : Nat} {stk : Nat → Sn} {kp : Nat → Bool} {ks : Nat → Sn} {tm : Nat} {tc th : Nat → Nat} {td : Nat → Bool} {sed : Int64} {rg : Bool} (hI : MInv H tx ln n sd kd s am stk kp ks tm tc th td sed) (hS : SpOK tx ln n sd kd s am stk kp ks tm tc th) : Cl tb 137 [.ref 111, .int (bI rg)] H (fun r H' => r = some (.int (nI (srtF (HE n) kd s.2.2.2.1 s.2.1 rg))) ∧ MInv H' tx ln n sd kd (s.1, s.2.1, hrF (HE n) sd kd s.1 s.2.1 rg s.2.2) (pushN am) (pushS s stk) kp ks tm tc th td sed ∧ Off mC H H') := by
  obtain ⟨f, g, nx, ⟨hC, hL, e3, e6, e7, e8, hnx⟩, hR⟩ := id hI
  obtain ⟨⟨b1, b2⟩, b3, b4, b5, b6, b7, b8, b9, b10, b11⟩ := id hS
  obtain ⟨c0, ⟨ms, mk, c1, c2, c3, c4⟩, c5⟩ := id hC
  unfold mOb at c0
  show Ev tb 137 0 [some (.ref 111), some (.int (bI rg))] [] H _
  refine ev_aload_n i137_0 rfl ?_
  refine ev_callV (vs := []) (rest := []) i137_1 ci137 lk8_129 (congrArg (fun q => q + 1) np136) ci136 (by decide) (by decide +kernel) (Nat.le_of_ble_eq_true rfl) ⟨rfl, rfl, Nat.le_of_ble_eq_true rfl⟩ rfl (by assumption) (y136 hI hS) (fun r H1 hq => ?_)
  obtain ⟨rfl, hI1, hO1⟩ := hq
  obtain ⟨f1, g1, nx1, ⟨hC, hL, e3, e6, e7, e8, hnx⟩, hR⟩ := id hI1
  obtain ⟨c0, ⟨ms, mk, c1, c2, c3, c4⟩, c5⟩ := id hC
  unfold mOb at c0
  have hO : Off (fun j => j = 114) H1 H1 := Off.rf
  unfold LvS at hL
  show Ev tb 137 4 [some (.ref 111), some (.int (bI rg))] [] H1 _
  refine ev_aload_n i137_4 rfl ?_
  refine ev_iconst (v := nI 0) i137_5 (by decide) ?_
  refine ev_bipush (v := nI 63) i137_6 (by decide) ?_
  refine ev_iload_n i137_8 rfl ?_
  refine ev_callV (vs := [.int (nI 0), .int (nI 63), .int (bI rg)]) (rest := []) i137_9 ci137 lk8_132 (congrArg (fun q => q + 1) np135) ci135 (by decide) (by decide +kernel) (Nat.le_of_ble_eq_true rfl) ⟨rfl, rfl, Nat.le_of_ble_eq_true rfl⟩ rfl (by assumption) (c135 (l := 0) b3 b4 b5 b6.1 (by decide) (by decide) hC hL b6.2.2.1) (fun r H2 hq => ?_)
  obtain ⟨rfl, g2, hC2, hL2, hg2, hO2⟩ := hq
  rw [and63 n (by omega)] at hL2
  rw [and63 n (by omega)]
  show Ev tb 137 12 [some (.ref 111), some (.int (bI rg))] [.int (nI (srtF (HE n) kd s.2.2.2.1 s.2.1 rg))] H2 _
  refine ev_iret i137_12 (by decide +kernel) ?_
  exact ⟨rfl, ⟨f1, g2, nx1, ⟨hC2, hL2, e3, e6, e7, e8, hnx⟩, hR.off hO2 (fun j a b => by omega)⟩, hO1.trans hO2 (fun _ q => q) (fun j q => by unfold mC; omega)⟩
theorem y140 {tb : dxT} {H : dxH} {tx : Nat → Nat} {ln n : Nat} {sd kd : Nat → Nat} {s : Sn} {am : Nat} {stk : Nat → Sn} {kp : Nat → Bool} {ks : Nat → Sn} {tm : Nat} {tc th : Nat → Nat} {td : Nat → Bool} {sed : Int64} {c : Nat} (hI : MInv H tx ln n sd kd s am stk kp ks tm tc th td sed) (hS : SpOK tx ln n sd kd s am stk kp ks tm tc th) (hc : c < 10) (hv9 : s.2.2.1 c < 9) : Cl tb 140 [.ref 111, .int (nI c)] H (fun r H' => r = some (.int (nI (s.2.2.1 c + 1))) ∧ MInv H' tx ln n sd kd (s.1, s.2.1, updN s.2.2.1 c (s.2.2.1 c + 1), s.2.2.2) (pushN am) (pushS s stk) kp ks tm tc th td sed ∧ Off mC H H') := by
  obtain ⟨f, g, nx, ⟨hC, hL, e3, e6, e7, e8, hnx⟩, hR⟩ := id hI
  obtain ⟨⟨b1, b2⟩, b3, b4, b5, b6, b7, b8, b9, b10, b11⟩ := id hS
  obtain ⟨c0, ⟨ms, mk, c1, c2, c3, c4⟩, c5⟩ := id hC
  unfold mOb at c0
  unfold LvS at hL
  have hv := b6.2.2.1.1 c
  show Ev tb 140 0 [some (.ref 111), some (.int (nI c))] [] H _
  refine ev_iload_n i140_0 rfl ?_
  refine ev_i2l i140_1 ?_
  refine ev_lconst (v := 0) i140_2 (by decide) ?_
  refine ev_ldc2 i140_3 ci140 ks8_75 ?_
  refine ev_callS (vs := [.long ((nI c).toInt64), .long 0, .long 9]) (rest := []) i140_6 ci140 lk8_62 (Or.inl rfl) np117 (by decide +kernel) (Nat.le_of_ble_eq_true rfl) ⟨rfl, rfl, Nat.le_of_ble_eq_true rfl⟩ rfl (c117) (fun r HH hq => ?_)
  obtain ⟨rfl, rfl⟩ := hq
  rw [inJ_R (x := nI c) (m := 10) (by decide) (by decide), inR_n (by omega) (by decide), decide_eq_true hc]
  show Ev tb 140 9 [some (.ref 111), some (.int (nI c))] [.int (bI true)] H _
  refine evb_if_ne (t := 15) i140_9 (by decide) (fun z9 => ?_) (fun z9 => by exfalso; cases z9)
  refine ev_aload_n i140_15 rfl ?_
  refine ev_get i140_16 ci140 fl8_16 (by assumption) rfl ?_
  refine ev_iload_n i140_19 rfl ?_
  refine ev_iald_n i140_20 (by assumption) (by omega) ?_
  have hh := hL.1 c hc
  rw [Nat.zero_add] at hh
  rw [hh]
  refine ev_bipush (v := nI 9) i140_21 (by decide) ?_
  refine evn_icmp_ne (t := 29) i140_23 (by decide) (by omega) (fun z23 => ?_) (fun z23 => by exfalso; omega)
  refine ev_aload_n i140_29 rfl ?_
  refine ev_callV (vs := []) (rest := []) i140_30 ci140 lk8_129 (congrArg (fun q => q + 1) np136) ci136 (by decide) (by decide +kernel) (Nat.le_of_ble_eq_true rfl) ⟨rfl, rfl, Nat.le_of_ble_eq_true rfl⟩ rfl (by assumption) (y136 hI hS) (fun r H1 hq => ?_)
  obtain ⟨rfl, hI1, hO1⟩ := hq
  obtain ⟨f1, g1, nx1, ⟨hC, hL, e3, e6, e7, e8, hnx⟩, hR⟩ := id hI1
  obtain ⟨c0, ⟨ms, mk, c1, c2, c3, c4⟩, c5⟩ := id hC
  unfold mOb at c0
  have hO : Off (fun j => j = 114) H1 H1 := Off.rf
  unfold LvS at hL
  show Ev tb 140 33 [some (.ref 111), some (.int (nI c))] [] H1 _
  refine ev_aload_n i140_33 rfl ?_
  refine ev_get i140_34 ci140 fl8_16 (by assumption) rfl ?_
  refine ev_iload_n i140_37 rfl ?_
  refine ev_dup2 i140_38 rfl rfl ?_
  refine ev_iald_n i140_39 (by assumption) (by omega) ?_
  have hh := hL.1 c hc
  rw [Nat.zero_add] at hh
  rw [hh]
  refine ev_iconst (v := nI 1) i140_40 (by decide) ?_
  refine evn_iadd i140_41 ?_
  refine evs_iastw i140_42 (by assumption) (by omega) (fun H2 hH2 => ?_)
  have c0 : H2[111]? = some (.inr (8, [.int (nI n), .ref 112, .ref 113, .ref 114, .ref 115, .ref 116, .ref 117, .int (f1 0), .int (f1 1), .int (f1 2), .ref 118, .int (f1 3), .int (f1 4), .int (f1 5), .int (f1 6), .int (f1 7), .ref 119, .ref 120, .int (f1 8), .ref 121, .ref 122, .ref 123, .ref 124, .long sed, .ref 125, .ref 126])) := by rw [hH2]; exact set_ne c0 (by omega)
  have c1 : H2[112]? = some (.inl (0, 6, .inl ms)) := by rw [hH2]; exact set_ne c1 (by omega)
  have c3 : H2[113]? = some (.inl (0, 6, .inl mk)) := by rw [hH2]; exact set_ne c3 (by omega)
  have c5 : H2[114]? = some (.inl (0, 54, .inl (upd g1 c (nI ((s.2.2.1 c) + 1))))) := by rw [hH2]; exact set_self c5
  have hO : Off (fun j => j = 114) H1 H2 := by rw [hH2]; exact hO.set (by rfl)
  refine ev_aload_n i140_43 rfl ?_
  refine ev_get i140_44 ci140 fl8_16 (by assumption) rfl ?_
  refine ev_iload_n i140_47 rfl ?_
  refine ev_iald_n i140_48 (by assumption) (by omega) ?_
  have hh2 : (upd g1 c (nI ((s.2.2.1 c) + 1))) c = nI (s.2.2.1 c + 1) := by unfold upd; exact if_pos rfl
  rw [hh2]
  refine ev_iret i140_49 (by decide +kernel) ?_
  exact ⟨rfl, ⟨f1, _, nx1, ⟨⟨c0, ⟨ms, mk, c1, c2, c3, c4⟩, c5⟩, (by have k1 := hL.cl (v := s.2.2.1 c + 1) b3 hc; rw [Nat.zero_add] at k1; exact k1), e3, e6, e7, e8, hnx⟩, hR.off hO (fun j a b => by omega)⟩, hO1.trans hO (fun _ q => q) (fun j q => by unfold mC; omega)⟩
theorem y140f {tb : dxT} {H : dxH} {tx : Nat → Nat} {ln n : Nat} {sd kd : Nat → Nat} {s : Sn} {am : Nat} {stk : Nat → Sn} {kp : Nat → Bool} {ks : Nat → Sn} {tm : Nat} {tc th : Nat → Nat} {td : Nat → Bool} {sed : Int64} {c : Nat} (hI : MInv H tx ln n sd kd s am stk kp ks tm tc th td sed) (hS : SpOK tx ln n sd kd s am stk kp ks tm tc th) (hc : c < 10) (hv9 : ¬ s.2.2.1 c < 9) : Cl tb 140 [.ref 111, .int (nI c)] H (fun r H' => r = some (.int (-4)) ∧ MInv H' tx ln n sd kd s am stk kp ks tm tc th td sed ∧ Off mC H H') := by
  obtain ⟨f, g, nx, ⟨hC, hL, e3, e6, e7, e8, hnx⟩, hR⟩ := id hI
  obtain ⟨⟨b1, b2⟩, b3, b4, b5, b6, b7, b8, b9, b10, b11⟩ := id hS
  obtain ⟨c0, ⟨ms, mk, c1, c2, c3, c4⟩, c5⟩ := id hC
  unfold mOb at c0
  unfold LvS at hL
  have hv := b6.2.2.1.1 c
  show Ev tb 140 0 [some (.ref 111), some (.int (nI c))] [] H _
  refine ev_iload_n i140_0 rfl ?_
  refine ev_i2l i140_1 ?_
  refine ev_lconst (v := 0) i140_2 (by decide) ?_
  refine ev_ldc2 i140_3 ci140 ks8_75 ?_
  refine ev_callS (vs := [.long ((nI c).toInt64), .long 0, .long 9]) (rest := []) i140_6 ci140 lk8_62 (Or.inl rfl) np117 (by decide +kernel) (Nat.le_of_ble_eq_true rfl) ⟨rfl, rfl, Nat.le_of_ble_eq_true rfl⟩ rfl (c117) (fun r HH hq => ?_)
  obtain ⟨rfl, rfl⟩ := hq
  rw [inJ_R (x := nI c) (m := 10) (by decide) (by decide), inR_n (by omega) (by decide), decide_eq_true hc]
  show Ev tb 140 9 [some (.ref 111), some (.int (nI c))] [.int (bI true)] H _
  refine evb_if_ne (t := 15) i140_9 (by decide) (fun z9 => ?_) (fun z9 => by exfalso; cases z9)
  refine ev_aload_n i140_15 rfl ?_
  refine ev_get i140_16 ci140 fl8_16 (by assumption) rfl ?_
  refine ev_iload_n i140_19 rfl ?_
  refine ev_iald_n i140_20 (by assumption) (by omega) ?_
  have hh := hL.1 c hc
  rw [Nat.zero_add] at hh
  rw [hh]
  refine ev_bipush (v := nI 9) i140_21 (by decide) ?_
  refine evn_icmp_ne (t := 29) i140_23 (by decide) (by omega) (fun z23 => by exfalso; omega) (fun z23 => ?_)
  refine ev_bipush (v := (-4)) i140_26 (by decide) ?_
  refine ev_iret i140_28 (by decide +kernel) ?_
  exact ⟨rfl, hI, Off.rf⟩
theorem y140o {tb : dxT} {H : dxH} {tx : Nat → Nat} {ln n : Nat} {sd kd : Nat → Nat} {s : Sn} {am : Nat} {stk : Nat → Sn} {kp : Nat → Bool} {ks : Nat → Sn} {tm : Nat} {tc th : Nat → Nat} {td : Nat → Bool} {sed : Int64} {x : Int32} (hI : MInv H tx ln n sd kd s am stk kp ks tm tc th td sed) (hS : SpOK tx ln n sd kd s am stk kp ks tm tc th) (h : inR x 10 = false) : Cl tb 140 [.ref 111, .int x] H (fun r H' => r = some (.int (-2)) ∧ MInv H' tx ln n sd kd s am stk kp ks tm tc th td sed ∧ Off mC H H') := by
  obtain ⟨f, g, nx, ⟨hC, hL, e3, e6, e7, e8, hnx⟩, hR⟩ := id hI
  obtain ⟨⟨b1, b2⟩, b3, b4, b5, b6, b7, b8, b9, b10, b11⟩ := id hS
  obtain ⟨c0, ⟨ms, mk, c1, c2, c3, c4⟩, c5⟩ := id hC
  unfold mOb at c0
  show Ev tb 140 0 [some (.ref 111), some (.int x)] [] H _
  refine ev_iload_n i140_0 rfl ?_
  refine ev_i2l i140_1 ?_
  refine ev_lconst (v := 0) i140_2 (by decide) ?_
  refine ev_ldc2 i140_3 ci140 ks8_75 ?_
  refine ev_callS (vs := [.long x.toInt64, .long 0, .long 9]) (rest := []) i140_6 ci140 lk8_62 (Or.inl rfl) np117 (by decide +kernel) (Nat.le_of_ble_eq_true rfl) ⟨rfl, rfl, Nat.le_of_ble_eq_true rfl⟩ rfl (c117) (fun r HH hq => ?_)
  obtain ⟨rfl, rfl⟩ := hq
  rw [inJ_R (x := x) (m := 10) (by decide) (by decide), h]
  show Ev tb 140 9 [some (.ref 111), some (.int x)] [.int (bI false)] H _
  refine evb_if_ne (t := 15) i140_9 (by decide) (fun z9 => by exfalso; cases z9) (fun z9 => ?_)
  refine ev_bipush (v := (-2)) i140_12 (by decide) ?_
  refine ev_iret i140_14 (by decide +kernel) ?_
  exact ⟨rfl, hI, Off.rf⟩
theorem bnot (b : Bool) : nI 1 - bI b = bI (!b) := by cases b <;> decide
theorem y141 {tb : dxT} {H : dxH} {tx : Nat → Nat} {ln n : Nat} {sd kd : Nat → Nat} {s : Sn} {am : Nat} {stk : Nat → Sn} {kp : Nat → Bool} {ks : Nat → Sn} {tm : Nat} {tc th : Nat → Nat} {td : Nat → Bool} {sed : Int64} (hI : MInv H tx ln n sd kd s am stk kp ks tm tc th td sed) (hS : SpOK tx ln n sd kd s am stk kp ks tm tc th) : Cl tb 141 [.ref 111] H (fun r H' => r = some (.int (bI (!s.2.1))) ∧ MInv H' tx ln n sd kd (s.1, !s.2.1, s.2.2) (pushN am) (pushS s stk) kp ks tm tc th td sed ∧ Off mC H H') := by
  obtain ⟨f, g, nx, ⟨hC, hL, e3, e6, e7, e8, hnx⟩, hR⟩ := id hI
  obtain ⟨⟨b1, b2⟩, b3, b4, b5, b6, b7, b8, b9, b10, b11⟩ := id hS
  obtain ⟨c0, ⟨ms, mk, c1, c2, c3, c4⟩, c5⟩ := id hC
  unfold mOb at c0
  show Ev tb 141 0 [some (.ref 111)] [] H _
  refine ev_aload_n i141_0 rfl ?_
  refine ev_callV (vs := []) (rest := []) i141_1 ci141 lk8_129 (congrArg (fun q => q + 1) np136) ci136 (by decide) (by decide +kernel) (Nat.le_of_ble_eq_true rfl) ⟨rfl, rfl, Nat.le_of_ble_eq_true rfl⟩ rfl (by assumption) (y136 hI hS) (fun r H1 hq => ?_)
  obtain ⟨rfl, hI1, hO1⟩ := hq
  obtain ⟨f1, g1, nx1, ⟨hC, hL, e3, e6, e7, e8, hnx⟩, hR⟩ := id hI1
  obtain ⟨c0, ⟨ms, mk, c1, c2, c3, c4⟩, c5⟩ := id hC
  unfold mOb at c0
  have hO : Off (fun j => j = 114) H1 H1 := Off.rf
  unfold LvS at hL
  show Ev tb 141 4 [some (.ref 111)] [] H1 _
  refine ev_aload_n i141_4 rfl ?_
  refine ev_get i141_5 ci141 fl8_16 (by assumption) rfl ?_
  refine ev_bipush (v := nI 22) i141_8 (by decide) ?_
  refine ev_iconst (v := nI 1) i141_10 (by decide) ?_
  refine ev_aload_n i141_11 rfl ?_
  refine ev_get i141_12 ci141 fl8_16 (by assumption) rfl ?_
  refine ev_bipush (v := nI 22) i141_15 (by decide) ?_
  refine ev_iald_n i141_17 (by assumption) (by omega) ?_
  have hh : g1 22 = bI s.2.1 := hL.2.2.2.1
  rw [hh]
  refine ev_isub i141_18 ?_
  rw [bnot s.2.1]
  refine evs_iastw i141_19 (by assumption) (by omega) (fun H2 hH2 => ?_)
  have c0 : H2[111]? = some (.inr (8, [.int (nI n), .ref 112, .ref 113, .ref 114, .ref 115, .ref 116, .ref 117, .int (f1 0), .int (f1 1), .int (f1 2), .ref 118, .int (f1 3), .int (f1 4), .int (f1 5), .int (f1 6), .int (f1 7), .ref 119, .ref 120, .int (f1 8), .ref 121, .ref 122, .ref 123, .ref 124, .long sed, .ref 125, .ref 126])) := by rw [hH2]; exact set_ne c0 (by omega)
  have c1 : H2[112]? = some (.inl (0, 6, .inl ms)) := by rw [hH2]; exact set_ne c1 (by omega)
  have c3 : H2[113]? = some (.inl (0, 6, .inl mk)) := by rw [hH2]; exact set_ne c3 (by omega)
  have c5 : H2[114]? = some (.inl (0, 54, .inl (upd g1 22 (bI (!s.2.1))))) := by rw [hH2]; exact set_self c5
  have hO : Off (fun j => j = 114) H1 H2 := by rw [hH2]; exact hO.set (by rfl)
  refine ev_aload_n i141_20 rfl ?_
  refine ev_get i141_21 ci141 fl8_16 (by assumption) rfl ?_
  refine ev_bipush (v := nI 22) i141_24 (by decide) ?_
  refine ev_iald_n i141_26 (by assumption) (by omega) ?_
  have hh2 : (upd g1 22 (bI (!s.2.1))) 22 = bI (!s.2.1) := by unfold upd; exact if_pos rfl
  rw [hh2]
  refine ev_iret i141_27 (by decide +kernel) ?_
  exact ⟨rfl, ⟨f1, _, nx1, ⟨⟨c0, ⟨ms, mk, c1, c2, c3, c4⟩, c5⟩, (by have k1 := hL.sn (b := !s.2.1) b3; exact k1), e3, e6, e7, e8, hnx⟩, hR.off hO (fun j a b => by omega)⟩, hO1.trans hO (fun _ q => q) (fun j q => by unfold mC; omega)⟩
def pC (ce : Nat → Nat) (c k : Nat) : Bool := decide (ce k = c)
theorem grz_any {n : Nat} {ce : Nat → Nat} {c : Nat} (hn : n ≤ 6) : grzB (HE n) ce c = anyB (pC ce c) n 0 := by
  refine Bool.eq_iff_iff.mpr ?_
  rw [grz_HE hn, anyB_iff]
  constructor
  · rintro ⟨i, h1, h2⟩
    exact ⟨i, Nat.zero_le _, by omega, decide_eq_true h2⟩
  · rintro ⟨i, _, h2, h3⟩
    exact ⟨i, by omega, of_decide_eq_true h3⟩
theorem lq138 {tb : dxT} {H : dxH} {n : Nat} {f : Nat → Int32} {sed : Int64} {sd kd : Nat → Nat} {g : Nat → Int32} {ce : Nat → Nat} {sn : Bool} {x : Hs} {c : Nat} (hC : MC H n f sed sd kd g) (hn : n ≤ 6) (hL : Lv g 0 n ce sn x) (hce : ∀ j, ce j < 10) (hc : c < 10) : ∀ (d k : Nat) (acc : Bool), k + d = n → Ev tb 138 4 [some (.ref 111), some (.int (nI c)), some (.int (bI acc)), some (.int (nI k))] [] H (Rt (.int (bI (acc || anyB (pC ce c) d k))) H)
  | 0, k, acc, hk => by
    obtain rfl : k = n := by omega
    obtain ⟨c0, ⟨ms, mk, c1, c2, c3, c4⟩, c5⟩ := id hC
    unfold mOb at c0
    refine ev_iload_n i138_4 rfl ?_
    refine ev_aload_n i138_5 rfl ?_
    refine ev_get i138_6 ci138 fl8_56 (by assumption) rfl ?_
    refine evn_icmp_ge (t := 41) i138_9 (by decide) (by omega) (fun z9 => ?_) (fun z9 => by exfalso; omega)
    refine ev_iload_n i138_41 rfl ?_
    refine ev_zret i138_42 (by decide +kernel) (bI_and _) ?_
    rw [show (acc || anyB (pC ce c) 0 k) = acc from Bool.or_false _]
    exact ⟨rfl, rfl⟩
  | d + 1, k, acc, hk => by
    have hk6 : k < n := by omega
    have hcek := hce k
    obtain ⟨c0, ⟨ms, mk, c1, c2, c3, c4⟩, c5⟩ := id hC
    unfold mOb at c0
    refine ev_iload_n i138_4 rfl ?_
    refine ev_aload_n i138_5 rfl ?_
    refine ev_get i138_6 ci138 fl8_56 (by assumption) rfl ?_
    refine evn_icmp_ge (t := 41) i138_9 (by decide) (by omega) (fun z9 => by exfalso; omega) (fun z9 => ?_)
    refine ev_iload_n i138_12 rfl ?_
    refine evb_if_ne (t := 29) i138_13 (by decide) (fun z13 => ?_) (fun z13 => ?_)
    · refine ev_iconst (v := nI 1) i138_29 (by decide) ?_
      refine ev_goto (t := 34) i138_30 (by decide) ?_
      refine ev_istore_n (L' := [some (.ref 111), some (.int (nI c)), some (.int (nI 1)), some (.int (nI k))]) i138_34 ⟨Nat.le_of_ble_eq_true rfl, rfl⟩ rfl ?_
      refine evn_iinc (d := 1) (L' := [some (.ref 111), some (.int (nI c)), some (.int (nI 1)), some (.int (nI (k + 1)))]) i138_35 rfl rfl (by decide) rfl ?_
      refine ev_goto (t := 4) i138_38 (by decide) ?_
      have e : (acc || anyB (pC ce c) (d + 1) k) = (true || anyB (pC ce c) d (k + 1)) := by
        rw [z13]
        simp
      rw [e]
      exact lq138 hC hn hL hce hc d (k + 1) true (by omega)
    · refine ev_aload_n i138_16 rfl ?_
      refine ev_get i138_17 ci138 fl8_16 (by assumption) rfl ?_
      refine ev_bipush (v := nI 10) i138_20 (by decide) ?_
      refine ev_iload_n i138_22 rfl ?_
      refine evn_iadd i138_23 ?_
      refine ev_iald_n i138_24 (by assumption) (by omega) ?_
      have hh : g (10 + k) = nI (ce k) := by have k1 := hL.2.1 k hk6; rw [Nat.zero_add] at k1; exact k1
      rw [hh]
      refine ev_iload_n i138_25 rfl ?_
      refine evn_icmp_ne (t := 33) i138_26 (by decide) (by omega) (fun z26 => ?_) (fun z26 => ?_)
      · refine ev_iconst (v := nI 0) i138_33 (by decide) ?_
        refine ev_istore_n (L' := [some (.ref 111), some (.int (nI c)), some (.int (nI 0)), some (.int (nI k))]) i138_34 ⟨Nat.le_of_ble_eq_true rfl, rfl⟩ rfl ?_
        refine evn_iinc (d := 1) (L' := [some (.ref 111), some (.int (nI c)), some (.int (nI 0)), some (.int (nI (k + 1)))]) i138_35 rfl rfl (by decide) rfl ?_
        refine ev_goto (t := 4) i138_38 (by decide) ?_
        have hp : (pC ce c) k = false := by
          unfold pC
          simp [z26]
        have e : (acc || anyB (pC ce c) (d + 1) k) = (false || anyB (pC ce c) d (k + 1)) := by
          show (acc || ((pC ce c) k || _)) = _
          rw [hp]
          simp [z13]
        rw [e]
        exact lq138 hC hn hL hce hc d (k + 1) false (by omega)
      · refine ev_iconst (v := nI 1) i138_29 (by decide) ?_
        refine ev_goto (t := 34) i138_30 (by decide) ?_
        refine ev_istore_n (L' := [some (.ref 111), some (.int (nI c)), some (.int (nI 1)), some (.int (nI k))]) i138_34 ⟨Nat.le_of_ble_eq_true rfl, rfl⟩ rfl ?_
        refine evn_iinc (d := 1) (L' := [some (.ref 111), some (.int (nI c)), some (.int (nI 1)), some (.int (nI (k + 1)))]) i138_35 rfl rfl (by decide) rfl ?_
        refine ev_goto (t := 4) i138_38 (by decide) ?_
        have hp : (pC ce c) k = true := by
          unfold pC
          simp [z26]
        have e : (acc || anyB (pC ce c) (d + 1) k) = (true || anyB (pC ce c) d (k + 1)) := by
          show (acc || ((pC ce c) k || _)) = _
          rw [hp]
          simp [z13]
        rw [e]
        exact lq138 hC hn hL hce hc d (k + 1) true (by omega)
theorem c138 {tb : dxT} {H : dxH} {n : Nat} {f : Nat → Int32} {sed : Int64} {sd kd : Nat → Nat} {g : Nat → Int32} {ce : Nat → Nat} {sn : Bool} {x : Hs} {c : Nat} (hC : MC H n f sed sd kd g) (hn : n ≤ 6) (hL : Lv g 0 n ce sn x) (hce : ∀ j, ce j < 10) (hc : c < 10) : Cl tb 138 [.ref 111, .int (nI c)] H (Rt (.int (bI (grzB (HE n) ce c))) H) := by
  rw [grz_any hn]
  show Ev tb 138 0 [some (.ref 111), some (.int (nI c)), none, none] [] H _
  refine ev_iconst (v := nI 0) i138_0 (by decide) ?_
  refine ev_istore_n (L' := [some (.ref 111), some (.int (nI c)), some (.int (nI 0)), none]) i138_1 ⟨Nat.le_of_ble_eq_true rfl, rfl⟩ rfl ?_
  refine ev_iconst (v := nI 0) i138_2 (by decide) ?_
  refine ev_istore_n (L' := [some (.ref 111), some (.int (nI c)), some (.int (nI 0)), some (.int (nI 0))]) i138_3 ⟨Nat.le_of_ble_eq_true rfl, rfl⟩ rfl ?_
  exact lq138 hC hn hL hce hc n 0 false (by omega)
theorem y139 {tb : dxT} {H : dxH} {tx : Nat → Nat} {ln n : Nat} {sd kd : Nat → Nat} {s : Sn} {am : Nat} {stk : Nat → Sn} {kp : Nat → Bool} {ks : Nat → Sn} {tm : Nat} {tc th : Nat → Nat} {td : Nat → Bool} {sed : Int64} {k c : Nat} (hI : MInv H tx ln n sd kd s am stk kp ks tm tc th td sed) (hS : SpOK tx ln n sd kd s am stk kp ks tm tc th) (hk : k < n) (hc : c < 10) (h : grzB (HE n) s.1 c = false) : Cl tb 139 [.ref 111, .int (nI k), .int (nI c)] H (fun r H' => r = some (.int (nI (s.1 k))) ∧ MInv H' tx ln n sd kd (updN s.1 k c, s.2) (pushN am) (pushS s stk) kp ks tm tc th td sed ∧ Off mC H H') := by
  obtain ⟨f, g, nx, ⟨hC, hL, e3, e6, e7, e8, hnx⟩, hR⟩ := id hI
  obtain ⟨⟨b1, b2⟩, b3, b4, b5, b6, b7, b8, b9, b10, b11⟩ := id hS
  obtain ⟨c0, ⟨ms, mk, c1, c2, c3, c4⟩, c5⟩ := id hC
  unfold mOb at c0
  show Ev tb 139 0 [some (.ref 111), some (.int (nI k)), some (.int (nI c)), none] [] H _
  refine ev_aload_n i139_0 rfl ?_
  refine ev_iload_n i139_1 rfl ?_
  refine ev_callV (vs := [.int (nI k)]) (rest := []) i139_2 ci139 lk8_108 (congrArg (fun q => q + 1) np128) ci128 (by decide) (by decide +kernel) (Nat.le_of_ble_eq_true rfl) ⟨rfl, rfl, Nat.le_of_ble_eq_true rfl⟩ rfl (by assumption) (c128 hC b3 b5) (fun r HH hq => ?_)
  obtain ⟨rfl, rfl⟩ := hq
  rw [inR_n (by omega) (by omega), decide_eq_true hk]
  show Ev tb 139 5 [some (.ref 111), some (.int (nI k)), some (.int (nI c)), none] [.int (bI true)] H _
  refine evb_if_ne (t := 10) i139_5 (by decide) (fun z5 => ?_) (fun z5 => by exfalso; cases z5)
  refine ev_iload_n i139_10 rfl ?_
  refine ev_i2l i139_11 ?_
  refine ev_lconst (v := 0) i139_12 (by decide) ?_
  refine ev_ldc2 i139_13 ci139 ks8_75 ?_
  refine ev_callS (vs := [.long ((nI c).toInt64), .long 0, .long 9]) (rest := []) i139_16 ci139 lk8_62 (Or.inl rfl) np117 (by decide +kernel) (Nat.le_of_ble_eq_true rfl) ⟨rfl, rfl, Nat.le_of_ble_eq_true rfl⟩ rfl (c117) (fun r HH hq => ?_)
  obtain ⟨rfl, rfl⟩ := hq
  rw [inJ_R (x := nI c) (m := 10) (by decide) (by decide), inR_n (by omega) (by decide), decide_eq_true hc]
  show Ev tb 139 19 [some (.ref 111), some (.int (nI k)), some (.int (nI c)), none] [.int (bI true)] H _
  refine evb_if_ne (t := 25) i139_19 (by decide) (fun z19 => ?_) (fun z19 => by exfalso; cases z19)
  refine ev_aload_n i139_25 rfl ?_
  refine ev_iload_n i139_26 rfl ?_
  refine ev_callV (vs := [.int (nI c)]) (rest := []) i139_27 ci139 lk8_135 (congrArg (fun q => q + 1) np138) ci138 (by decide) (by decide +kernel) (Nat.le_of_ble_eq_true rfl) ⟨rfl, rfl, Nat.le_of_ble_eq_true rfl⟩ rfl (by assumption) (c138 hC b3 hL b6.1 hc) (fun r HH hq => ?_)
  obtain ⟨rfl, rfl⟩ := hq
  rw [h]
  show Ev tb 139 30 [some (.ref 111), some (.int (nI k)), some (.int (nI c)), none] [.int (bI false)] H _
  refine evb_if_eq (t := 36) i139_30 (by decide) (fun z30 => ?_) (fun z30 => by exfalso; cases z30)
  refine ev_aload_n i139_36 rfl ?_
  refine ev_callV (vs := []) (rest := []) i139_37 ci139 lk8_129 (congrArg (fun q => q + 1) np136) ci136 (by decide) (by decide +kernel) (Nat.le_of_ble_eq_true rfl) ⟨rfl, rfl, Nat.le_of_ble_eq_true rfl⟩ rfl (by assumption) (y136 hI hS) (fun r H1 hq => ?_)
  obtain ⟨rfl, hI1, hO1⟩ := hq
  obtain ⟨f1, g1, nx1, ⟨hC, hL, e3, e6, e7, e8, hnx⟩, hR⟩ := id hI1
  obtain ⟨c0, ⟨ms, mk, c1, c2, c3, c4⟩, c5⟩ := id hC
  unfold mOb at c0
  have hO : Off (fun j => j = 114) H1 H1 := Off.rf
  unfold LvS at hL
  show Ev tb 139 40 [some (.ref 111), some (.int (nI k)), some (.int (nI c)), none] [] H1 _
  refine ev_aload_n i139_40 rfl ?_
  refine ev_get i139_41 ci139 fl8_16 (by assumption) rfl ?_
  refine ev_bipush (v := nI 10) i139_44 (by decide) ?_
  refine ev_iload_n i139_46 rfl ?_
  refine evn_iadd i139_47 ?_
  refine ev_iald_n i139_48 (by assumption) (by omega) ?_
  have hh : g1 (10 + k) = nI (s.1 k) := by have k1 := hL.2.1 k hk; rw [Nat.zero_add] at k1; exact k1
  rw [hh]
  refine ev_istore_n (L' := [some (.ref 111), some (.int (nI k)), some (.int (nI c)), some (.int (nI (s.1 k)))]) i139_49 ⟨Nat.le_of_ble_eq_true rfl, rfl⟩ rfl ?_
  refine ev_aload_n i139_50 rfl ?_
  refine ev_get i139_51 ci139 fl8_16 (by assumption) rfl ?_
  refine ev_bipush (v := nI 10) i139_54 (by decide) ?_
  refine ev_iload_n i139_56 rfl ?_
  refine evn_iadd i139_57 ?_
  refine ev_iload_n i139_58 rfl ?_
  refine evs_iastw i139_59 (by assumption) (by omega) (fun H2 hH2 => ?_)
  have c0 : H2[111]? = some (.inr (8, [.int (nI n), .ref 112, .ref 113, .ref 114, .ref 115, .ref 116, .ref 117, .int (f1 0), .int (f1 1), .int (f1 2), .ref 118, .int (f1 3), .int (f1 4), .int (f1 5), .int (f1 6), .int (f1 7), .ref 119, .ref 120, .int (f1 8), .ref 121, .ref 122, .ref 123, .ref 124, .long sed, .ref 125, .ref 126])) := by rw [hH2]; exact set_ne c0 (by omega)
  have c1 : H2[112]? = some (.inl (0, 6, .inl ms)) := by rw [hH2]; exact set_ne c1 (by omega)
  have c3 : H2[113]? = some (.inl (0, 6, .inl mk)) := by rw [hH2]; exact set_ne c3 (by omega)
  have c5 : H2[114]? = some (.inl (0, 54, .inl (upd g1 (10 + k) (nI c)))) := by rw [hH2]; exact set_self c5
  have hO : Off (fun j => j = 114) H1 H2 := by rw [hH2]; exact hO.set (by rfl)
  refine ev_iload_n i139_60 rfl ?_
  refine ev_iret i139_61 (by decide +kernel) ?_
  exact ⟨rfl, ⟨f1, _, nx1, ⟨⟨c0, ⟨ms, mk, c1, c2, c3, c4⟩, c5⟩, (by have k1 := hL.ce (v := c) b3 hk; rw [Nat.zero_add] at k1; exact k1), e3, e6, e7, e8, hnx⟩, hR.off hO (fun j a b => by omega)⟩, hO1.trans hO (fun _ q => q) (fun j q => by unfold mC; omega)⟩
theorem y139u {tb : dxT} {H : dxH} {tx : Nat → Nat} {ln n : Nat} {sd kd : Nat → Nat} {s : Sn} {am : Nat} {stk : Nat → Sn} {kp : Nat → Bool} {ks : Nat → Sn} {tm : Nat} {tc th : Nat → Nat} {td : Nat → Bool} {sed : Int64} {x y : Int32} (hI : MInv H tx ln n sd kd s am stk kp ks tm tc th td sed) (hS : SpOK tx ln n sd kd s am stk kp ks tm tc th) (h : inR x n = false) : Cl tb 139 [.ref 111, .int x, .int y] H (fun r H' => r = some (.int (-1)) ∧ MInv H' tx ln n sd kd s am stk kp ks tm tc th td sed ∧ Off mC H H') := by
  obtain ⟨f, g, nx, ⟨hC, hL, e3, e6, e7, e8, hnx⟩, hR⟩ := id hI
  obtain ⟨⟨b1, b2⟩, b3, b4, b5, b6, b7, b8, b9, b10, b11⟩ := id hS
  obtain ⟨c0, ⟨ms, mk, c1, c2, c3, c4⟩, c5⟩ := id hC
  unfold mOb at c0
  show Ev tb 139 0 [some (.ref 111), some (.int x), some (.int y), none] [] H _
  refine ev_aload_n i139_0 rfl ?_
  refine ev_iload_n i139_1 rfl ?_
  refine ev_callV (vs := [.int x]) (rest := []) i139_2 ci139 lk8_108 (congrArg (fun q => q + 1) np128) ci128 (by decide) (by decide +kernel) (Nat.le_of_ble_eq_true rfl) ⟨rfl, rfl, Nat.le_of_ble_eq_true rfl⟩ rfl (by assumption) (c128 hC b3 b5) (fun r HH hq => ?_)
  obtain ⟨rfl, rfl⟩ := hq
  rw [h]
  show Ev tb 139 5 [some (.ref 111), some (.int x), some (.int y), none] [.int (bI false)] H _
  refine evb_if_ne (t := 10) i139_5 (by decide) (fun z5 => by exfalso; cases z5) (fun z5 => ?_)
  refine ev_iconst (v := (-1)) i139_8 (by decide) ?_
  refine ev_iret i139_9 (by decide +kernel) ?_
  exact ⟨rfl, hI, Off.rf⟩
theorem y139o {tb : dxT} {H : dxH} {tx : Nat → Nat} {ln n : Nat} {sd kd : Nat → Nat} {s : Sn} {am : Nat} {stk : Nat → Sn} {kp : Nat → Bool} {ks : Nat → Sn} {tm : Nat} {tc th : Nat → Nat} {td : Nat → Bool} {sed : Int64} {k : Nat} {y : Int32} (hI : MInv H tx ln n sd kd s am stk kp ks tm tc th td sed) (hS : SpOK tx ln n sd kd s am stk kp ks tm tc th) (hk : k < n) (h : inR y 10 = false) : Cl tb 139 [.ref 111, .int (nI k), .int y] H (fun r H' => r = some (.int (-2)) ∧ MInv H' tx ln n sd kd s am stk kp ks tm tc th td sed ∧ Off mC H H') := by
  obtain ⟨f, g, nx, ⟨hC, hL, e3, e6, e7, e8, hnx⟩, hR⟩ := id hI
  obtain ⟨⟨b1, b2⟩, b3, b4, b5, b6, b7, b8, b9, b10, b11⟩ := id hS
  obtain ⟨c0, ⟨ms, mk, c1, c2, c3, c4⟩, c5⟩ := id hC
  unfold mOb at c0
  show Ev tb 139 0 [some (.ref 111), some (.int (nI k)), some (.int y), none] [] H _
  refine ev_aload_n i139_0 rfl ?_
  refine ev_iload_n i139_1 rfl ?_
  refine ev_callV (vs := [.int (nI k)]) (rest := []) i139_2 ci139 lk8_108 (congrArg (fun q => q + 1) np128) ci128 (by decide) (by decide +kernel) (Nat.le_of_ble_eq_true rfl) ⟨rfl, rfl, Nat.le_of_ble_eq_true rfl⟩ rfl (by assumption) (c128 hC b3 b5) (fun r HH hq => ?_)
  obtain ⟨rfl, rfl⟩ := hq
  rw [inR_n (by omega) (by omega), decide_eq_true hk]
  show Ev tb 139 5 [some (.ref 111), some (.int (nI k)), some (.int y), none] [.int (bI true)] H _
  refine evb_if_ne (t := 10) i139_5 (by decide) (fun z5 => ?_) (fun z5 => by exfalso; cases z5)
  refine ev_iload_n i139_10 rfl ?_
  refine ev_i2l i139_11 ?_
  refine ev_lconst (v := 0) i139_12 (by decide) ?_
  refine ev_ldc2 i139_13 ci139 ks8_75 ?_
  refine ev_callS (vs := [.long y.toInt64, .long 0, .long 9]) (rest := []) i139_16 ci139 lk8_62 (Or.inl rfl) np117 (by decide +kernel) (Nat.le_of_ble_eq_true rfl) ⟨rfl, rfl, Nat.le_of_ble_eq_true rfl⟩ rfl (c117) (fun r HH hq => ?_)
  obtain ⟨rfl, rfl⟩ := hq
  rw [inJ_R (x := y) (m := 10) (by decide) (by decide), h]
  show Ev tb 139 19 [some (.ref 111), some (.int (nI k)), some (.int y), none] [.int (bI false)] H _
  refine evb_if_ne (t := 25) i139_19 (by decide) (fun z19 => by exfalso; cases z19) (fun z19 => ?_)
  refine ev_bipush (v := (-2)) i139_22 (by decide) ?_
  refine ev_iret i139_24 (by decide +kernel) ?_
  exact ⟨rfl, hI, Off.rf⟩
theorem y139s {tb : dxT} {H : dxH} {tx : Nat → Nat} {ln n : Nat} {sd kd : Nat → Nat} {s : Sn} {am : Nat} {stk : Nat → Sn} {kp : Nat → Bool} {ks : Nat → Sn} {tm : Nat} {tc th : Nat → Nat} {td : Nat → Bool} {sed : Int64} {k c : Nat} (hI : MInv H tx ln n sd kd s am stk kp ks tm tc th td sed) (hS : SpOK tx ln n sd kd s am stk kp ks tm tc th) (hk : k < n) (hc : c < 10) (h : grzB (HE n) s.1 c = true) : Cl tb 139 [.ref 111, .int (nI k), .int (nI c)] H (fun r H' => r = some (.int (-3)) ∧ MInv H' tx ln n sd kd s am stk kp ks tm tc th td sed ∧ Off mC H H') := by
  obtain ⟨f, g, nx, ⟨hC, hL, e3, e6, e7, e8, hnx⟩, hR⟩ := id hI
  obtain ⟨⟨b1, b2⟩, b3, b4, b5, b6, b7, b8, b9, b10, b11⟩ := id hS
  obtain ⟨c0, ⟨ms, mk, c1, c2, c3, c4⟩, c5⟩ := id hC
  unfold mOb at c0
  show Ev tb 139 0 [some (.ref 111), some (.int (nI k)), some (.int (nI c)), none] [] H _
  refine ev_aload_n i139_0 rfl ?_
  refine ev_iload_n i139_1 rfl ?_
  refine ev_callV (vs := [.int (nI k)]) (rest := []) i139_2 ci139 lk8_108 (congrArg (fun q => q + 1) np128) ci128 (by decide) (by decide +kernel) (Nat.le_of_ble_eq_true rfl) ⟨rfl, rfl, Nat.le_of_ble_eq_true rfl⟩ rfl (by assumption) (c128 hC b3 b5) (fun r HH hq => ?_)
  obtain ⟨rfl, rfl⟩ := hq
  rw [inR_n (by omega) (by omega), decide_eq_true hk]
  show Ev tb 139 5 [some (.ref 111), some (.int (nI k)), some (.int (nI c)), none] [.int (bI true)] H _
  refine evb_if_ne (t := 10) i139_5 (by decide) (fun z5 => ?_) (fun z5 => by exfalso; cases z5)
  refine ev_iload_n i139_10 rfl ?_
  refine ev_i2l i139_11 ?_
  refine ev_lconst (v := 0) i139_12 (by decide) ?_
  refine ev_ldc2 i139_13 ci139 ks8_75 ?_
  refine ev_callS (vs := [.long ((nI c).toInt64), .long 0, .long 9]) (rest := []) i139_16 ci139 lk8_62 (Or.inl rfl) np117 (by decide +kernel) (Nat.le_of_ble_eq_true rfl) ⟨rfl, rfl, Nat.le_of_ble_eq_true rfl⟩ rfl (c117) (fun r HH hq => ?_)
  obtain ⟨rfl, rfl⟩ := hq
  rw [inJ_R (x := nI c) (m := 10) (by decide) (by decide), inR_n (by omega) (by decide), decide_eq_true hc]
  show Ev tb 139 19 [some (.ref 111), some (.int (nI k)), some (.int (nI c)), none] [.int (bI true)] H _
  refine evb_if_ne (t := 25) i139_19 (by decide) (fun z19 => ?_) (fun z19 => by exfalso; cases z19)
  refine ev_aload_n i139_25 rfl ?_
  refine ev_iload_n i139_26 rfl ?_
  refine ev_callV (vs := [.int (nI c)]) (rest := []) i139_27 ci139 lk8_135 (congrArg (fun q => q + 1) np138) ci138 (by decide) (by decide +kernel) (Nat.le_of_ble_eq_true rfl) ⟨rfl, rfl, Nat.le_of_ble_eq_true rfl⟩ rfl (by assumption) (c138 hC b3 hL b6.1 hc) (fun r HH hq => ?_)
  obtain ⟨rfl, rfl⟩ := hq
  rw [h]
  show Ev tb 139 30 [some (.ref 111), some (.int (nI k)), some (.int (nI c)), none] [.int (bI true)] H _
  refine evb_if_eq (t := 36) i139_30 (by decide) (fun z30 => by exfalso; cases z30) (fun z30 => ?_)
  refine ev_bipush (v := (-3)) i139_33 (by decide) ?_
  refine ev_iret i139_35 (by decide +kernel) ?_
  exact ⟨rfl, hI, Off.rf⟩
