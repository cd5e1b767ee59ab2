/-! the model's calls: kept  -/
theorem y169u {tb : dxT} {H : dxH} {tx : Nat → Nat} {ln n : Nat} {sd kd : Nat → Nat} {s : Sn} {am : Nat} {stk : Nat → Sn} {kp : Nat → Bool} {ks : Nat → Sn} {tm : Nat} {tc th : Nat → Nat} {td : Nat → Bool} {sed : Int64} {x : Int32} (hI : MInv H tx ln n sd kd s am stk kp ks tm tc th td sed) (hS : SpOK tx ln n sd kd s am stk kp ks tm tc th) (h : inR x 2 = false) : Cl tb 169 [.ref 111, .int x] H (fun r H' => r = some (.int (-1)) ∧ MInv H' tx ln n sd kd s am stk kp ks tm tc th td sed ∧ Off mC H H') := by
  obtain ⟨f, g, nx, ⟨hC, hL, e3, e6, e7, e8, hnx⟩, hR⟩ := id hI
  obtain ⟨⟨b1, b2⟩, b3, b4, b5, b6, b7, b8, b9, b10, b11⟩ := id hS
  obtain ⟨c0, ⟨ms, mk, c1, c2, c3, c4⟩, c5⟩ := id hC
  unfold mOb at c0
  show Ev tb 169 0 [some (.ref 111), some (.int x), none] [] H _
  refine ev_iload_n i169_0 rfl ?_
  refine ev_i2l i169_1 ?_
  refine ev_lconst (v := 0) i169_2 (by decide) ?_
  refine ev_lconst (v := 1) i169_3 (by decide) ?_
  refine ev_callS (vs := [.long x.toInt64, .long 0, .long 1]) (rest := []) i169_4 ci169 lk8_62 (Or.inl rfl) np117 (by decide +kernel) (Nat.le_of_ble_eq_true rfl) ⟨rfl, rfl, Nat.le_of_ble_eq_true rfl⟩ rfl (c117) (fun r HH hq => ?_)
  obtain ⟨rfl, rfl⟩ := hq
  rw [inJ_R (x := x) (m := 2) (by decide) (by decide), h]
  show Ev tb 169 7 [some (.ref 111), some (.int x), none] [.int (bI false)] H _
  refine evb_if_ne (t := 12) i169_7 (by decide) (fun z7 => by exfalso; cases z7) (fun z7 => ?_)
  refine ev_iconst (v := (-1)) i169_10 (by decide) ?_
  refine ev_iret i169_11 (by decide +kernel) ?_
  exact ⟨rfl, hI, Off.rf⟩
theorem y170u {tb : dxT} {H : dxH} {tx : Nat → Nat} {ln n : Nat} {sd kd : Nat → Nat} {s : Sn} {am : Nat} {stk : Nat → Sn} {kp : Nat → Bool} {ks : Nat → Sn} {tm : Nat} {tc th : Nat → Nat} {td : Nat → Bool} {sed : Int64} {x : Int32} (hI : MInv H tx ln n sd kd s am stk kp ks tm tc th td sed) (hS : SpOK tx ln n sd kd s am stk kp ks tm tc th) (h : inR x 2 = false) : Cl tb 170 [.ref 111, .int x] H (fun r H' => r = some (.int (-1)) ∧ MInv H' tx ln n sd kd s am stk kp ks tm tc th td sed ∧ Off mC H H') := by
  obtain ⟨f, g, nx, ⟨hC, hL, e3, e6, e7, e8, hnx⟩, hR⟩ := id hI
  obtain ⟨⟨b1, b2⟩, b3, b4, b5, b6, b7, b8, b9, b10, b11⟩ := id hS
  obtain ⟨c0, ⟨ms, mk, c1, c2, c3, c4⟩, c5⟩ := id hC
  unfold mOb at c0
  show Ev tb 170 0 [some (.ref 111), some (.int x), none] [] H _
  refine ev_iload_n i170_0 rfl ?_
  refine ev_i2l i170_1 ?_
  refine ev_lconst (v := 0) i170_2 (by decide) ?_
  refine ev_lconst (v := 1) i170_3 (by decide) ?_
  refine ev_callS (vs := [.long x.toInt64, .long 0, .long 1]) (rest := []) i170_4 ci170 lk8_62 (Or.inl rfl) np117 (by decide +kernel) (Nat.le_of_ble_eq_true rfl) ⟨rfl, rfl, Nat.le_of_ble_eq_true rfl⟩ rfl (c117) (fun r HH hq => ?_)
  obtain ⟨rfl, rfl⟩ := hq
  rw [inJ_R (x := x) (m := 2) (by decide) (by decide), h]
  show Ev tb 170 7 [some (.ref 111), some (.int x), none] [.int (bI false)] H _
  refine evb_if_ne (t := 12) i170_7 (by decide) (fun z7 => by exfalso; cases z7) (fun z7 => ?_)
  refine ev_iconst (v := (-1)) i170_10 (by decide) ?_
  refine ev_iret i170_11 (by decide +kernel) ?_
  exact ⟨rfl, hI, Off.rf⟩
theorem y170e {tb : dxT} {H : dxH} {tx : Nat → Nat} {ln n : Nat} {sd kd : Nat → Nat} {s : Sn} {am : Nat} {stk : Nat → Sn} {kp : Nat → Bool} {ks : Nat → Sn} {tm : Nat} {tc th : Nat → Nat} {td : Nat → Bool} {sed : Int64} {i : Nat} (hI : MInv H tx ln n sd kd s am stk kp ks tm tc th td sed) (hS : SpOK tx ln n sd kd s am stk kp ks tm tc th) (hi : i < 2) (h : kp i = false) : Cl tb 170 [.ref 111, .int (nI i)] H (fun r H' => r = some (.int (-3)) ∧ MInv H' tx ln n sd kd s am stk kp ks tm tc th td sed ∧ Off mC H H') := by
  obtain ⟨f, g, nx, ⟨hC, hL, e3, e6, e7, e8, hnx⟩, hR⟩ := id hI
  obtain ⟨⟨b1, b2⟩, b3, b4, b5, b6, b7, b8, b9, b10, b11⟩ := id hS
  obtain ⟨c0, ⟨ms, mk, c1, c2, c3, c4⟩, c5⟩ := id hC
  unfold mOb at c0
  obtain ⟨_, _, _, ⟨kq, kg, k0, k1, k2, k3⟩, _⟩ := id hR
  show Ev tb 170 0 [some (.ref 111), some (.int (nI i)), none] [] H _
  refine ev_iload_n i170_0 rfl ?_
  refine ev_i2l i170_1 ?_
  refine ev_lconst (v := 0) i170_2 (by decide) ?_
  refine ev_lconst (v := 1) i170_3 (by decide) ?_
  refine ev_callS (vs := [.long ((nI i).toInt64), .long 0, .long 1]) (rest := []) i170_4 ci170 lk8_62 (Or.inl rfl) np117 (by decide +kernel) (Nat.le_of_ble_eq_true rfl) ⟨rfl, rfl, Nat.le_of_ble_eq_true rfl⟩ rfl (c117) (fun r HH hq => ?_)
  obtain ⟨rfl, rfl⟩ := hq
  rw [inJ_R (x := nI i) (m := 2) (by decide) (by decide), inR_n (by omega) (by decide), decide_eq_true hi]
  show Ev tb 170 7 [some (.ref 111), some (.int (nI i)), none] [.int (bI true)] H _
  refine evb_if_ne (t := 12) i170_7 (by decide) (fun z7 => ?_) (fun z7 => by exfalso; cases z7)
  refine ev_aload_n i170_12 rfl ?_
  refine ev_get i170_13 ci170 fl8_50 (by assumption) rfl ?_
  refine ev_iload_n i170_16 rfl ?_
  refine evz_bald i170_17 (by assumption) (by omega) ?_
  rw [k1 i hi, h]
  refine evb_if_ne (t := 24) i170_18 (by decide) (fun z18 => by exfalso; cases z18) (fun z18 => ?_)
  refine ev_bipush (v := (-3)) i170_21 (by decide) ?_
  refine ev_iret i170_23 (by decide +kernel) ?_
  exact ⟨rfl, hI, Off.rf⟩
theorem MRest.am0 {H : dxH} {tx : Nat → Nat} {ln n am nx : Nat} {stk : Nat → Sn} {kp : Nat → Bool} {ks : Nat → Sn} {tm : Nat} {tc th : Nat → Nat} {td : Nat → Bool} (h : MRest H tx ln n am nx stk kp ks tm tc th td) : MRest H tx ln n 0 nx stk kp ks tm tc th td := by
  obtain ⟨⟨rw, h1, h2⟩, h3⟩ := h
  exact ⟨⟨rw, h1, fun i hi => absurd hi (Nat.not_lt_zero _)⟩, h3⟩
theorem lq170 {tb : dxT} {H : dxH} {n : Nat} {f : Nat → Int32} {sed : Int64} {sd kd : Nat → Nat} {i : Nat} {kg : Nat → Int32} {Q : Option Value → dxH → Prop} (hi : i < 2) : ∀ (d k : Nat) (H1 : dxH) (g1 : Nat → Int32), k + d = 27 → MC H1 n f sed sd kd g1 → H1[126]? = some (.inl (0, 54, .inl kg)) → (∀ j, j < k → g1 j = kg (27 * i + j)) → Off (fun j => j = 114) H H1 → (∀ H3 g3, MC H3 n f sed sd kd g3 → H3[126]? = some (.inl (0, 54, .inl kg)) → (∀ j, j < 27 → g3 j = kg (27 * i + j)) → Off (fun j => j = 114) H H3 → Ev tb 170 55 [some (.ref 111), some (.int (nI i)), some (.int (nI 27))] [] H3 Q) → Ev tb 170 26 [some (.ref 111), some (.int (nI i)), some (.int (nI k))] [] H1 Q
  | 0, k, H1, g1, hk, hC, hr, h1, hO, hQ => by
    obtain rfl : k = 27 := by omega
    obtain ⟨c0, ⟨ms, mk, c1, c2, c3, c4⟩, c5⟩ := id hC
    unfold mOb at c0
    refine ev_iload_n i170_26 rfl ?_
    refine ev_bipush (v := nI 27) i170_27 (by decide) ?_
    refine evn_icmp_ge (t := 55) i170_29 (by decide) (by omega) (fun z29 => ?_) (fun z29 => by exfalso; omega)
    exact hQ H1 g1 hC hr h1 hO
  | d + 1, k, H1, g1, hk, hC, hr, h1, hO, hQ => by
    obtain ⟨c0, ⟨ms, mk, c1, c2, c3, c4⟩, c5⟩ := id hC
    unfold mOb at c0
    refine ev_iload_n i170_26 rfl ?_
    refine ev_bipush (v := nI 27) i170_27 (by decide) ?_
    refine evn_icmp_ge (t := 55) i170_29 (by decide) (by omega) (fun z29 => by exfalso; omega) (fun z29 => ?_)
    refine ev_aload_n i170_32 rfl ?_
    refine ev_get i170_33 ci170 fl8_16 (by assumption) rfl ?_
    refine ev_iload_n i170_36 rfl ?_
    refine ev_aload_n i170_37 rfl ?_
    refine ev_get i170_38 ci170 fl8_53 (by assumption) rfl ?_
    refine ev_bipush (v := nI 27) i170_41 (by decide) ?_
    refine ev_iload_n i170_43 rfl ?_
    refine evn_imul i170_44 ?_
    refine ev_iload_n i170_45 rfl ?_
    refine evn_iadd i170_46 ?_
    refine ev_iald_n i170_47 (by assumption) (by omega) ?_
    refine evs_iastw i170_48 (by assumption) (by omega) (fun H2 hH2 => ?_)
    have c0 : H2[111]? = some (.inr (8, [.int (nI n), .ref 112, .ref 113, .ref 114, .ref 115, .ref 116, .ref 117, .int (f 0), .int (f 1), .int (f 2), .ref 118, .int (f 3), .int (f 4), .int (f 5), .int (f 6), .int (f 7), .ref 119, .ref 120, .int (f 8), .ref 121, .ref 122, .ref 123, .ref 124, .long sed, .ref 125, .ref 126])) := by rw [hH2]; exact set_ne c0 (by omega)
    have c1 : H2[112]? = some (.inl (0, 6, .inl ms)) := by rw [hH2]; exact set_ne c1 (by omega)
    have c3 : H2[113]? = some (.inl (0, 6, .inl mk)) := by rw [hH2]; exact set_ne c3 (by omega)
    have c5 : H2[114]? = some (.inl (0, 54, .inl (upd g1 k (kg ((27 * i) + k))))) := by rw [hH2]; exact set_self c5
    have hr : H2[126]? = some (.inl (0, 54, .inl kg)) := by rw [hH2]; exact set_ne hr (by omega)
    have hO : Off (fun j => j = 114) H H2 := by rw [hH2]; exact hO.set (by rfl)
    refine evn_iinc (d := 1) (L' := [some (.ref 111), some (.int (nI i)), some (.int (nI (k + 1)))]) i170_49 rfl rfl (by decide) rfl ?_
    refine ev_goto (t := 26) i170_52 (by decide) ?_
    exact lq170 hi d (k + 1) _ _ (by omega) ⟨c0, ⟨ms, mk, c1, c2, c3, c4⟩, c5⟩ hr (fun j hj => by
      unfold upd
      by_cases q : j = k
      · rw [if_pos (by omega), q]
      · rw [if_neg (by omega)]; exact h1 j (by omega)) hO hQ
theorem y170 {tb : dxT} {H : dxH} {tx : Nat → Nat} {ln n : Nat} {sd kd : Nat → Nat} {s : Sn} {am : Nat} {stk : Nat → Sn} {kp : Nat → Bool} {ks : Nat → Sn} {tm : Nat} {tc th : Nat → Nat} {td : Nat → Bool} {sed : Int64} {i : Nat} (hI : MInv H tx ln n sd kd s am stk kp ks tm tc th td sed) (hS : SpOK tx ln n sd kd s am stk kp ks tm tc th) (hi : i < 2) (h : kp i = true) : Cl tb 170 [.ref 111, .int (nI i)] H (fun r H' => r = some (.int ((ks i).2.2.2.2.2.1)) ∧ MInv H' tx ln n sd kd (ks i) 0 stk kp ks tm tc th td sed ∧ Off mC H H') := by
  obtain ⟨f, g, nx, ⟨hC, hL, e3, e6, e7, e8, hnx⟩, hR⟩ := id hI
  obtain ⟨⟨b1, b2⟩, b3, b4, b5, b6, b7, b8, b9, b10, b11⟩ := id hS
  obtain ⟨c0, ⟨ms, mk, c1, c2, c3, c4⟩, c5⟩ := id hC
  unfold mOb at c0
  obtain ⟨_, _, _, ⟨kq, kg, k0, k1, k2, k3⟩, _⟩ := id hR
  show Ev tb 170 0 [some (.ref 111), some (.int (nI i)), none] [] H _
  refine ev_iload_n i170_0 rfl ?_
  refine ev_i2l i170_1 ?_
  refine ev_lconst (v := 0) i170_2 (by decide) ?_
  refine ev_lconst (v := 1) i170_3 (by decide) ?_
  refine ev_callS (vs := [.long ((nI i).toInt64), .long 0, .long 1]) (rest := []) i170_4 ci170 lk8_62 (Or.inl rfl) np117 (by decide +kernel) (Nat.le_of_ble_eq_true rfl) ⟨rfl, rfl, Nat.le_of_ble_eq_true rfl⟩ rfl (c117) (fun r HH hq => ?_)
  obtain ⟨rfl, rfl⟩ := hq
  rw [inJ_R (x := nI i) (m := 2) (by decide) (by decide), inR_n (by omega) (by decide), decide_eq_true hi]
  show Ev tb 170 7 [some (.ref 111), some (.int (nI i)), none] [.int (bI true)] H _
  refine evb_if_ne (t := 12) i170_7 (by decide) (fun z7 => ?_) (fun z7 => by exfalso; cases z7)
  refine ev_aload_n i170_12 rfl ?_
  refine ev_get i170_13 ci170 fl8_50 (by assumption) rfl ?_
  refine ev_iload_n i170_16 rfl ?_
  refine evz_bald i170_17 (by assumption) (by omega) ?_
  rw [k1 i hi, h]
  refine evb_if_ne (t := 24) i170_18 (by decide) (fun z18 => ?_) (fun z18 => by exfalso; cases z18)
  refine ev_iconst (v := nI 0) i170_24 (by decide) ?_
  refine ev_istore_n (L' := [some (.ref 111), some (.int (nI i)), some (.int (nI 0))]) i170_25 ⟨Nat.le_of_ble_eq_true rfl, rfl⟩ rfl ?_
  refine lq170 (H := H) (kg := kg) hi 27 0 H g (by omega) hC k2 (fun j hj => absurd hj (Nat.not_lt_zero _)) Off.rf (fun H3 g3 hC3 hr3 h1 hO3 => ?_)
  have hO : Off (fun j => j = 111 ∨ j = 114) H H3 := hO3.weaken (fun j q => Or.inr q)
  have hL3 : LvS g3 0 n (ks i) := (k3 i hi h).cp b3 (fun j hj => by rw [Nat.zero_add]; exact h1 j hj)
  obtain ⟨c0, ⟨ms, mk, c1, c2, c3, c4⟩, c5⟩ := id hC3
  unfold mOb at c0
  refine ev_aload_n i170_55 rfl ?_
  refine ev_iconst (v := nI 0) i170_56 (by decide) ?_
  refine evs_put (fs' := [.int (nI n), .ref 112, .ref 113, .ref 114, .ref 115, .ref 116, .ref 117, .int (f 0), .int (f 1), .int (f 2), .ref 118, .int (f 3), .int (f 4), .int (f 5), .int (nI 0), .int (f 7), .ref 119, .ref 120, .int (f 8), .ref 121, .ref 122, .ref 123, .ref 124, .long sed, .ref 125, .ref 126]) i170_57 ci170 fl8_105 (by assumption) ⟨Nat.le_of_ble_eq_true rfl, rfl, Or.inl rfl⟩ rfl (fun H4 hH4 => ?_)
  have c0 : H4[111]? = some (.inr (8, [.int (nI n), .ref 112, .ref 113, .ref 114, .ref 115, .ref 116, .ref 117, .int (f 0), .int (f 1), .int (f 2), .ref 118, .int (f 3), .int (f 4), .int (f 5), .int (nI 0), .int (f 7), .ref 119, .ref 120, .int (f 8), .ref 121, .ref 122, .ref 123, .ref 124, .long sed, .ref 125, .ref 126])) := by rw [hH4]; exact set_self c0
  have c1 : H4[112]? = some (.inl (0, 6, .inl ms)) := by rw [hH4]; exact set_ne c1 (by omega)
  have c3 : H4[113]? = some (.inl (0, 6, .inl mk)) := by rw [hH4]; exact set_ne c3 (by omega)
  have c5 : H4[114]? = some (.inl (0, 54, .inl g3)) := by rw [hH4]; exact set_ne c5 (by omega)
  have hO : Off (fun j => j = 111 ∨ j = 114) H H4 := by rw [hH4]; exact hO.set (by exact Or.inl rfl)
  refine ev_aload_n i170_60 rfl ?_
  refine ev_get i170_61 ci170 fl8_16 (by assumption) rfl ?_
  refine ev_bipush (v := nI 26) i170_64 (by decide) ?_
  refine ev_iald_n i170_66 (by assumption) (by omega) ?_
  have hh : g3 26 = (ks i).2.2.2.2.2.1 := hL3.2.2.2.2.2.2
  rw [hh]
  refine ev_iret i170_67 (by decide +kernel) ?_
  exact ⟨rfl, ⟨upd f 6 (nI 0), g3, nx, ⟨⟨c0, ⟨ms, mk, c1, c2, c3, c4⟩, c5⟩, hL3, e3, rfl, e7, e8, hnx⟩, hR.am0.off hO (fun j a b => by omega)⟩, hO.weaken (fun j q => by unfold mC; omega)⟩
theorem MRest.kept {H H' : dxH} {tx : Nat → Nat} {ln n am nx : Nat} {stk : Nat → Sn} {kp kp' : Nat → Bool} {ks ks' : Nat → Sn} {tm : Nat} {tc th : Nat → Nat} {td : Nat → Bool} {A : Nat → Prop} {kq : Nat → Bool} {kg : Nat → Int32} (h : MRest H tx ln n am nx stk kp ks tm tc th td) (hO : Off A H H') (hA : ∀ j, 115 ≤ j → j ≤ 126 → ¬ (125 ≤ j ∧ j ≤ 126) → ¬ A j) (ha : H'[125]? = some (ZA 2 kq)) (hb : H'[126]? = some (.inl (0, 54, .inl kg))) (hk : ∀ i, i < 2 → kq i = kp' i) (ht : ∀ i, i < 2 → kp' i = true → LvS kg (27 * i) n (ks' i)) : MRest H' tx ln n am nx stk kp' ks' tm tc th td := by
  obtain ⟨⟨rw, h1, h2⟩, ⟨mt, h3, h4⟩, ⟨a, b, c, h5, h6, h7, h8⟩, _, ⟨q1, i4⟩, ⟨q2, i5⟩, ⟨q3, i6⟩, ⟨q4, i7⟩, q5, i8⟩ := h
  have o : ∀ (j : Nat) (e : dxE), 115 ≤ j → j ≤ 126 → ¬ (125 ≤ j ∧ j ≤ 126) → H[j]? = some e → H'[j]? = some e := fun j e a b c hj => hO.at hj (hA j a b c)
  exact ⟨⟨rw, o _ _ (by decide) (by decide) (by decide) h1, h2⟩, ⟨mt, o _ _ (by decide) (by decide) (by decide) h3, h4⟩, ⟨a, b, c, o _ _ (by decide) (by decide) (by decide) h5, o _ _ (by decide) (by decide) (by decide) h6, o _ _ (by decide) (by decide) (by decide) h7, h8⟩, ⟨kq, kg, ha, hk, hb, ht⟩, ⟨q1, o _ _ (by decide) (by decide) (by decide) i4⟩, ⟨q2, o _ _ (by decide) (by decide) (by decide) i5⟩, ⟨q3, o _ _ (by decide) (by decide) (by decide) i6⟩, ⟨q4, o _ _ (by decide) (by decide) (by decide) i7⟩, q5, o _ _ (by decide) (by decide) (by decide) i8⟩
theorem lq169 {tb : dxT} {H : dxH} {n : Nat} {f : Nat → Int32} {sed : Int64} {sd kd : Nat → Nat} {g : Nat → Int32} {i : Nat} {kg : Nat → Int32} {Q : Option Value → dxH → Prop} (hi : i < 2) : ∀ (d k : Nat) (H1 : dxH) (kg1 : Nat → Int32), k + d = 27 → MC H1 n f sed sd kd g → H1[126]? = some (.inl (0, 54, .inl kg1)) → (∀ j, j < k → kg1 (27 * i + j) = g j) → (∀ j, (j < 27 * i ∨ 27 * i + 27 ≤ j) → kg1 j = kg j) → Off (fun j => j = 126) H H1 → (∀ H3 kg3, MC H3 n f sed sd kd g → H3[126]? = some (.inl (0, 54, .inl kg3)) → (∀ j, j < 27 → kg3 (27 * i + j) = g j) → (∀ j, (j < 27 * i ∨ 27 * i + 27 ≤ j) → kg3 j = kg j) → Off (fun j => j = 126) H H3 → Ev tb 169 50 [some (.ref 111), some (.int (nI i)), some (.int (nI 27))] [] H3 Q) → Ev tb 169 21 [some (.ref 111), some (.int (nI i)), some (.int (nI k))] [] H1 Q
  | 0, k, H1, kg1, hk, hC, hr, h1, h2, hO, hQ => by
    obtain rfl : k = 27 := by omega
    obtain ⟨c0, ⟨ms, mk, c1, c2, c3, c4⟩, c5⟩ := id hC
    unfold mOb at c0
    refine ev_iload_n i169_21 rfl ?_
    refine ev_bipush (v := nI 27) i169_22 (by decide) ?_
    refine evn_icmp_ge (t := 50) i169_24 (by decide) (by omega) (fun z24 => ?_) (fun z24 => by exfalso; omega)
    exact hQ H1 kg1 hC hr h1 h2 hO
  | d + 1, k, H1, kg1, hk, hC, hr, h1, h2, hO, hQ => by
    obtain ⟨c0, ⟨ms, mk, c1, c2, c3, c4⟩, c5⟩ := id hC
    unfold mOb at c0
    refine ev_iload_n i169_21 rfl ?_
    refine ev_bipush (v := nI 27) i169_22 (by decide) ?_
    refine evn_icmp_ge (t := 50) i169_24 (by decide) (by omega) (fun z24 => by exfalso; omega) (fun z24 => ?_)
    refine ev_aload_n i169_27 rfl ?_
    refine ev_get i169_28 ci169 fl8_53 (by assumption) rfl ?_
    refine ev_bipush (v := nI 27) i169_31 (by decide) ?_
    refine ev_iload_n i169_33 rfl ?_
    refine evn_imul i169_34 ?_
    refine ev_iload_n i169_35 rfl ?_
    refine evn_iadd i169_36 ?_
    refine ev_aload_n i169_37 rfl ?_
    refine ev_get i169_38 ci169 fl8_16 (by assumption) rfl ?_
    refine ev_iload_n i169_41 rfl ?_
    refine ev_iald_n i169_42 (by assumption) (by omega) ?_
    refine evs_iastw i169_43 (by assumption) (by omega) (fun H2 hH2 => ?_)
    have c0 : H2[111]? = some (.inr (8, [.int (nI n), .ref 112, .ref 113, .ref 114, .ref 115, .ref 116, .ref 117, .int (f 0), .int (f 1), .int (f 2), .ref 118, .int (f 3), .int (f 4), .int (f 5), .int (f 6), .int (f 7), .ref 119, .ref 120, .int (f 8), .ref 121, .ref 122, .ref 123, .ref 124, .long sed, .ref 125, .ref 126])) := by rw [hH2]; exact set_ne c0 (by omega)
    have c1 : H2[112]? = some (.inl (0, 6, .inl ms)) := by rw [hH2]; exact set_ne c1 (by omega)
    have c3 : H2[113]? = some (.inl (0, 6, .inl mk)) := by rw [hH2]; exact set_ne c3 (by omega)
    have c5 : H2[114]? = some (.inl (0, 54, .inl g)) := by rw [hH2]; exact set_ne c5 (by omega)
    have hr : H2[126]? = some (.inl (0, 54, .inl (upd kg1 ((27 * i) + k) (g k)))) := by rw [hH2]; exact set_self hr
    have hO : Off (fun j => j = 126) H H2 := by rw [hH2]; exact hO.set (by rfl)
    refine evn_iinc (d := 1) (L' := [some (.ref 111), some (.int (nI i)), some (.int (nI (k + 1)))]) i169_44 rfl rfl (by decide) rfl ?_
    refine ev_goto (t := 21) i169_47 (by decide) ?_
    exact lq169 hi d (k + 1) _ _ (by omega) ⟨c0, ⟨ms, mk, c1, c2, c3, c4⟩, c5⟩ hr (fun j hj => by
      unfold upd
      by_cases q : j = k
      · rw [if_pos (by omega), q]
      · rw [if_neg (by omega)]; exact h1 j (by omega)) (fun j hj => by unfold upd; rw [if_neg (by omega)]; exact h2 j hj) hO hQ
theorem y169 {tb : dxT} {H : dxH} {tx : Nat → Nat} {ln n : Nat} {sd kd : Nat → Nat} {s : Sn} {am : Nat} {stk : Nat → Sn} {kp : Nat → Bool} {ks : Nat → Sn} {tm : Nat} {tc th : Nat → Nat} {td : Nat → Bool} {sed : Int64} {i : Nat} (hI : MInv H tx ln n sd kd s am stk kp ks tm tc th td sed) (hS : SpOK tx ln n sd kd s am stk kp ks tm tc th) (hi : i < 2) : Cl tb 169 [.ref 111, .int (nI i)] H (fun r H' => r = some (.int s.2.2.2.2.2.1) ∧ MInv H' tx ln n sd kd s am stk (updB kp i true) (updS ks i s) tm tc th td sed ∧ Off mC H H') := by
  obtain ⟨f, g, nx, ⟨hC, hL, e3, e6, e7, e8, hnx⟩, hR⟩ := id hI
  obtain ⟨⟨b1, b2⟩, b3, b4, b5, b6, b7, b8, b9, b10, b11⟩ := id hS
  obtain ⟨c0, ⟨ms, mk, c1, c2, c3, c4⟩, c5⟩ := id hC
  unfold mOb at c0
  obtain ⟨_, _, _, ⟨kq, kg, k0, k1, k2, k3⟩, _⟩ := id hR
  have hO : Off (fun j => j = 125) H H := Off.rf
  show Ev tb 169 0 [some (.ref 111), some (.int (nI i)), none] [] H _
  refine ev_iload_n i169_0 rfl ?_
  refine ev_i2l i169_1 ?_
  refine ev_lconst (v := 0) i169_2 (by decide) ?_
  refine ev_lconst (v := 1) i169_3 (by decide) ?_
  refine ev_callS (vs := [.long ((nI i).toInt64), .long 0, .long 1]) (rest := []) i169_4 ci169 lk8_62 (Or.inl rfl) np117 (by decide +kernel) (Nat.le_of_ble_eq_true rfl) ⟨rfl, rfl, Nat.le_of_ble_eq_true rfl⟩ rfl (c117) (fun r HH hq => ?_)
  obtain ⟨rfl, rfl⟩ := hq
  rw [inJ_R (x := nI i) (m := 2) (by decide) (by decide), inR_n (by omega) (by decide), decide_eq_true hi]
  show Ev tb 169 7 [some (.ref 111), some (.int (nI i)), none] [.int (bI true)] H _
  refine evb_if_ne (t := 12) i169_7 (by decide) (fun z7 => ?_) (fun z7 => by exfalso; cases z7)
  refine ev_aload_n i169_12 rfl ?_
  refine ev_get i169_13 ci169 fl8_50 (by assumption) rfl ?_
  refine ev_iload_n i169_16 rfl ?_
  refine ev_iconst (v := nI 1) i169_17 (by decide) ?_
  refine evz_bastt i169_18 (by assumption) (by omega) (fun H1 hH1 => ?_)
  have c0 : H1[111]? = some (.inr (8, [.int (nI n), .ref 112, .ref 113, .ref 114, .ref 115, .ref 116, .ref 117, .int (f 0), .int (f 1), .int (f 2), .ref 118, .int (f 3), .int (f 4), .int (f 5), .int (f 6), .int (f 7), .ref 119, .ref 120, .int (f 8), .ref 121, .ref 122, .ref 123, .ref 124, .long sed, .ref 125, .ref 126])) := by rw [hH1]; exact set_ne c0 (by omega)
  have c1 : H1[112]? = some (.inl (0, 6, .inl ms)) := by rw [hH1]; exact set_ne c1 (by omega)
  have c3 : H1[113]? = some (.inl (0, 6, .inl mk)) := by rw [hH1]; exact set_ne c3 (by omega)
  have c5 : H1[114]? = some (.inl (0, 54, .inl g)) := by rw [hH1]; exact set_ne c5 (by omega)
  have k0 : H1[125]? = some (ZA 2 (updB kq i true)) := by rw [hH1]; exact set_self k0
  have k2 : H1[126]? = some (.inl (0, 54, .inl kg)) := by rw [hH1]; exact set_ne k2 (by omega)
  have hO : Off (fun j => j = 125) H H1 := by rw [hH1]; exact hO.set (by rfl)
  refine ev_iconst (v := nI 0) i169_19 (by decide) ?_
  refine ev_istore_n (L' := [some (.ref 111), some (.int (nI i)), some (.int (nI 0))]) i169_20 ⟨Nat.le_of_ble_eq_true rfl, rfl⟩ rfl ?_
  refine lq169 (H := H1) (kg := kg) hi 27 0 H1 kg (by omega) ⟨c0, ⟨ms, mk, c1, c2, c3, c4⟩, c5⟩ k2 (fun j hj => absurd hj (Nat.not_lt_zero _)) (fun j _ => rfl) Off.rf (fun H3 kg3 hC3 hr3 h1 h2 hO3 => ?_)
  have hO4 : Off (fun j => j = 125 ∨ j = 126) H H3 := hO.trans hO3 (fun _ q => Or.inl q) (fun _ q => Or.inr q)
  have hq3 := hO3.at k0 (by omega)
  obtain ⟨c0, ⟨ms, mk, c1, c2, c3, c4⟩, c5⟩ := id hC3
  unfold mOb at c0
  refine ev_aload_n i169_50 rfl ?_
  refine ev_get i169_51 ci169 fl8_16 (by assumption) rfl ?_
  refine ev_bipush (v := nI 26) i169_54 (by decide) ?_
  refine ev_iald_n i169_56 (by assumption) (by omega) ?_
  have hh : g 26 = s.2.2.2.2.2.1 := hL.2.2.2.2.2.2
  rw [hh]
  refine ev_iret i169_57 (by decide +kernel) ?_
  exact ⟨rfl, ⟨f, g, nx, ⟨hC3, hL, e3, e6, e7, e8, hnx⟩, hR.kept hO4 (fun j a b c => by omega) hq3 hr3 (fun j hj => by
    unfold updB
    by_cases q : j = i
    · rw [if_pos q, if_pos q]
    · rw [if_neg q, if_neg q]; exact k1 j hj) (fun j hj hjk => by
    unfold updB at hjk
    unfold updS
    by_cases q : j = i
    · rw [if_pos q, q]
      exact hL.cp b3 (fun a ha => by rw [Nat.zero_add]; exact h1 a ha)
    · rw [if_neg q] at hjk ⊢
      exact (k3 j hj hjk).cp b3 (fun a ha => h2 _ (by omega)))⟩, hO4.weaken (fun j q => by unfold mC; omega)⟩
