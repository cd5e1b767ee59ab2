/-! the model's calls: kept  -/
theorem y169u {tb : dxT} {H : dxH} {tx : Nat → Nat} {ln n : Nat} {sd kd : Nat → Nat} {s : Sn} {am : Nat} {stk : Nat → Sn} {kp : Nat → Bool} {ks : Nat → Sn} {tm : Nat} {tc th : Nat → Nat} {td : Nat → Bool} {sed : Int64} {x : Int32} (hI : MInv H tx ln n sd kd s am stk kp ks tm tc th td sed) (hS : SpOK tx ln n sd kd s am stk kp ks tm tc th) (h : inR x 2 = false) : Cl tb 169 [.ref 111, .int x] H (fun r H' => r = some (.int (-1)) ∧ MInv H' tx ln n sd kd s am stk kp ks tm tc th td sed ∧ Off mC H H') := by
  obtain ⟨f, g, nx, ⟨hC, hL, e3, e6, e7, e8, hnx⟩, hR⟩ := id hI
  obtain ⟨⟨b1, b2⟩, b3, b4, b5, b6, b7, b8, b9, b10, b11⟩ := id hS
  obtain ⟨c0, ⟨ms, mk, c1, c2, c3, c4⟩, c5⟩ := id hC
  unfold mOb at c0
  show Ev tb 169 0 [some (.ref 111), some (.int x), none] [] H _
  refine ev_iload_n i169_0 rfl ?_
  refine ev_i2l i169_1 ?_
  refine ev_lconst (v := 0) i169_2 (by decide) ?_
  refine ev_lconst (v := 1) i169_3 (by decide) ?_
  refine ev_callS (vs := [.long x.toInt64, .long 0, .long 1]) (rest := []) i169_4 ci169 lk8_62 (Or.inl rfl) np117 (by decide +kernel) (Nat.le_of_ble_eq_true rfl) ⟨rfl, rfl, Nat.le_of_ble_eq_true rfl⟩ rfl (c117) (fun r HH hq => ?_)
  obtain ⟨rfl, rfl⟩ := hq
  rw [inJ_R (x := x) (m := 2) (by decide) (by decide), h]
  show Ev tb 169 7 [some (.ref 111), some (.int x), none] [.int (bI false)] H _
  refine evb_if_ne (t := 12) i169_7 (by decide) (fun z7 => by exfalso; cases z7) (fun z7 => ?_)
  refine ev_iconst (v := (-1)) i169_10 (by decide) ?_
  refine ev_iret i169_11 (by decide +kernel) ?_
  exact ⟨rfl, hI, Off.rf⟩
theorem y170u {tb : dxT} {H : dxH} {tx : Nat → Nat} {ln n : Nat} {sd kd : Nat → Nat} {s : Sn} {am : Nat} {stk : Nat → Sn} {kp : Nat → Bool} {ks : Nat → Sn} {tm : Nat} {tc th : Nat → Nat} {td : Nat → Bool} {sed : Int64} {x : Int32} (hI : MInv H tx ln n sd kd s am stk kp ks tm tc th td sed) (hS : SpOK tx ln n sd kd s am stk kp ks tm tc th) (h : inR x 2 = false) : Cl tb 170 [.ref 111, .int x] H (fun r H' => r = some (.int (-1)) ∧ MInv H' tx ln n sd kd s am stk kp ks tm tc th td sed ∧ Off mC H H') := by
  obtain ⟨f, g, nx, ⟨hC, hL, e3, e6, e7, e8, hnx⟩, hR⟩ := id hI
  obtain ⟨⟨b1, b2⟩, b3, b4, b5, b6, b7, b8, b9, b10, b11⟩ := id hS
  obtain ⟨c0, ⟨ms, mk, c1, c2, c3, c4⟩, c5⟩ := id hC
  unfold mOb at c0
  show Ev tb 170 0 [some (.ref 111), some (.int x), none] [] H _
  refine ev_iload_n i170_0 rfl ?_
  refine ev_i2l i170_1 ?_
  refine ev_lconst (v := 0) i170_2 (by decide) ?_
  refine ev_lconst (v := 1) i170_3 (by decide) ?_
  refine ev_callS (vs := [.long x.toInt64, .long 0, .long 1]) (rest := []) i170_4 ci170 lk8_62 (Or.inl rfl) np117 (by decide +kernel) (Nat.le_of_ble_eq_true rfl) ⟨rfl, rfl, Nat.le_of_ble_eq_true rfl⟩ rfl (c117) (fun r HH hq => ?_)
  obtain ⟨rfl, rfl⟩ := hq
  rw [inJ_R (x := x) (m := 2) (by decide) (by decide), h]
  show Ev tb 170 7 [some (.ref 111), some (.int x), none] [.int (bI false)] H _
  refine evb_if_ne (t := 12) i170_7 (by decide) (fun z7 => by exfalso; cases z7) (fun z7 => ?_)
  refine ev_iconst (v := (-1)) i170_10 (by decide) ?_
  refine ev_iret i170_11 (by decide +kernel) ?_
  exact ⟨rfl, hI, Off.rf⟩
theorem y170e {tb : dxT} {H : dxH} {tx : Nat → Nat} {ln n : Nat} {sd kd : Nat → Nat} {s : Sn} {am : Nat} {stk : Nat → Sn} {kp : Nat → Bool} {ks : Nat → Sn} {tm : Nat} {tc th : Nat → Nat} {td : Nat → Bool} {sed : Int64} {i : Nat} (hI : MInv H tx ln n sd kd s am stk kp ks tm tc th td sed) (hS : SpOK tx ln n sd kd s am stk kp ks tm tc th) (hi : i < 2) (h : kp i = false) : Cl tb 170 [.ref 111, .int (nI i)] H (fun r H' => r = some (.int (-3)) ∧ MInv H' tx ln n sd kd s am stk kp ks tm tc th td sed ∧ Off mC H H') := by
  obtain ⟨f, g, nx, ⟨hC, hL, e3, e6, e7, e8, hnx⟩, hR⟩ := id hI
  obtain ⟨⟨b1, b2⟩, b3, b4, b5, b6, b7, b8, b9, b10, b11⟩ := id hS
  obtain ⟨c0, ⟨ms, mk, c1, c2, c3, c4⟩, c5⟩ := id hC
  unfold mOb at c0
  obtain ⟨_, _, _, ⟨kq, kg, k0, k1, k2, k3⟩, _⟩ := id hR
  show Ev tb 170 0 [some (.ref 111), some (.int (nI i)), none] [] H _
  refine ev_iload_n i170_0 rfl ?_
  refine ev_i2l i170_1 ?_
  refine ev_lconst (v := 0) i170_2 (by decide) ?_
  refine ev_lconst (v := 1) i170_3 (by decide) ?_
  refine ev_callS (vs := [.long ((nI i).toInt64), .long 0, .long 1]) (rest := []) i170_4 ci170 lk8_62 (Or.inl rfl) np117 (by decide +kernel) (Nat.le_of_ble_eq_true rfl) ⟨rfl, rfl, Nat.le_of_ble_eq_true rfl⟩ rfl (c117) (fun r HH hq => ?_)
  obtain ⟨rfl, rfl⟩ := hq
  rw [inJ_R (x := nI i) (m := 2) (by decide) (by decide), inR_n (by omega) (by decide), decide_eq_true hi]
  show Ev tb 170 7 [some (.ref 111), some (.int (nI i)), none] [.int (bI true)] H _
  refine evb_if_ne (t := 12) i170_7 (by decide) (fun z7 => ?_) (fun z7 => by exfalso; cases z7)
  refine ev_aload_n i170_12 rfl ?_
  refine ev_get i170_13 ci170 fl8_50 (by assumption) rfl ?_
  refine ev_iload_n i170_16 rfl ?_
  refine evz_bald i170_17 (by assumption) (by omega) ?_
  rw [k1 i hi, h]
  refine evb_if_ne (t := 24) i170_18 (by decide) (fun z18 => by exfalso; cases z18) (fun z18 => ?_)
  refine ev_bipush (v := (-3)) i170_21 (by decide) ?_
  refine ev_iret i170_23 (by decide +kernel) ?_
  exact ⟨rfl, hI, Off.rf⟩
theorem MRest.am0 {H : dxH} {tx : Nat → Nat} {ln n am nx : Nat} {stk : Nat → Sn} {kp : Nat → Bool} {ks : Nat → Sn} {tm : Nat} {tc th : Nat → Nat} {td : Nat → Bool} (h : MRest H tx ln n am nx stk kp ks tm tc th td) : MRest H tx ln n 0 nx stk kp ks tm tc th td := by
  obtain ⟨⟨rw, h1, h2⟩, h3⟩ := h
  exact ⟨⟨rw, h1, fun i hi => absurd hi (Nat.not_lt_zero _)⟩, h3⟩
theorem lq170 {tb : dxT} {H : dxH} {n : Nat} {f : Nat → Int32} {sed : Int64} {sd kd : Nat → Nat} {i : Nat} {kg : Nat → Int32} {Q : Option Value → dxH → Prop} (hi : i < 2) : ∀ (d k : Nat) (H1 : dxH) (g1 : Nat → Int32), k + d = 27 → MC H1 n f sed sd kd g1 → H1[126]? = some (.inl (0, 54, .inl kg)) → (∀ j, j < k → g1 j = kg (27 * i + j)) → Off (fun j => j = 114) H H1 → (∀ H3 g3, MC H3 n f sed sd kd g3 → H3[126]? = some (.inl (0, 54, .inl kg)) → (∀ j, j < 27 → g3 j = kg (27 * i + j)) → Off (fun j => j = 114) H H3 → Ev tb 170 55 [some (.ref 111), some (.int (nI i)), some (.int (nI 27))] [] H3 Q) → Ev tb 170 26 [some (.ref 111), some (.int (nI i)), some (.int (nI k))] [] H1 Q
  | 0, k, H1, g1, hk, hC, hr, h1, hO, hQ => by
    obtain rfl : k = 27 := by omega
    obtain ⟨c0, ⟨ms, mk, c1, c2, c3, c4⟩, c5⟩ := id hC
    unfold mOb at c0
    refine ev_iload_n i170_26 rfl ?_
    refine ev_bipush (v := nI 27) i170_27 (by decide) ?_
    refine evn_icmp_ge (t := 55) i170_29 (by decide) (by omega) (fun z29 => ?_) (fun z29 => by exfalso; omega)
    exact hQ H1 g1 hC hr h1 hO
  | d + 1, k, H1, g1, hk, hC, hr, h1, hO, hQ => by
    obtain ⟨c0, ⟨ms, mk, c1, c2, c3, c4⟩, c5⟩ := id hC
    unfold mOb at c0
    refine ev_iload_n i170_26 rfl ?_
    refine ev_bipush (v := nI 27) i170_27 (by decide) ?_
    refine evn_icmp_ge (t := 55) i170_29 (by decide) (by omega) (fun z29 => by exfalso; omega) (fun z29 => ?_)
    refine ev_aload_n i170_32 rfl ?_
    refine ev_get i170_33 ci170 fl8_16 (by assumption) rfl ?_
    refine ev_iload_n i170_36 rfl ?_
    refine ev_aload_n i170_37 rfl ?_
    refine ev_get i170_38 ci170 fl8_53 (by assumption) rfl ?_
    refine ev_bipush (v := nI 27) i170_41 (by decide) ?_
    refine ev_iload_n i170_43 rfl ?_
    refine evn_imul i170_44 ?_
    refine ev_iload_n i170_45 rfl ?_
    refine evn_iadd i170_46 ?_
    refine ev_iald_n i170_47 (by assumption) (by omega) ?_
    refine evs_iastw i170_48 (by assumption) (by omega) (fun H2 hH2 => ?_)
    have c0 : H2[111]? = some (.inr (8, [.int (nI n), .ref 112, .ref 113, .ref 114, .ref 115, .ref 116, .ref 117, .int (f 0), .int (f 1), .int (f 2), .ref 118, .int (f 3), .int (f 4), .int (f 5), .int (f 6), .int (f 7), .ref 119, .ref 120, .int (f 8), .ref 121, .ref 122, .ref 123, .ref 124, .long sed, .ref 125, .ref 126])) := by rw [hH2]; exact set_ne c0 (by omega)
    have c1 : H2[112]? = some (.inl (0, 6, .inl ms)) := by rw [hH2]; exact set_ne c1 (by omega)
    have c3 : H2[113]? = some (.inl (0, 6, .inl mk)) := by rw [hH2]; exact set_ne c3 (by omega)
    have c5 : H2[114]? = some (.inl (0, 54, .inl (upd g1 k (kg ((27 * i) + k))))) := by rw [hH2]; exact set_self c5
    have hr : H2[126]? = some (.inl (0, 54, .inl kg)) := by rw [hH2]; exact set_ne hr (by omega)
    have hO : Off (fun j => j = 114) H H2 := by rw [hH2]; exact hO.set (by rfl)
    refine evn_iinc (d := 1) (L' := [some (.ref 111), some (.int (nI i)), some (.int (nI (k + 1)))]) i170_49 rfl rfl (by decide) rfl ?_
    refine ev_goto (t := 26) i170_52 (by decide) ?_
    exact lq170 hi d (k + 1) _ _ (by omega) ⟨c0, ⟨ms, mk, c1, c2, c3, c4⟩, c5⟩ hr (fun j hj => by
      unfold upd
      by_cases q : j = k
      · rw [if_pos (by omega), q]
      · rw [if_neg (by omega)]; exact h1 j (by omega)) hO hQ
theorem y170 {tb : dxT} {H : dxH} {tx : Nat → Nat} {ln n : Nat} {sd kd : Nat → Nat} {s : Sn} {am : Nat} {stk : Nat → Sn} {kp : Nat → Bool} {ks : Nat → Sn} {tm : Nat} {tc th : Nat → Nat} {td : Nat → Bool} {sed : Int64} {i : Nat} (hI : MInv H tx ln n sd kd s am stk kp ks tm tc th td sed) (hS : SpOK tx ln n sd kd s am stk kp ks tm tc th) (hi : i < 2) (h : kp i = true) : Cl tb 170 [.ref 111, .int (nI i)] H (fun r H' => r = some (.int ((ks i).2.2.2.2.2.1)) ∧ MInv H' tx ln n sd kd (ks i) 0 stk kp ks tm tc th td sed ∧ Off mC H H') := by
  obtain ⟨f, g, nx, ⟨hC, hL, e3, e6, e7, e8, hnx⟩, hR⟩ := id hI
  obtain ⟨⟨b1, b2⟩, b3, b4, b5, b6, b7, b8, b9, b10, b11⟩ := id hS
  obtain ⟨c0, ⟨ms, mk, c1, c2, c3, c4⟩, c5⟩ := id hC
  unfold mOb at c0
  obtain ⟨_, _, _, ⟨kq, kg, k0, k1, k2, k3⟩, _⟩ := id hR
  show Ev tb 170 0 [some (.ref 111), some (.int (nI i)), none] [] H _
  refine ev_iload_n i170_0 rfl ?_
  refine ev_i2l i170_1 ?_
  refine ev_lconst (v := 0) i170_2 (by decide) ?_
  refine ev_lconst (v := 1) i170_3 (by decide) ?_
  refine ev_callS (vs := [.long ((nI i).toInt64), .long 0, .long 1]) (rest := []) i170_4 ci170 lk8_62 (Or.inl rfl) np117 (by decide +kernel) (Nat.le_of_ble_eq_true rfl) ⟨rfl, rfl, Nat.le_of_ble_eq_true rfl⟩ rfl (c117) (fun r HH hq => ?_)
  obtain ⟨rfl, rfl⟩ := hq
  rw [inJ_R (x := nI i) (m := 2) (by decide) (by decide), inR_n (by omega) (by decide), decide_eq_true hi]
  show Ev tb 170 7 [some (.ref 111), some (.int (nI i)), none] [.int (bI true)] H _
  refine evb_if_ne (t := 12) i170_7 (by decide) (fun z7 => ?_) (fun z7 => by exfalso; cases z7)
  refine ev_aload_n i170_12 rfl ?_
  refine ev_get i170_13 ci170 fl8_50 (by assumption) rfl ?_
  refine ev_iload_n i170_16 rfl ?_
  refine evz_bald i170_17 (by assumption) (by omega) ?_
  rw [k1 i hi, h]
  refine evb_if_ne (t := 24) i170_18 (by decide) (fun z18 => ?_) (fun z18 => by exfalso; cases z18)
  refine ev_iconst (v := nI 0) i170_24 (by decide) ?_
  refine ev_istore_n (L' := [some (.ref 111), some (.int (nI i)), some (.int (nI 0))]) i170_25 ⟨Nat.le_of_ble_eq_true rfl, rfl⟩ rfl ?_
  refine lq170 (H := H) (kg := kg) hi 27 0 H g (by omega) hC k2 (fun j hj => absurd hj (Nat.not_lt_zero _)) Off.rf (fun H3 g3 hC3 hr3 h1 hO3 => ?_)
  have hO : Off (fun j => j = 111 ∨ j = 114) H H3 := hO3.weaken (fun j q => Or.inr q)
  have hL3 : LvS g3 0 n (ks i) := (k3 i hi h).cp b3 (fun j hj => by rw [Nat.zero_add]; exact h1 j hj)
  obtain ⟨c0, ⟨ms, mk, c1, c2, c3, c4⟩, c5⟩ := id hC3
  unfold mOb at c0
  refine ev_aload_n i170_55 rfl ?_
  refine ev_iconst (v := nI 0) i170_56 (by decide) ?_
  refine evs_put (fs' := [.int (nI n), .ref 112, .ref 113, .ref 114, .ref 115, .ref 116, .ref 117, .int (f 0), .int (f 1), .int (f 2), .ref 118, .int (f 3), .int (f 4), .int (f 5), .int (nI 0), .int (f 7), .ref 119, .ref 120, .int (f 8), .ref 121, .ref 122, .ref 123, .ref 124, .long sed, .ref 125, .ref 126]) i170_57 ci170 fl8_105 (by assumption) ⟨Nat.le_of_ble_eq_true rfl, rfl, Or.inl rfl⟩ rfl (fun H4 hH4 => ?_)
  have c0 : H4[111]? = some (.inr (8, [.int (nI n), .ref 112, .ref 113, .ref 114, .ref 115, .ref 116, .ref 117, .int (f 0), .int (f 1), .int (f 2), .ref 118, .int (f 3), .int (f 4), .int (f 5), .int (nI 0), .int (f 7), .ref 119, .ref 120, .int (f 8), .ref 121, .ref 122, .ref 123, .ref 124, .long sed, .ref 125, .ref 126])) := by rw [hH4]; exact set_self c0
  have c1 : H4[112]? = some (.inl (0, 6, .inl ms)) := by rw [hH4]; exact set_ne c1 (by omega)
  have c3 : H4[113]? = some (.inl (0, 6, .inl mk)) := by rw [hH4]; exact set_ne c3 (by omega)
  have c5 : H4[114]? = some (.inl (0, 54, .inl g3)) := by rw [hH4]; exact set_ne c5 (by omega)
  have hO : Off (fun j => j = 111 ∨ j = 114) H H4 := by rw [hH4]; exact hO.set (by exact Or.inl rfl)
  refine ev_aload_n i170_60 rfl ?_
  refine ev_get i170_61 ci170 fl8_16 (by assumption) rfl ?_
  refine ev_bipush (v := nI 26) i170_64 (by decide) ?_
  refine ev_iald_n i170_66 (by assumption) (by omega) ?_
  have hh : g3 26 = (ks i).2.2.2.2.2.1 := hL3.2.2.2.2.2.2
  rw [hh]
  refine ev_iret i170_67 (by decide +kernel) ?_
  exact ⟨rfl, ⟨upd f 6 (nI 0), g3, nx, ⟨⟨c0, ⟨ms, mk, c1, c2, c3, c4⟩, c5⟩, hL3, e3, rfl, e7, e8, hnx⟩, hR.am0.off hO (fun j a b => by omega)⟩, hO.weaken (fun j q => by unfold mC; omega)⟩
