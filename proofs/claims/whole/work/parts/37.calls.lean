/-! the model's calls  -/
theorem MInv.tr {H H' : dxH} {tx : Nat → Nat} {ln n : Nat} {sd kd : Nat → Nat} {s : Sn} {am : Nat} {stk : Nat → Sn} {kp : Nat → Bool} {ks : Nat → Sn} {tm : Nat} {tc th : Nat → Nat} {td : Nat → Bool} {sed : Int64} {f g' : Nat → Int32} {nx : Nat} (hC : MC H' n f sed sd kd g') (hL : LvS g' 0 n s) (e : f 3 = nI ln ∧ f 6 = nI am ∧ f 7 = nI nx ∧ f 8 = nI tm ∧ nx < 14) (hR : MRest H tx ln n am nx stk kp ks tm tc th td) (hO : Off (fun j => j = 114) H H') : MInv H' tx ln n sd kd s am stk kp ks tm tc th td sed ∧ Off mC H H' :=
  ⟨⟨f, g', nx, ⟨hC, hL, e⟩, hR.off hO (fun j a b => by omega)⟩, hO.weaken (fun j q => by unfold mC; omega)⟩
theorem Lv.of0 {g g' : Nat → Int32} {n : Nat} {ce : Nat → Nat} {sn : Bool} {x : Hs} (h : Lv g 0 n ce sn x) (hn : n ≤ 6) (e : ofL 1 g g') : Lv g' 0 n ce sn x := h.cp hn (fun j hj => e _ (by omega))
theorem hon_c {n m : Nat} {sd kd : Nat → Nat} {s : Sn} : honI n sd kd s 0 0 m = nI (cntL (HE n) sd kd s.1 s.2.1 0 m s.2.2) := rfl
theorem y146 {tb : dxT} {H : dxH} {tx : Nat → Nat} {ln n : Nat} {sd kd : Nat → Nat} {s : Sn} {am : Nat} {stk : Nat → Sn} {kp : Nat → Bool} {ks : Nat → Sn} {tm : Nat} {tc th : Nat → Nat} {td : Nat → Bool} {sed : Int64} {m : Nat} (hI : MInv H tx ln n sd kd s am stk kp ks tm tc th td sed) (hS : SpOK tx ln n sd kd s am stk kp ks tm tc th) (hm1 : 1 ≤ m) (hm : m ≤ 8) : Cl tb 146 [.ref 111, .int (nI m)] H (fun r H' => r = some (.int (honI n sd kd s 0 0 m)) ∧ MInv H' tx ln n sd kd s am stk kp ks tm tc th td sed ∧ Off mC H H') := by
  obtain ⟨f, g, nx, ⟨hC, hL, e3, e6, e7, e8, hnx⟩, hR⟩ := id hI
  obtain ⟨⟨b1, b2⟩, b3, b4, b5, b6, b7, b8, b9, b10, b11⟩ := id hS
  obtain ⟨c0, ⟨ms, mk, c1, c2, c3, c4⟩, c5⟩ := id hC
  unfold mOb at c0
  rw [hon_c]
  show Ev tb 146 0 [some (.ref 111), some (.int (nI m))] [] H _
  refine ev_iload_n i146_0 rfl ?_
  refine ev_i2l i146_1 ?_
  refine ev_lconst (v := 1) i146_2 (by decide) ?_
  refine ev_ldc2 i146_3 ci146 ks8_138 ?_
  refine ev_callS (vs := [.long ((nI m).toInt64), .long 1, .long 8]) (rest := []) i146_6 ci146 lk8_62 (Or.inl rfl) np117 (by decide +kernel) (Nat.le_of_ble_eq_true rfl) ⟨rfl, rfl, Nat.le_of_ble_eq_true rfl⟩ rfl (c117) (fun r HH hq => ?_)
  obtain ⟨rfl, rfl⟩ := hq
  rw [inJ_M (x := (nI m)) (a := 1) (b := 8) (by decide) (by decide) (by decide) (by decide), show inM (nI m) 1 8 = true from ahd_n hm1 hm]
  show Ev tb 146 9 [some (.ref 111), some (.int (nI m))] [.int (bI true)] H _
  refine evb_if_ne (t := 15) i146_9 (by decide) (fun z9 => ?_) (fun z9 => by exfalso; cases z9)
  refine ev_aload_n i146_15 rfl ?_
  refine ev_callV (vs := []) (rest := []) i146_16 ci146 lk8_140 (congrArg (fun q => q + 1) np143) ci143 (by decide) (by decide +kernel) (Nat.le_of_ble_eq_true rfl) ⟨rfl, rfl, Nat.le_of_ble_eq_true rfl⟩ rfl (by assumption) (c143 b3 hC hL) (fun r H1 hq => ?_)
  obtain ⟨rfl, g1, hC1, hL1, hT1, hO1⟩ := hq
  obtain ⟨c0, ⟨ms, mk, c1, c2, c3, c4⟩, c5⟩ := id hC1
  unfold mOb at c0
  show Ev tb 146 19 [some (.ref 111), some (.int (nI m))] [] H1 _
  refine ev_aload_n i146_19 rfl ?_
  refine ev_iload_n i146_20 rfl ?_
  refine ev_bipush (v := nI 63) i146_21 (by decide) ?_
  refine ev_iconst (v := nI 0) i146_23 (by decide) ?_
  refine ev_callV (vs := [.int (nI m), .int (nI 63), .int (nI 0)]) (rest := []) i146_24 ci146 lk8_143 (congrArg (fun q => q + 1) np145) ci145 (by decide) (by decide +kernel) (Nat.le_of_ble_eq_true rfl) ⟨rfl, rfl, Nat.le_of_ble_eq_true rfl⟩ rfl (by assumption) (c145 b3 b4 b5 b6.1 (by decide) (by decide) (by omega) hC1 hT1 b6.2.2.1) (fun r H2 hq => ?_)
  obtain ⟨rfl, g2, hC2, hL2, hx2, hg2, hO2⟩ := hq
  rw [and63 n (by omega)] at hL2
  rw [and63 n (by omega)]
  obtain ⟨c0, ⟨ms, mk, c1, c2, c3, c4⟩, c5⟩ := id hC2
  unfold mOb at c0
  show Ev tb 146 27 [some (.ref 111), some (.int (nI m))] [.int (nI (cntL (HE n) sd kd s.1 s.2.1 0 m s.2.2))] H2 _
  refine ev_iret i146_27 (by decide +kernel) ?_
  exact ⟨rfl, MInv.tr (H := H) hC2 (hL1.of0 b3 hg2) ⟨e3, e6, e7, e8, hnx⟩ hR (hO1.trans hO2 (fun _ q => q) (fun _ q => q))⟩
theorem y146f {tb : dxT} {H : dxH} {tx : Nat → Nat} {ln n : Nat} {sd kd : Nat → Nat} {s : Sn} {am : Nat} {stk : Nat → Sn} {kp : Nat → Bool} {ks : Nat → Sn} {tm : Nat} {tc th : Nat → Nat} {td : Nat → Bool} {sed : Int64} {x : Int32} (hI : MInv H tx ln n sd kd s am stk kp ks tm tc th td sed) (hS : SpOK tx ln n sd kd s am stk kp ks tm tc th) (h : ahdB x = false) : Cl tb 146 [.ref 111, .int x] H (fun r H' => r = some (.int (-2)) ∧ MInv H' tx ln n sd kd s am stk kp ks tm tc th td sed ∧ Off mC H H') := by
  obtain ⟨f, g, nx, ⟨hC, hL, e3, e6, e7, e8, hnx⟩, hR⟩ := id hI
  obtain ⟨⟨b1, b2⟩, b3, b4, b5, b6, b7, b8, b9, b10, b11⟩ := id hS
  obtain ⟨c0, ⟨ms, mk, c1, c2, c3, c4⟩, c5⟩ := id hC
  unfold mOb at c0
  show Ev tb 146 0 [some (.ref 111), some (.int x)] [] H _
  refine ev_iload_n i146_0 rfl ?_
  refine ev_i2l i146_1 ?_
  refine ev_lconst (v := 1) i146_2 (by decide) ?_
  refine ev_ldc2 i146_3 ci146 ks8_138 ?_
  refine ev_callS (vs := [.long x.toInt64, .long 1, .long 8]) (rest := []) i146_6 ci146 lk8_62 (Or.inl rfl) np117 (by decide +kernel) (Nat.le_of_ble_eq_true rfl) ⟨rfl, rfl, Nat.le_of_ble_eq_true rfl⟩ rfl (c117) (fun r HH hq => ?_)
  obtain ⟨rfl, rfl⟩ := hq
  rw [inJ_M (x := x) (a := 1) (b := 8) (by decide) (by decide) (by decide) (by decide), show inM x 1 8 = false from h]
  show Ev tb 146 9 [some (.ref 111), some (.int x)] [.int (bI false)] H _
  refine evb_if_ne (t := 15) i146_9 (by decide) (fun z9 => by exfalso; cases z9) (fun z9 => ?_)
  refine ev_bipush (v := (-2)) i146_12 (by decide) ?_
  refine ev_iret i146_14 (by decide +kernel) ?_
  exact ⟨rfl, hI, Off.rf⟩
theorem y129t {tb : dxT} {H : dxH} {tx : Nat → Nat} {ln n : Nat} {sd kd : Nat → Nat} {s : Sn} {am : Nat} {stk : Nat → Sn} {kp : Nat → Bool} {ks : Nat → Sn} {tm : Nat} {tc th : Nat → Nat} {td : Nat → Bool} {sed : Int64} {c : Nat} (hI : MInv H tx ln n sd kd s am stk kp ks tm tc th td sed) (hS : SpOK tx ln n sd kd s am stk kp ks tm tc th) (hc : c < 10) : Cl tb 129 [.ref 111, .int (nI c)] H (fun r H' => r = some (.int (nI (s.2.2.1 c))) ∧ MInv H' tx ln n sd kd s am stk kp ks tm tc th td sed ∧ Off mC H H') := by
  obtain ⟨f, g, nx, ⟨hC, hL, e3, e6, e7, e8, hnx⟩, hR⟩ := id hI
  obtain ⟨⟨b1, b2⟩, b3, b4, b5, b6, b7, b8, b9, b10, b11⟩ := id hS
  obtain ⟨c0, ⟨ms, mk, c1, c2, c3, c4⟩, c5⟩ := id hC
  unfold mOb at c0
  show Ev tb 129 0 [some (.ref 111), some (.int (nI c))] [] H _
  refine ev_iload_n i129_0 rfl ?_
  refine ev_i2l i129_1 ?_
  refine ev_lconst (v := 0) i129_2 (by decide) ?_
  refine ev_ldc2 i129_3 ci129 ks8_75 ?_
  refine ev_callS (vs := [.long ((nI c).toInt64), .long 0, .long 9]) (rest := []) i129_6 ci129 lk8_62 (Or.inl rfl) np117 (by decide +kernel) (Nat.le_of_ble_eq_true rfl) ⟨rfl, rfl, Nat.le_of_ble_eq_true rfl⟩ rfl (c117) (fun r HH hq => ?_)
  obtain ⟨rfl, rfl⟩ := hq
  rw [inJ_R (x := nI c) (m := 10) (by decide) (by decide), inR_n (by omega) (by decide), decide_eq_true hc]
  show Ev tb 129 9 [some (.ref 111), some (.int (nI c))] [.int (bI true)] H _
  refine evb_if_eq (t := 21) i129_9 (by decide) (fun z9 => by exfalso; cases z9) (fun z9 => ?_)
  refine ev_aload_n i129_12 rfl ?_
  refine ev_get i129_13 ci129 fl8_16 (by assumption) rfl ?_
  refine ev_iload_n i129_16 rfl ?_
  refine ev_iald_n i129_17 (by assumption) (by omega) ?_
  have hh := hL.1 c hc
  rw [Nat.zero_add] at hh
  rw [hh]
  refine ev_goto (t := 23) i129_18 (by decide) ?_
  refine ev_iret i129_23 (by decide +kernel) ?_
  exact ⟨rfl, hI, Off.rf⟩
theorem y129f {tb : dxT} {H : dxH} {tx : Nat → Nat} {ln n : Nat} {sd kd : Nat → Nat} {s : Sn} {am : Nat} {stk : Nat → Sn} {kp : Nat → Bool} {ks : Nat → Sn} {tm : Nat} {tc th : Nat → Nat} {td : Nat → Bool} {sed : Int64} {x : Int32} (hI : MInv H tx ln n sd kd s am stk kp ks tm tc th td sed) (hS : SpOK tx ln n sd kd s am stk kp ks tm tc th) (h : inR x 10 = false) : Cl tb 129 [.ref 111, .int x] H (fun r H' => r = some (.int (-2)) ∧ MInv H' tx ln n sd kd s am stk kp ks tm tc th td sed ∧ Off mC H H') := by
  obtain ⟨f, g, nx, ⟨hC, hL, e3, e6, e7, e8, hnx⟩, hR⟩ := id hI
  obtain ⟨⟨b1, b2⟩, b3, b4, b5, b6, b7, b8, b9, b10, b11⟩ := id hS
  obtain ⟨c0, ⟨ms, mk, c1, c2, c3, c4⟩, c5⟩ := id hC
  unfold mOb at c0
  show Ev tb 129 0 [some (.ref 111), some (.int x)] [] H _
  refine ev_iload_n i129_0 rfl ?_
  refine ev_i2l i129_1 ?_
  refine ev_lconst (v := 0) i129_2 (by decide) ?_
  refine ev_ldc2 i129_3 ci129 ks8_75 ?_
  refine ev_callS (vs := [.long x.toInt64, .long 0, .long 9]) (rest := []) i129_6 ci129 lk8_62 (Or.inl rfl) np117 (by decide +kernel) (Nat.le_of_ble_eq_true rfl) ⟨rfl, rfl, Nat.le_of_ble_eq_true rfl⟩ rfl (c117) (fun r HH hq => ?_)
  obtain ⟨rfl, rfl⟩ := hq
  rw [inJ_R (x := x) (m := 10) (by decide) (by decide), h]
  show Ev tb 129 9 [some (.ref 111), some (.int x)] [.int (bI false)] H _
  refine evb_if_eq (t := 21) i129_9 (by decide) (fun z9 => ?_) (fun z9 => by exfalso; cases z9)
  refine ev_bipush (v := (-2)) i129_21 (by decide) ?_
  refine ev_iret i129_23 (by decide +kernel) ?_
  exact ⟨rfl, hI, Off.rf⟩
theorem y147 {tb : dxT} {H : dxH} {tx : Nat → Nat} {ln n : Nat} {sd kd : Nat → Nat} {s : Sn} {am : Nat} {stk : Nat → Sn} {kp : Nat → Bool} {ks : Nat → Sn} {tm : Nat} {tc th : Nat → Nat} {td : Nat → Bool} {sed : Int64} {q m : Nat} (hI : MInv H tx ln n sd kd s am stk kp ks tm tc th td sed) (hS : SpOK tx ln n sd kd s am stk kp ks tm tc th) (hq : q < 2) (hm1 : 1 ≤ m) (hm : m ≤ 8) : Cl tb 147 [.ref 111, .int (nI q), .int (nI m)] H (fun r H' => r = some (.int ((hrs (HE n) sd kd s.1 s.2.1 m s.2.2).2.2.1 q - s.2.2.2.2.1 q)) ∧ MInv H' tx ln n sd kd s am stk kp ks tm tc th td sed ∧ Off mC H H') := by
  obtain ⟨f, g, nx, ⟨hC, hL, e3, e6, e7, e8, hnx⟩, hR⟩ := id hI
  obtain ⟨⟨b1, b2⟩, b3, b4, b5, b6, b7, b8, b9, b10, b11⟩ := id hS
  obtain ⟨c0, ⟨ms, mk, c1, c2, c3, c4⟩, c5⟩ := id hC
  unfold mOb at c0
  show Ev tb 147 0 [some (.ref 111), some (.int (nI q)), some (.int (nI m))] [] H _
  refine ev_iload_n i147_0 rfl ?_
  refine ev_i2l i147_1 ?_
  refine ev_lconst (v := 0) i147_2 (by decide) ?_
  refine ev_lconst (v := 1) i147_3 (by decide) ?_
  refine ev_callS (vs := [.long ((nI q).toInt64), .long 0, .long 1]) (rest := []) i147_4 ci147 lk8_62 (Or.inl rfl) np117 (by decide +kernel) (Nat.le_of_ble_eq_true rfl) ⟨rfl, rfl, Nat.le_of_ble_eq_true rfl⟩ rfl (c117) (fun r HH hq => ?_)
  obtain ⟨rfl, rfl⟩ := hq
  rw [inJ_R (x := nI q) (m := 2) (by decide) (by decide), inR_n (by omega) (by decide), decide_eq_true hq]
  show Ev tb 147 7 [some (.ref 111), some (.int (nI q)), some (.int (nI m))] [.int (bI true)] H _
  refine evb_if_eq (t := 22) i147_7 (by decide) (fun z7 => by exfalso; cases z7) (fun z7 => ?_)
  refine ev_iload_n i147_10 rfl ?_
  refine ev_i2l i147_11 ?_
  refine ev_lconst (v := 1) i147_12 (by decide) ?_
  refine ev_ldc2 i147_13 ci147 ks8_138 ?_
  refine ev_callS (vs := [.long ((nI m).toInt64), .long 1, .long 8]) (rest := []) i147_16 ci147 lk8_62 (Or.inl rfl) np117 (by decide +kernel) (Nat.le_of_ble_eq_true rfl) ⟨rfl, rfl, Nat.le_of_ble_eq_true rfl⟩ rfl (c117) (fun r HH hq => ?_)
  obtain ⟨rfl, rfl⟩ := hq
  rw [inJ_M (x := (nI m)) (a := 1) (b := 8) (by decide) (by decide) (by decide) (by decide), show inM (nI m) 1 8 = true from ahd_n hm1 hm]
  show Ev tb 147 19 [some (.ref 111), some (.int (nI q)), some (.int (nI m))] [.int (bI true)] H _
  refine evb_if_ne (t := 25) i147_19 (by decide) (fun z19 => ?_) (fun z19 => by exfalso; cases z19)
  refine ev_aload_n i147_25 rfl ?_
  refine ev_callV (vs := []) (rest := []) i147_26 ci147 lk8_140 (congrArg (fun q => q + 1) np143) ci143 (by decide) (by decide +kernel) (Nat.le_of_ble_eq_true rfl) ⟨rfl, rfl, Nat.le_of_ble_eq_true rfl⟩ rfl (by assumption) (c143 b3 hC hL) (fun r H1 hq => ?_)
  obtain ⟨rfl, g1, hC1, hL1, hT1, hO1⟩ := hq
  obtain ⟨c0, ⟨ms, mk, c1, c2, c3, c4⟩, c5⟩ := id hC1
  unfold mOb at c0
  show Ev tb 147 29 [some (.ref 111), some (.int (nI q)), some (.int (nI m))] [] H1 _
  refine ev_aload_n i147_29 rfl ?_
  refine ev_iload_n i147_30 rfl ?_
  refine ev_bipush (v := nI 63) i147_31 (by decide) ?_
  refine ev_iconst (v := nI 0) i147_33 (by decide) ?_
  refine ev_callV (vs := [.int (nI m), .int (nI 63), .int (nI 0)]) (rest := []) i147_34 ci147 lk8_143 (congrArg (fun q => q + 1) np145) ci145 (by decide) (by decide +kernel) (Nat.le_of_ble_eq_true rfl) ⟨rfl, rfl, Nat.le_of_ble_eq_true rfl⟩ rfl (by assumption) (c145 b3 b4 b5 b6.1 (by decide) (by decide) (by omega) hC1 hT1 b6.2.2.1) (fun r H2 hq => ?_)
  obtain ⟨rfl, g2, hC2, hL2, hx2, hg2, hO2⟩ := hq
  rw [and63 n (by omega)] at hL2
  rw [and63 n (by omega)]
  obtain ⟨c0, ⟨ms, mk, c1, c2, c3, c4⟩, c5⟩ := id hC2
  unfold mOb at c0
  show Ev tb 147 37 [some (.ref 111), some (.int (nI q)), some (.int (nI m))] [.int (nI (cntL (HE n) sd kd s.1 s.2.1 0 m s.2.2))] H2 _
  refine ev_pop i147_37 rfl ?_
  refine ev_aload_n i147_38 rfl ?_
  refine ev_get i147_39 ci147 fl8_16 (by assumption) rfl ?_
  refine ev_bipush (v := nI 50) i147_42 (by decide) ?_
  refine ev_iload_n i147_44 rfl ?_
  refine evn_iadd i147_45 ?_
  refine ev_iald_n i147_46 (by assumption) (by omega) ?_
  have hh : g2 (50 + q) = (hrs (HE n) sd kd s.1 s.2.1 m s.2.2).2.2.1 q := hL2.2.2.2.2.1 q hq
  rw [hh]
  refine ev_aload_n i147_47 rfl ?_
  refine ev_get i147_48 ci147 fl8_16 (by assumption) rfl ?_
  refine ev_bipush (v := nI 23) i147_51 (by decide) ?_
  refine ev_iload_n i147_53 rfl ?_
  refine evn_iadd i147_54 ?_
  refine ev_iald_n i147_55 (by assumption) (by omega) ?_
  have hh : g2 (23 + q) = s.2.2.2.2.1 q := (hL1.of0 b3 hg2).2.2.2.2.1 q hq
  rw [hh]
  refine ev_isub i147_56 ?_
  refine ev_iret i147_57 (by decide +kernel) ?_
  exact ⟨rfl, MInv.tr (H := H) hC2 (hL1.of0 b3 hg2) ⟨e3, e6, e7, e8, hnx⟩ hR (hO1.trans hO2 (fun _ q => q) (fun _ q => q))⟩
theorem y147s {tb : dxT} {H : dxH} {tx : Nat → Nat} {ln n : Nat} {sd kd : Nat → Nat} {s : Sn} {am : Nat} {stk : Nat → Sn} {kp : Nat → Bool} {ks : Nat → Sn} {tm : Nat} {tc th : Nat → Nat} {td : Nat → Bool} {sed : Int64} {y x : Int32} (hI : MInv H tx ln n sd kd s am stk kp ks tm tc th td sed) (hS : SpOK tx ln n sd kd s am stk kp ks tm tc th) (h : inR y 2 = false) : Cl tb 147 [.ref 111, .int y, .int x] H (fun r H' => r = some (.int (-2)) ∧ MInv H' tx ln n sd kd s am stk kp ks tm tc th td sed ∧ Off mC H H') := by
  obtain ⟨f, g, nx, ⟨hC, hL, e3, e6, e7, e8, hnx⟩, hR⟩ := id hI
  obtain ⟨⟨b1, b2⟩, b3, b4, b5, b6, b7, b8, b9, b10, b11⟩ := id hS
  obtain ⟨c0, ⟨ms, mk, c1, c2, c3, c4⟩, c5⟩ := id hC
  unfold mOb at c0
  show Ev tb 147 0 [some (.ref 111), some (.int y), some (.int x)] [] H _
  refine ev_iload_n i147_0 rfl ?_
  refine ev_i2l i147_1 ?_
  refine ev_lconst (v := 0) i147_2 (by decide) ?_
  refine ev_lconst (v := 1) i147_3 (by decide) ?_
  refine ev_callS (vs := [.long y.toInt64, .long 0, .long 1]) (rest := []) i147_4 ci147 lk8_62 (Or.inl rfl) np117 (by decide +kernel) (Nat.le_of_ble_eq_true rfl) ⟨rfl, rfl, Nat.le_of_ble_eq_true rfl⟩ rfl (c117) (fun r HH hq => ?_)
  obtain ⟨rfl, rfl⟩ := hq
  rw [inJ_R (x := y) (m := 2) (by decide) (by decide), h]
  show Ev tb 147 7 [some (.ref 111), some (.int y), some (.int x)] [.int (bI false)] H _
  refine evb_if_eq (t := 22) i147_7 (by decide) (fun z7 => ?_) (fun z7 => by exfalso; cases z7)
  refine ev_bipush (v := (-2)) i147_22 (by decide) ?_
  refine ev_iret i147_24 (by decide +kernel) ?_
  exact ⟨rfl, hI, Off.rf⟩
theorem y147f {tb : dxT} {H : dxH} {tx : Nat → Nat} {ln n : Nat} {sd kd : Nat → Nat} {s : Sn} {am : Nat} {stk : Nat → Sn} {kp : Nat → Bool} {ks : Nat → Sn} {tm : Nat} {tc th : Nat → Nat} {td : Nat → Bool} {sed : Int64} {q : Nat} {x : Int32} (hI : MInv H tx ln n sd kd s am stk kp ks tm tc th td sed) (hS : SpOK tx ln n sd kd s am stk kp ks tm tc th) (hq : q < 2) (h : ahdB x = false) : Cl tb 147 [.ref 111, .int (nI q), .int x] H (fun r H' => r = some (.int (-2)) ∧ MInv H' tx ln n sd kd s am stk kp ks tm tc th td sed ∧ Off mC H H') := by
  obtain ⟨f, g, nx, ⟨hC, hL, e3, e6, e7, e8, hnx⟩, hR⟩ := id hI
  obtain ⟨⟨b1, b2⟩, b3, b4, b5, b6, b7, b8, b9, b10, b11⟩ := id hS
  obtain ⟨c0, ⟨ms, mk, c1, c2, c3, c4⟩, c5⟩ := id hC
  unfold mOb at c0
  show Ev tb 147 0 [some (.ref 111), some (.int (nI q)), some (.int x)] [] H _
  refine ev_iload_n i147_0 rfl ?_
  refine ev_i2l i147_1 ?_
  refine ev_lconst (v := 0) i147_2 (by decide) ?_
  refine ev_lconst (v := 1) i147_3 (by decide) ?_
  refine ev_callS (vs := [.long ((nI q).toInt64), .long 0, .long 1]) (rest := []) i147_4 ci147 lk8_62 (Or.inl rfl) np117 (by decide +kernel) (Nat.le_of_ble_eq_true rfl) ⟨rfl, rfl, Nat.le_of_ble_eq_true rfl⟩ rfl (c117) (fun r HH hq => ?_)
  obtain ⟨rfl, rfl⟩ := hq
  rw [inJ_R (x := nI q) (m := 2) (by decide) (by decide), inR_n (by omega) (by decide), decide_eq_true hq]
  show Ev tb 147 7 [some (.ref 111), some (.int (nI q)), some (.int x)] [.int (bI true)] H _
  refine evb_if_eq (t := 22) i147_7 (by decide) (fun z7 => by exfalso; cases z7) (fun z7 => ?_)
  refine ev_iload_n i147_10 rfl ?_
  refine ev_i2l i147_11 ?_
  refine ev_lconst (v := 1) i147_12 (by decide) ?_
  refine ev_ldc2 i147_13 ci147 ks8_138 ?_
  refine ev_callS (vs := [.long x.toInt64, .long 1, .long 8]) (rest := []) i147_16 ci147 lk8_62 (Or.inl rfl) np117 (by decide +kernel) (Nat.le_of_ble_eq_true rfl) ⟨rfl, rfl, Nat.le_of_ble_eq_true rfl⟩ rfl (c117) (fun r HH hq => ?_)
  obtain ⟨rfl, rfl⟩ := hq
  rw [inJ_M (x := x) (a := 1) (b := 8) (by decide) (by decide) (by decide) (by decide), show inM x 1 8 = false from h]
  show Ev tb 147 19 [some (.ref 111), some (.int (nI q)), some (.int x)] [.int (bI false)] H _
  refine evb_if_ne (t := 25) i147_19 (by decide) (fun z19 => by exfalso; cases z19) (fun z19 => ?_)
  refine ev_bipush (v := (-2)) i147_22 (by decide) ?_
  refine ev_iret i147_24 (by decide +kernel) ?_
  exact ⟨rfl, hI, Off.rf⟩
theorem MRest.ln {H : dxH} {tx : Nat → Nat} {ln ln' n am nx : Nat} {stk : Nat → Sn} {kp : Nat → Bool} {ks : Nat → Sn} {tm : Nat} {tc th : Nat → Nat} {td : Nat → Bool} (h : MRest H tx ln n am nx stk kp ks tm tc th td) (hl : ln' ≤ ln) : MRest H tx ln' n am nx stk kp ks tm tc th td := by
  obtain ⟨h1, ⟨mt, h3, h4⟩, h5⟩ := h
  exact ⟨h1, ⟨mt, h3, fun j hj => h4 j (by omega)⟩, h5⟩
theorem y121 {tb : dxT} {H : dxH} {tx : Nat → Nat} {ln n : Nat} {sd kd : Nat → Nat} {s : Sn} {am : Nat} {stk : Nat → Sn} {kp : Nat → Bool} {ks : Nat → Sn} {tm : Nat} {tc th : Nat → Nat} {td : Nat → Bool} {sed : Int64} (hI : MInv H tx ln n sd kd s am stk kp ks tm tc th td sed) (hS : SpOK tx ln n sd kd s am stk kp ks tm tc th) : Cl tb 121 [.ref 111] H (fun r H' => r = some (.int (nI ln)) ∧ MInv H' tx 0 n sd kd s am stk kp ks tm tc th td sed ∧ Off mC H H') := by
  obtain ⟨f, g, nx, ⟨hC, hL, e3, e6, e7, e8, hnx⟩, hR⟩ := id hI
  obtain ⟨⟨b1, b2⟩, b3, b4, b5, b6, b7, b8, b9, b10, b11⟩ := id hS
  obtain ⟨c0, ⟨ms, mk, c1, c2, c3, c4⟩, c5⟩ := id hC
  unfold mOb at c0
  have hO : Off (fun j => j = 111) H H := Off.rf
  show Ev tb 121 0 [some (.ref 111), none] [] H _
  refine ev_aload_n i121_0 rfl ?_
  refine ev_get i121_1 ci121 fl8_66 (by assumption) rfl ?_
  rw [e3]
  refine ev_istore_n (L' := [some (.ref 111), some (.int (nI ln))]) i121_4 ⟨Nat.le_of_ble_eq_true rfl, rfl⟩ rfl ?_
  refine ev_aload_n i121_5 rfl ?_
  refine ev_iconst (v := nI 0) i121_6 (by decide) ?_
  refine evs_put (fs' := [.int (nI n), .ref 112, .ref 113, .ref 114, .ref 115, .ref 116, .ref 117, .int (f 0), .int (f 1), .int (f 2), .ref 118, .int (nI 0), .int (f 4), .int (f 5), .int (f 6), .int (f 7), .ref 119, .ref 120, .int (f 8), .ref 121, .ref 122, .ref 123, .ref 124, .long sed, .ref 125, .ref 126]) i121_7 ci121 fl8_66 (by assumption) ⟨Nat.le_of_ble_eq_true rfl, rfl, Or.inl rfl⟩ rfl (fun H1 hH1 => ?_)
  have c0 : H1[111]? = some (.inr (8, [.int (nI n), .ref 112, .ref 113, .ref 114, .ref 115, .ref 116, .ref 117, .int (f 0), .int (f 1), .int (f 2), .ref 118, .int (nI 0), .int (f 4), .int (f 5), .int (f 6), .int (f 7), .ref 119, .ref 120, .int (f 8), .ref 121, .ref 122, .ref 123, .ref 124, .long sed, .ref 125, .ref 126])) := by rw [hH1]; exact set_self c0
  have c1 : H1[112]? = some (.inl (0, 6, .inl ms)) := by rw [hH1]; exact set_ne c1 (by omega)
  have c3 : H1[113]? = some (.inl (0, 6, .inl mk)) := by rw [hH1]; exact set_ne c3 (by omega)
  have c5 : H1[114]? = some (.inl (0, 54, .inl g)) := by rw [hH1]; exact set_ne c5 (by omega)
  have hO : Off (fun j => j = 111) H H1 := by rw [hH1]; exact hO.set (by rfl)
  refine ev_iload_n i121_10 rfl ?_
  refine ev_iret i121_11 (by decide +kernel) ?_
  exact ⟨rfl, ⟨upd f 3 (nI 0), g, nx, ⟨⟨c0, ⟨ms, mk, c1, c2, c3, c4⟩, c5⟩, hL, rfl, e6, e7, e8, hnx⟩, (hR.ln (Nat.zero_le _)).off hO (fun j a b => by omega)⟩, hO.weaken (fun j q => by unfold mC; omega)⟩
theorem MRest.txt {H H' : dxH} {tx tx' : Nat → Nat} {ln ln' n am nx : Nat} {stk : Nat → Sn} {kp : Nat → Bool} {ks : Nat → Sn} {tm : Nat} {tc th : Nat → Nat} {td : Nat → Bool} {A : Nat → Prop} {mt : Nat → Int32} (h : MRest H tx ln n am nx stk kp ks tm tc th td) (hO : Off A H H') (hA : ∀ j, 115 ≤ j → j ≤ 126 → j ≠ 118 → ¬ A j) (ht : H'[118]? = some (.inl (0, 64, .inl mt))) (ht2 : ∀ j, j < ln' → mt j = nI (tx' j)) : MRest H' tx' ln' n am nx stk kp ks tm tc th td := by
  obtain ⟨⟨rw, h1, h2⟩, ⟨_, h3, h4⟩, ⟨a, b, c, h5, h6, h7, h8⟩, ⟨kq, kg, h9, i1, i2, i3⟩, ⟨q1, i4⟩, ⟨q2, i5⟩, ⟨q3, i6⟩, ⟨q4, i7⟩, q5, i8⟩ := h
  have o : ∀ (j : Nat) (e : dxE), 115 ≤ j → j ≤ 126 → j ≠ 118 → H[j]? = some e → H'[j]? = some e := fun j e a b c hj => hO.at hj (hA j a b c)
  exact ⟨⟨rw, o _ _ (by decide) (by decide) (by decide) h1, h2⟩, ⟨mt, ht, ht2⟩, ⟨a, b, c, o _ _ (by decide) (by decide) (by decide) h5, o _ _ (by decide) (by decide) (by decide) h6, o _ _ (by decide) (by decide) (by decide) h7, h8⟩, ⟨kq, kg, o _ _ (by decide) (by decide) (by decide) h9, i1, o _ _ (by decide) (by decide) (by decide) i2, i3⟩, ⟨q1, o _ _ (by decide) (by decide) (by decide) i4⟩, ⟨q2, o _ _ (by decide) (by decide) (by decide) i5⟩, ⟨q3, o _ _ (by decide) (by decide) (by decide) i6⟩, ⟨q4, o _ _ (by decide) (by decide) (by decide) i7⟩, q5, o _ _ (by decide) (by decide) (by decide) i8⟩
theorem y120t {tb : dxT} {H : dxH} {tx : Nat → Nat} {ln n : Nat} {sd kd : Nat → Nat} {s : Sn} {am : Nat} {stk : Nat → Sn} {kp : Nat → Bool} {ks : Nat → Sn} {tm : Nat} {tc th : Nat → Nat} {td : Nat → Bool} {sed : Int64} {c : Nat} (hI : MInv H tx ln n sd kd s am stk kp ks tm tc th td sed) (hS : SpOK tx ln n sd kd s am stk kp ks tm tc th) (hc : c < 256) (hl : ln < 64) : Cl tb 120 [.ref 111, .int (nI c)] H (fun r H' => r = some (.int (nI (ln + 1))) ∧ MInv H' (updN tx ln c) (ln + 1) n sd kd s am stk kp ks tm tc th td sed ∧ Off mC H H') := by
  obtain ⟨f, g, nx, ⟨hC, hL, e3, e6, e7, e8, hnx⟩, hR⟩ := id hI
  obtain ⟨⟨b1, b2⟩, b3, b4, b5, b6, b7, b8, b9, b10, b11⟩ := id hS
  obtain ⟨c0, ⟨ms, mk, c1, c2, c3, c4⟩, c5⟩ := id hC
  unfold mOb at c0
  obtain ⟨_, ⟨mt, t0, t1⟩, _⟩ := id hR
  have hO : Off (fun j => j = 111 ∨ j = 118) H H := Off.rf
  show Ev tb 120 0 [some (.ref 111), some (.int (nI c))] [] H _
  refine ev_iload_n i120_0 rfl ?_
  refine ev_i2l i120_1 ?_
  refine ev_lconst (v := 0) i120_2 (by decide) ?_
  refine ev_ldc2 i120_3 ci120 ks8_60 ?_
  refine ev_callS (vs := [.long ((nI c).toInt64), .long 0, .long 255]) (rest := []) i120_6 ci120 lk8_62 (Or.inl rfl) np117 (by decide +kernel) (Nat.le_of_ble_eq_true rfl) ⟨rfl, rfl, Nat.le_of_ble_eq_true rfl⟩ rfl (c117) (fun r HH hq => ?_)
  obtain ⟨rfl, rfl⟩ := hq
  rw [inJ_R (x := nI c) (m := 256) (by decide) (by decide), inR_n (by omega) (by decide), decide_eq_true hc]
  show Ev tb 120 9 [some (.ref 111), some (.int (nI c))] [.int (bI true)] H _
  refine evb_if_ne (t := 15) i120_9 (by decide) (fun z9 => ?_) (fun z9 => by exfalso; cases z9)
  refine ev_aload_n i120_15 rfl ?_
  refine ev_get i120_16 ci120 fl8_66 (by assumption) rfl ?_
  rw [e3]
  refine ev_bipush (v := nI 64) i120_19 (by decide) ?_
  refine evn_icmp_ne (t := 27) i120_21 (by decide) (by omega) (fun z21 => ?_) (fun z21 => by exfalso; omega)
  refine ev_aload_n i120_27 rfl ?_
  refine ev_get i120_28 ci120 fl8_28 (by assumption) rfl ?_
  refine ev_aload_n i120_31 rfl ?_
  refine ev_get i120_32 ci120 fl8_66 (by assumption) rfl ?_
  rw [e3]
  refine ev_iload_n i120_35 rfl ?_
  refine evs_iastw i120_36 (by assumption) (by omega) (fun H1 hH1 => ?_)
  have c0 : H1[111]? = some (.inr (8, [.int (nI n), .ref 112, .ref 113, .ref 114, .ref 115, .ref 116, .ref 117, .int (f 0), .int (f 1), .int (f 2), .ref 118, .int (f 3), .int (f 4), .int (f 5), .int (f 6), .int (f 7), .ref 119, .ref 120, .int (f 8), .ref 121, .ref 122, .ref 123, .ref 124, .long sed, .ref 125, .ref 126])) := by rw [hH1]; exact set_ne c0 (by omega)
  have c1 : H1[112]? = some (.inl (0, 6, .inl ms)) := by rw [hH1]; exact set_ne c1 (by omega)
  have c3 : H1[113]? = some (.inl (0, 6, .inl mk)) := by rw [hH1]; exact set_ne c3 (by omega)
  have c5 : H1[114]? = some (.inl (0, 54, .inl g)) := by rw [hH1]; exact set_ne c5 (by omega)
  have t0 : H1[118]? = some (.inl (0, 64, .inl (upd mt ln (nI c)))) := by rw [hH1]; exact set_self t0
  have hO : Off (fun j => j = 111 ∨ j = 118) H H1 := by rw [hH1]; exact hO.set (by first | exact Or.inl rfl | exact Or.inr rfl)
  refine ev_aload_n i120_37 rfl ?_
  refine ev_dup i120_38 rfl ?_
  refine ev_get i120_39 ci120 fl8_66 (by assumption) rfl ?_
  rw [e3]
  refine ev_iconst (v := nI 1) i120_42 (by decide) ?_
  refine evn_iadd i120_43 ?_
  refine evs_put (fs' := [.int (nI n), .ref 112, .ref 113, .ref 114, .ref 115, .ref 116, .ref 117, .int (f 0), .int (f 1), .int (f 2), .ref 118, .int (nI (ln + 1)), .int (f 4), .int (f 5), .int (f 6), .int (f 7), .ref 119, .ref 120, .int (f 8), .ref 121, .ref 122, .ref 123, .ref 124, .long sed, .ref 125, .ref 126]) i120_44 ci120 fl8_66 (by assumption) ⟨Nat.le_of_ble_eq_true rfl, rfl, Or.inl rfl⟩ rfl (fun H2 hH2 => ?_)
  have c0 : H2[111]? = some (.inr (8, [.int (nI n), .ref 112, .ref 113, .ref 114, .ref 115, .ref 116, .ref 117, .int (f 0), .int (f 1), .int (f 2), .ref 118, .int (nI (ln + 1)), .int (f 4), .int (f 5), .int (f 6), .int (f 7), .ref 119, .ref 120, .int (f 8), .ref 121, .ref 122, .ref 123, .ref 124, .long sed, .ref 125, .ref 126])) := by rw [hH2]; exact set_self c0
  have c1 : H2[112]? = some (.inl (0, 6, .inl ms)) := by rw [hH2]; exact set_ne c1 (by omega)
  have c3 : H2[113]? = some (.inl (0, 6, .inl mk)) := by rw [hH2]; exact set_ne c3 (by omega)
  have c5 : H2[114]? = some (.inl (0, 54, .inl g)) := by rw [hH2]; exact set_ne c5 (by omega)
  have t0 : H2[118]? = some (.inl (0, 64, .inl (upd mt ln (nI c)))) := by rw [hH2]; exact set_ne t0 (by omega)
  have hO : Off (fun j => j = 111 ∨ j = 118) H H2 := by rw [hH2]; exact hO.set (by first | exact Or.inl rfl | exact Or.inr rfl)
  refine ev_aload_n i120_47 rfl ?_
  refine ev_get i120_48 ci120 fl8_66 (by assumption) rfl ?_
  refine ev_iret i120_51 (by decide +kernel) ?_
  exact ⟨rfl, ⟨upd f 3 (nI (ln + 1)), g, nx, ⟨⟨c0, ⟨ms, mk, c1, c2, c3, c4⟩, c5⟩, hL, rfl, e6, e7, e8, hnx⟩, hR.txt hO (fun j a b c => by omega) t0 (fun j hj => by
    unfold upd updN
    by_cases q : j = ln
    · rw [if_pos q, if_pos q]
    · rw [if_neg q, if_neg q]
      exact t1 j (by omega))⟩, hO.weaken (fun j q => by unfold mC; omega)⟩
theorem y120f {tb : dxT} {H : dxH} {tx : Nat → Nat} {ln n : Nat} {sd kd : Nat → Nat} {s : Sn} {am : Nat} {stk : Nat → Sn} {kp : Nat → Bool} {ks : Nat → Sn} {tm : Nat} {tc th : Nat → Nat} {td : Nat → Bool} {sed : Int64} {c : Nat} (hI : MInv H tx ln n sd kd s am stk kp ks tm tc th td sed) (hS : SpOK tx ln n sd kd s am stk kp ks tm tc th) (hc : c < 256) (hl : ¬ ln < 64) : Cl tb 120 [.ref 111, .int (nI c)] H (fun r H' => r = some (.int (-4)) ∧ MInv H' tx ln n sd kd s am stk kp ks tm tc th td sed ∧ Off mC H H') := by
  obtain ⟨f, g, nx, ⟨hC, hL, e3, e6, e7, e8, hnx⟩, hR⟩ := id hI
  obtain ⟨⟨b1, b2⟩, b3, b4, b5, b6, b7, b8, b9, b10, b11⟩ := id hS
  obtain ⟨c0, ⟨ms, mk, c1, c2, c3, c4⟩, c5⟩ := id hC
  unfold mOb at c0
  show Ev tb 120 0 [some (.ref 111), some (.int (nI c))] [] H _
  refine ev_iload_n i120_0 rfl ?_
  refine ev_i2l i120_1 ?_
  refine ev_lconst (v := 0) i120_2 (by decide) ?_
  refine ev_ldc2 i120_3 ci120 ks8_60 ?_
  refine ev_callS (vs := [.long ((nI c).toInt64), .long 0, .long 255]) (rest := []) i120_6 ci120 lk8_62 (Or.inl rfl) np117 (by decide +kernel) (Nat.le_of_ble_eq_true rfl) ⟨rfl, rfl, Nat.le_of_ble_eq_true rfl⟩ rfl (c117) (fun r HH hq => ?_)
  obtain ⟨rfl, rfl⟩ := hq
  rw [inJ_R (x := nI c) (m := 256) (by decide) (by decide), inR_n (by omega) (by decide), decide_eq_true hc]
  show Ev tb 120 9 [some (.ref 111), some (.int (nI c))] [.int (bI true)] H _
  refine evb_if_ne (t := 15) i120_9 (by decide) (fun z9 => ?_) (fun z9 => by exfalso; cases z9)
  refine ev_aload_n i120_15 rfl ?_
  refine ev_get i120_16 ci120 fl8_66 (by assumption) rfl ?_
  rw [e3]
  refine ev_bipush (v := nI 64) i120_19 (by decide) ?_
  refine evn_icmp_ne (t := 27) i120_21 (by decide) (by omega) (fun z21 => by exfalso; omega) (fun z21 => ?_)
  refine ev_bipush (v := (-4)) i120_24 (by decide) ?_
  refine ev_iret i120_26 (by decide +kernel) ?_
  exact ⟨rfl, hI, Off.rf⟩
theorem y120o {tb : dxT} {H : dxH} {tx : Nat → Nat} {ln n : Nat} {sd kd : Nat → Nat} {s : Sn} {am : Nat} {stk : Nat → Sn} {kp : Nat → Bool} {ks : Nat → Sn} {tm : Nat} {tc th : Nat → Nat} {td : Nat → Bool} {sed : Int64} {c : Int32} (hI : MInv H tx ln n sd kd s am stk kp ks tm tc th td sed) (hS : SpOK tx ln n sd kd s am stk kp ks tm tc th) (h : inR c 256 = false) : Cl tb 120 [.ref 111, .int c] H (fun r H' => r = some (.int (-2)) ∧ MInv H' tx ln n sd kd s am stk kp ks tm tc th td sed ∧ Off mC H H') := by
  obtain ⟨f, g, nx, ⟨hC, hL, e3, e6, e7, e8, hnx⟩, hR⟩ := id hI
  obtain ⟨⟨b1, b2⟩, b3, b4, b5, b6, b7, b8, b9, b10, b11⟩ := id hS
  obtain ⟨c0, ⟨ms, mk, c1, c2, c3, c4⟩, c5⟩ := id hC
  unfold mOb at c0
  show Ev tb 120 0 [some (.ref 111), some (.int c)] [] H _
  refine ev_iload_n i120_0 rfl ?_
  refine ev_i2l i120_1 ?_
  refine ev_lconst (v := 0) i120_2 (by decide) ?_
  refine ev_ldc2 i120_3 ci120 ks8_60 ?_
  refine ev_callS (vs := [.long c.toInt64, .long 0, .long 255]) (rest := []) i120_6 ci120 lk8_62 (Or.inl rfl) np117 (by decide +kernel) (Nat.le_of_ble_eq_true rfl) ⟨rfl, rfl, Nat.le_of_ble_eq_true rfl⟩ rfl (c117) (fun r HH hq => ?_)
  obtain ⟨rfl, rfl⟩ := hq
  rw [inJ_R (x := c) (m := 256) (by decide) (by decide), h]
  show Ev tb 120 9 [some (.ref 111), some (.int c)] [.int (bI false)] H _
  refine evb_if_ne (t := 15) i120_9 (by decide) (fun z9 => by exfalso; cases z9) (fun z9 => ?_)
  refine ev_bipush (v := (-2)) i120_12 (by decide) ?_
  refine ev_iret i120_14 (by decide +kernel) ?_
  exact ⟨rfl, hI, Off.rf⟩
