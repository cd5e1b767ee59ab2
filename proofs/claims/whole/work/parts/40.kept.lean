/-! the model's calls: kept  -/
theorem y169u {tb : dxT} {H : dxH} {tx : Nat → Nat} {ln n : Nat} {sd kd : Nat → Nat} {s : Sn} {am : Nat} {stk : Nat → Sn} {kp : Nat → Bool} {ks : Nat → Sn} {tm : Nat} {tc th : Nat → Nat} {td : Nat → Bool} {sed : Int64} {x : Int32} (hI : MInv H tx ln n sd kd s am stk kp ks tm tc th td sed) (hS : SpOK tx ln n sd kd s am stk kp ks tm tc th) (h : inR x 2 = false) : Cl tb 169 [.ref 111, .int x] H (fun r H' => r = some (.int (-1)) ∧ MInv H' tx ln n sd kd s am stk kp ks tm tc th td sed ∧ Off mC H H') := by
  obtain ⟨f, g, nx, ⟨hC, hL, e3, e6, e7, e8, hnx⟩, hR⟩ := id hI
  obtain ⟨⟨b1, b2⟩, b3, b4, b5, b6, b7, b8, b9, b10, b11⟩ := id hS
  obtain ⟨c0, ⟨ms, mk, c1, c2, c3, c4⟩, c5⟩ := id hC
  unfold mOb at c0
  show Ev tb 169 0 [some (.ref 111), some (.int x), none] [] H _
  refine ev_iload_n i169_0 rfl ?_
  refine ev_i2l i169_1 ?_
  refine ev_lconst (v := 0) i169_2 (by decide) ?_
  refine ev_lconst (v := 1) i169_3 (by decide) ?_
  refine ev_callS (vs := [.long x.toInt64, .long 0, .long 1]) (rest := []) i169_4 ci169 lk8_62 (Or.inl rfl) np117 (by decide +kernel) (Nat.le_of_ble_eq_true rfl) ⟨rfl, rfl, Nat.le_of_ble_eq_true rfl⟩ rfl (c117) (fun r HH hq => ?_)
  obtain ⟨rfl, rfl⟩ := hq
  rw [inJ_R (x := x) (m := 2) (by decide) (by decide), h]
  show Ev tb 169 7 [some (.ref 111), some (.int x), none] [.int (bI false)] H _
  refine evb_if_ne (t := 12) i169_7 (by decide) (fun z7 => by exfalso; cases z7) (fun z7 => ?_)
  refine ev_iconst (v := (-1)) i169_10 (by decide) ?_
  refine ev_iret i169_11 (by decide +kernel) ?_
  exact ⟨rfl, hI, Off.rf⟩
theorem y170u {tb : dxT} {H : dxH} {tx : Nat → Nat} {ln n : Nat} {sd kd : Nat → Nat} {s : Sn} {am : Nat} {stk : Nat → Sn} {kp : Nat → Bool} {ks : Nat → Sn} {tm : Nat} {tc th : Nat → Nat} {td : Nat → Bool} {sed : Int64} {x : Int32} (hI : MInv H tx ln n sd kd s am stk kp ks tm tc th td sed) (hS : SpOK tx ln n sd kd s am stk kp ks tm tc th) (h : inR x 2 = false) : Cl tb 170 [.ref 111, .int x] H (fun r H' => r = some (.int (-1)) ∧ MInv H' tx ln n sd kd s am stk kp ks tm tc th td sed ∧ Off mC H H') := by
  obtain ⟨f, g, nx, ⟨hC, hL, e3, e6, e7, e8, hnx⟩, hR⟩ := id hI
  obtain ⟨⟨b1, b2⟩, b3, b4, b5, b6, b7, b8, b9, b10, b11⟩ := id hS
  obtain ⟨c0, ⟨ms, mk, c1, c2, c3, c4⟩, c5⟩ := id hC
  unfold mOb at c0
  show Ev tb 170 0 [some (.ref 111), some (.int x), none] [] H _
  refine ev_iload_n i170_0 rfl ?_
  refine ev_i2l i170_1 ?_
  refine ev_lconst (v := 0) i170_2 (by decide) ?_
  refine ev_lconst (v := 1) i170_3 (by decide) ?_
  refine ev_callS (vs := [.long x.toInt64, .long 0, .long 1]) (rest := []) i170_4 ci170 lk8_62 (Or.inl rfl) np117 (by decide +kernel) (Nat.le_of_ble_eq_true rfl) ⟨rfl, rfl, Nat.le_of_ble_eq_true rfl⟩ rfl (c117) (fun r HH hq => ?_)
  obtain ⟨rfl, rfl⟩ := hq
  rw [inJ_R (x := x) (m := 2) (by decide) (by decide), h]
  show Ev tb 170 7 [some (.ref 111), some (.int x), none] [.int (bI false)] H _
  refine evb_if_ne (t := 12) i170_7 (by decide) (fun z7 => by exfalso; cases z7) (fun z7 => ?_)
  refine ev_iconst (v := (-1)) i170_10 (by decide) ?_
  refine ev_iret i170_11 (by decide +kernel) ?_
  exact ⟨rfl, hI, Off.rf⟩
theorem y170e {tb : dxT} {H : dxH} {tx : Nat → Nat} {ln n : Nat} {sd kd : Nat → Nat} {s : Sn} {am : Nat} {stk : Nat → Sn} {kp : Nat → Bool} {ks : Nat → Sn} {tm : Nat} {tc th : Nat → Nat} {td : Nat → Bool} {sed : Int64} {i : Nat} (hI : MInv H tx ln n sd kd s am stk kp ks tm tc th td sed) (hS : SpOK tx ln n sd kd s am stk kp ks tm tc th) (hi : i < 2) (h : kp i = false) : Cl tb 170 [.ref 111, .int (nI i)] H (fun r H' => r = some (.int (-3)) ∧ MInv H' tx ln n sd kd s am stk kp ks tm tc th td sed ∧ Off mC H H') := by
  obtain ⟨f, g, nx, ⟨hC, hL, e3, e6, e7, e8, hnx⟩, hR⟩ := id hI
  obtain ⟨⟨b1, b2⟩, b3, b4, b5, b6, b7, b8, b9, b10, b11⟩ := id hS
  obtain ⟨c0, ⟨ms, mk, c1, c2, c3, c4⟩, c5⟩ := id hC
  unfold mOb at c0
  obtain ⟨_, _, _, ⟨kq, kg, k0, k1, k2, k3⟩, _⟩ := id hR
  show Ev tb 170 0 [some (.ref 111), some (.int (nI i)), none] [] H _
  refine ev_iload_n i170_0 rfl ?_
  refine ev_i2l i170_1 ?_
  refine ev_lconst (v := 0) i170_2 (by decide) ?_
  refine ev_lconst (v := 1) i170_3 (by decide) ?_
  refine ev_callS (vs := [.long ((nI i).toInt64), .long 0, .long 1]) (rest := []) i170_4 ci170 lk8_62 (Or.inl rfl) np117 (by decide +kernel) (Nat.le_of_ble_eq_true rfl) ⟨rfl, rfl, Nat.le_of_ble_eq_true rfl⟩ rfl (c117) (fun r HH hq => ?_)
  obtain ⟨rfl, rfl⟩ := hq
  rw [inJ_R (x := nI i) (m := 2) (by decide) (by decide), inR_n (by omega) (by decide), decide_eq_true hi]
  show Ev tb 170 7 [some (.ref 111), some (.int (nI i)), none] [.int (bI true)] H _
  refine evb_if_ne (t := 12) i170_7 (by decide) (fun z7 => ?_) (fun z7 => by exfalso; cases z7)
  refine ev_aload_n i170_12 rfl ?_
  refine ev_get i170_13 ci170 fl8_50 (by assumption) rfl ?_
  refine ev_iload_n i170_16 rfl ?_
  refine evz_bald i170_17 (by assumption) (by omega) ?_
  rw [k1 i hi, h]
  refine evb_if_ne (t := 24) i170_18 (by decide) (fun z18 => by exfalso; cases z18) (fun z18 => ?_)
  refine ev_bipush (v := (-3)) i170_21 (by decide) ?_
  refine ev_iret i170_23 (by decide +kernel) ?_
  exact ⟨rfl, hI, Off.rf⟩
