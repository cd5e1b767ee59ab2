/-! the class's calls: slots, counts, hours tried out -/
theorem inR_f {x : Int32} {m : Nat} (hm : m < 2147483648) (h : inR x m = false) : x.toInt < 0 ∨ (m : Int) ≤ x.toInt := by
  by_cases h0 : x < 0
  · left
    have h1 := Int32.lt_iff_toInt_lt.mp h0
    simpa using h1
  · right
    obtain ⟨j, hj, rfl⟩ := nI_of h0
    rw [inR_n hj hm] at h
    have := of_decide_eq_false h
    rw [nI_toInt hj]
    omega
theorem c1x {tb : dxT} {H : dxH} {n am : Nat} {stk : Nat → Sn} (hA : ActM H n am stk) : Cl tb 1 [.ref 16] H (fun r H' => r = none ∧ ActM H' n 0 stk ∧ Off actC H H') := by
  obtain ⟨fi, h1, h2, h3, h4⟩ := hA
  refine (c1 h2).post (fun r H' hq => ?_)
  obtain ⟨rfl, k1, k2⟩ := hq
  exact ⟨rfl, ⟨fi, h1, k1, fun i hi => (h3 i hi).off k2 (fun j u1 u2 q => by unfold actC at q; omega), fun i hi => absurd hi (by omega)⟩, k2⟩
theorem x93u {tb : dxT} {H : dxH} {tx : Nat → Nat} {ln n : Nat} {sd kd : Nat → Nat} {s : Sn} {am : Nat} {stk : Nat → Sn} {kp : Nat → Bool} {ks : Nat → Sn} {tm : Nat} {tc th : Nat → Nat} {td : Nat → Bool} {sed : Int64} {x : Int32} (hI : CInv H tx ln n sd kd s am stk kp ks tm tc th td sed) (hS : SpOK tx ln n sd kd s am stk kp ks tm tc th) (h : inR x 2 = false) : Cl tb 93 [.ref 0, .int x] H (fun r H' => r = some (.int (-1)) ∧ CInv H' tx ln n sd kd s am stk kp ks tm tc th td sed ∧ Off xC H H') := by
  obtain ⟨f0, fT, fH, fM, fA, fK, fL, fP⟩ := id hI
  obtain ⟨⟨b1, b2⟩, b3, b4, b5, b6, b7, b8, b9, b10, b11⟩ := id hS
  have g0 := f0
  unfold CC at g0
  obtain ⟨m0, m1, m2, m3, m4⟩ := id fM
  obtain ⟨kS, k1, kA, kB⟩ := id fK
  obtain ⟨sh0, _⟩ := id kS
  obtain ⟨_, _, h16, _⟩ := id fA
  obtain ⟨a16, _⟩ := id h16
  obtain ⟨u0, _⟩ := id fH
  obtain ⟨x0, _⟩ := id fT
  obtain ⟨l0, _⟩ := id fL
  have hb : HE n < 64 := HE_lt b3
  have ha : 6 ≤ 6 := Nat.le_refl 6
  show Ev tb 93 0 [some (.ref 0), some (.int x)] [] H _
  refine ev_iload_n i93_0 rfl ?_
  refine ev_callS (vs := [.int x]) (rest := []) i93_1 ci93 lk7_247 (Or.inl rfl) np98 (by decide +kernel) (Nat.le_of_ble_eq_true rfl) ⟨rfl, rfl, Nat.le_of_ble_eq_true rfl⟩ rfl (c98) (fun r HH hq => ?_)
  obtain ⟨rfl, rfl⟩ := hq
  show Ev tb 93 4 [some (.ref 0), some (.int x)] [.int (bI (inR x 2))] H _
  refine evb_if_ne (t := 9) i93_4 (by decide) (fun z4 => by exfalso; rw [h] at z4; cases z4) (fun z4 => ?_)
  refine ev_iconst (v := (-1)) i93_7 (by decide) ?_
  refine ev_iret i93_8 (by decide +kernel) ?_
  exact ⟨rfl, hI, Off.rf⟩
def updS (f : Nat → Sn) (k : Nat) (v : Sn) : Nat → Sn := fun j => if j = k then v else f j
theorem x93 {tb : dxT} {H : dxH} {tx : Nat → Nat} {ln n : Nat} {sd kd : Nat → Nat} {s : Sn} {am : Nat} {stk : Nat → Sn} {kp : Nat → Bool} {ks : Nat → Sn} {tm : Nat} {tc th : Nat → Nat} {td : Nat → Bool} {sed : Int64} {i : Nat} (hI : CInv H tx ln n sd kd s am stk kp ks tm tc th td sed) (hS : SpOK tx ln n sd kd s am stk kp ks tm tc th) (hi : i < 2) : Cl tb 93 [.ref 0, .int (nI i)] H (fun r H' => r = some (.int s.2.2.2.2.2.1) ∧ CInv H' tx ln n sd kd s am stk (updB kp i true) (updS ks i s) tm tc th td sed ∧ Off xC H H') := by
  obtain ⟨f0, fT, fH, fM, fA, fK, fL, fP⟩ := id hI
  obtain ⟨⟨b1, b2⟩, b3, b4, b5, b6, b7, b8, b9, b10, b11⟩ := id hS
  have g0 := f0
  unfold CC at g0
  obtain ⟨m0, m1, m2, m3, m4⟩ := id fM
  obtain ⟨kS, k1, kA, kB⟩ := id fK
  obtain ⟨sh0, _⟩ := id kS
  obtain ⟨_, _, h16, _⟩ := id fA
  obtain ⟨a16, _⟩ := id h16
  obtain ⟨u0, _⟩ := id fH
  obtain ⟨x0, _⟩ := id fT
  obtain ⟨l0, _⟩ := id fL
  have hb : HE n < 64 := HE_lt b3
  have ha : 6 ≤ 6 := Nat.le_refl 6
  show Ev tb 93 0 [some (.ref 0), some (.int (nI i))] [] H _
  refine ev_iload_n i93_0 rfl ?_
  refine ev_callS (vs := [.int (nI i)]) (rest := []) i93_1 ci93 lk7_247 (Or.inl rfl) np98 (by decide +kernel) (Nat.le_of_ble_eq_true rfl) ⟨rfl, rfl, Nat.le_of_ble_eq_true rfl⟩ rfl (c98n (by omega)) (fun r HH hq => ?_)
  obtain ⟨rfl, rfl⟩ := hq
  show Ev tb 93 4 [some (.ref 0), some (.int (nI i))] [.int (bI (decide (i < 2)))] H _
  refine evd_if_ne (t := 9) i93_4 (by decide) (fun z4 => ?_) (fun z4 => by exfalso; omega)
  refine ev_aload_n i93_9 rfl ?_
  refine ev_get i93_10 ci93 fl7_47 (by assumption) rfl ?_
  refine ev_iload_n i93_13 rfl ?_
  refine ev_aload_n i93_14 rfl ?_
  refine ev_get i93_15 ci93 fl7_28 (by assumption) rfl ?_
  refine ev_callV (vs := [.int (nI i), .ref 6]) (rest := []) i93_18 ci93 lk7_250 (congrArg (fun q => q + 1) np59) ci59 (by decide) (by decide +kernel) (Nat.le_of_ble_eq_true rfl) ⟨rfl, rfl, Nat.le_of_ble_eq_true rfl⟩ rfl (by assumption) (c59 (by decide) kS hi (kA i hi) fM b6.2.2.1.2.2.1 b6.2.1 b6.2.2.1.2.2.2.1 b6.2.2.1.2.2.2.2 (by omega)) (fun r H1 hq => ?_)
  obtain ⟨rfl, hN, hO1⟩ := hq
  have f0 := f0.off hO1 (by unfold mdC; omega)
  have fM := fM.off hO1 (fun j u1 u2 => by unfold mdC; omega)
  have g0 := f0
  unfold CC at g0
  obtain ⟨m0, m1, m2, m3, m4⟩ := id fM
  have k1 := hO1.at k1 (by unfold mdC; omega)
  show Ev tb 93 21 [some (.ref 0), some (.int (nI i))] [] H1 _
  refine ev_aload_n i93_21 rfl ?_
  refine ev_get i93_22 ci93 fl7_51 (by assumption) rfl ?_
  refine ev_iload_n i93_25 rfl ?_
  refine ev_iconst (v := nI 1) i93_26 (by decide) ?_
  refine evz_bastt i93_27 (by assumption) (by omega) (fun H2 hH2 => ?_)
  have k1 : H2[101]? = some (ZA 2 (updB kp i true)) := by rw [hH2]; exact set_self k1
  have g0 : H2[0]? = some (.inr (7, [.ref 1, .ref 3, .ref 6, .ref 11, .ref 16, .ref 89, .ref 101, .ref 102, .ref 106, .ref 108, .ref 110, .long sed])) := by rw [hH2]; exact set_ne g0 (by omega)
  have m0 : H2[6]? = some (.inr (3, [.ref 3, .ref (6 + 1), .ref (6 + 2), .ref (6 + 3), .ref (6 + 4), .int (nI (HE n)), .int (bI s.2.1), .int s.2.2.2.2.2.1, .int s.2.2.2.2.2.2])) := by rw [hH2]; exact set_ne m0 (by omega)
  refine ev_aload_n i93_28 rfl ?_
  refine ev_get i93_29 ci93 fl7_28 (by assumption) rfl ?_
  refine ev_callV (vs := []) (rest := []) i93_32 ci93 lk7_254 (congrArg (fun q => q + 1) np38) ci38 (by decide) (by decide +kernel) (Nat.le_of_ble_eq_true rfl) ⟨rfl, rfl, Nat.le_of_ble_eq_true rfl⟩ rfl (by assumption) (c38 (MdX.off fM (A := fun j => j = 101) (by rw [hH2]; exact Off.rf.set rfl) (by omega))) (fun r HH hq => ?_)
  obtain ⟨rfl, rfl⟩ := hq
  show Ev tb 93 35 [some (.ref 0), some (.int (nI i))] [.int s.2.2.2.2.2.1] H2 _
  refine ev_iret i93_35 (by decide +kernel) ?_
  have hOa : Off (fun j => j = 101) H1 H2 := by rw [hH2]; exact Off.rf.set rfl
  have hOO : Off (fun j => mdC (91 + 5 * i) j ∨ j = 101) H H2 := hO1.trans hOa (fun _ q => Or.inl q) (fun _ q => Or.inr q)
  have hK : KepM H2 n (updB kp i true) (updS ks i s) := by
    refine ⟨kS.off hOO (by unfold mdC; omega) (by unfold mdC; omega), k1, fun j hj => ?_, fun j hj hk => ?_⟩
    · by_cases e : j = i
      · subst e
        exact (MdX.off (n := n) (s := s) hN hOa (by omega)).shp b6
      · exact (kA j hj).off hOO (fun q u1 u2 => by unfold mdC; omega)
    · unfold updS
      by_cases e : j = i
      · subst e
        rw [if_pos rfl]
        exact MdX.off (n := n) (s := s) hN hOa (by omega)
      · rw [if_neg e]
        have hk2 : kp j = true := by
          unfold updB at hk
          rwa [if_neg e] at hk
        exact (kB j hj hk2).off hOO (fun q u1 u2 => by unfold mdC; omega)
  exact ⟨rfl, ⟨(show CC H sed from hI.1).off hOO (by unfold mdC; omega), fT.off hOO (by unfold mdC; omega) (by unfold mdC; omega), fH.off hOO (by unfold mdC; omega) (by unfold mdC; omega) (by unfold mdC; omega), (show MdX H 6 n s from hI.2.2.2.1).off hOO (fun j u1 u2 => by unfold mdC; omega), fA.off hOO (fun j u1 u2 => by unfold mdC; omega), hK, fL.off hOO (fun j u1 u2 => by unfold mdC; omega), fP.off hOO (fun j u1 u2 => by unfold mdC; omega) (fun j u1 u2 => by unfold mdC; omega)⟩, hOO.weaken (fun j q => by unfold mdC at q; unfold xC; omega)⟩
theorem x94u {tb : dxT} {H : dxH} {tx : Nat → Nat} {ln n : Nat} {sd kd : Nat → Nat} {s : Sn} {am : Nat} {stk : Nat → Sn} {kp : Nat → Bool} {ks : Nat → Sn} {tm : Nat} {tc th : Nat → Nat} {td : Nat → Bool} {sed : Int64} {x : Int32} (hI : CInv H tx ln n sd kd s am stk kp ks tm tc th td sed) (hS : SpOK tx ln n sd kd s am stk kp ks tm tc th) (h : inR x 2 = false) : Cl tb 94 [.ref 0, .int x] H (fun r H' => r = some (.int (-1)) ∧ CInv H' tx ln n sd kd s am stk kp ks tm tc th td sed ∧ Off xC H H') := by
  obtain ⟨f0, fT, fH, fM, fA, fK, fL, fP⟩ := id hI
  obtain ⟨⟨b1, b2⟩, b3, b4, b5, b6, b7, b8, b9, b10, b11⟩ := id hS
  have g0 := f0
  unfold CC at g0
  obtain ⟨m0, m1, m2, m3, m4⟩ := id fM
  obtain ⟨kS, k1, kA, kB⟩ := id fK
  obtain ⟨sh0, _⟩ := id kS
  obtain ⟨_, _, h16, _⟩ := id fA
  obtain ⟨a16, _⟩ := id h16
  obtain ⟨u0, _⟩ := id fH
  obtain ⟨x0, _⟩ := id fT
  obtain ⟨l0, _⟩ := id fL
  have hb : HE n < 64 := HE_lt b3
  have ha : 6 ≤ 6 := Nat.le_refl 6
  show Ev tb 94 0 [some (.ref 0), some (.int x)] [] H _
  refine ev_iload_n i94_0 rfl ?_
  refine ev_callS (vs := [.int x]) (rest := []) i94_1 ci94 lk7_247 (Or.inl rfl) np98 (by decide +kernel) (Nat.le_of_ble_eq_true rfl) ⟨rfl, rfl, Nat.le_of_ble_eq_true rfl⟩ rfl (c98) (fun r HH hq => ?_)
  obtain ⟨rfl, rfl⟩ := hq
  show Ev tb 94 4 [some (.ref 0), some (.int x)] [.int (bI (inR x 2))] H _
  refine evb_if_ne (t := 9) i94_4 (by decide) (fun z4 => by exfalso; rw [h] at z4; cases z4) (fun z4 => ?_)
  refine ev_iconst (v := (-1)) i94_7 (by decide) ?_
  refine ev_iret i94_8 (by decide +kernel) ?_
  exact ⟨rfl, hI, Off.rf⟩
theorem x94s {tb : dxT} {H : dxH} {tx : Nat → Nat} {ln n : Nat} {sd kd : Nat → Nat} {s : Sn} {am : Nat} {stk : Nat → Sn} {kp : Nat → Bool} {ks : Nat → Sn} {tm : Nat} {tc th : Nat → Nat} {td : Nat → Bool} {sed : Int64} {i : Nat} (hI : CInv H tx ln n sd kd s am stk kp ks tm tc th td sed) (hS : SpOK tx ln n sd kd s am stk kp ks tm tc th) (hi : i < 2) (h : kp i = false) : Cl tb 94 [.ref 0, .int (nI i)] H (fun r H' => r = some (.int (-3)) ∧ CInv H' tx ln n sd kd s am stk kp ks tm tc th td sed ∧ Off xC H H') := by
  obtain ⟨f0, fT, fH, fM, fA, fK, fL, fP⟩ := id hI
  obtain ⟨⟨b1, b2⟩, b3, b4, b5, b6, b7, b8, b9, b10, b11⟩ := id hS
  have g0 := f0
  unfold CC at g0
  obtain ⟨m0, m1, m2, m3, m4⟩ := id fM
  obtain ⟨kS, k1, kA, kB⟩ := id fK
  obtain ⟨sh0, _⟩ := id kS
  obtain ⟨_, _, h16, _⟩ := id fA
  obtain ⟨a16, _⟩ := id h16
  obtain ⟨u0, _⟩ := id fH
  obtain ⟨x0, _⟩ := id fT
  obtain ⟨l0, _⟩ := id fL
  have hb : HE n < 64 := HE_lt b3
  have ha : 6 ≤ 6 := Nat.le_refl 6
  show Ev tb 94 0 [some (.ref 0), some (.int (nI i))] [] H _
  refine ev_iload_n i94_0 rfl ?_
  refine ev_callS (vs := [.int (nI i)]) (rest := []) i94_1 ci94 lk7_247 (Or.inl rfl) np98 (by decide +kernel) (Nat.le_of_ble_eq_true rfl) ⟨rfl, rfl, Nat.le_of_ble_eq_true rfl⟩ rfl (c98n (by omega)) (fun r HH hq => ?_)
  obtain ⟨rfl, rfl⟩ := hq
  show Ev tb 94 4 [some (.ref 0), some (.int (nI i))] [.int (bI (decide (i < 2)))] H _
  refine evd_if_ne (t := 9) i94_4 (by decide) (fun z4 => ?_) (fun z4 => by exfalso; omega)
  refine ev_aload_n i94_9 rfl ?_
  refine ev_get i94_10 ci94 fl7_51 (by assumption) rfl ?_
  refine ev_iload_n i94_13 rfl ?_
  refine evz_bald i94_14 (by assumption) (by omega) ?_
  refine evb_if_ne (t := 21) i94_15 (by decide) (fun z15 => by exfalso; rw [h] at z15; cases z15) (fun z15 => ?_)
  refine ev_bipush (v := (-3)) i94_18 (by decide) ?_
  refine ev_iret i94_20 (by decide +kernel) ?_
  exact ⟨rfl, hI, Off.rf⟩
theorem x94 {tb : dxT} {H : dxH} {tx : Nat → Nat} {ln n : Nat} {sd kd : Nat → Nat} {s : Sn} {am : Nat} {stk : Nat → Sn} {kp : Nat → Bool} {ks : Nat → Sn} {tm : Nat} {tc th : Nat → Nat} {td : Nat → Bool} {sed : Int64} {i : Nat} (hI : CInv H tx ln n sd kd s am stk kp ks tm tc th td sed) (hS : SpOK tx ln n sd kd s am stk kp ks tm tc th) (hi : i < 2) (h : kp i = true) : Cl tb 94 [.ref 0, .int (nI i)] H (fun r H' => r = some (.int ((ks i).2.2.2.2.2.1)) ∧ CInv H' tx ln n sd kd (ks i) 0 stk kp ks tm tc th td sed ∧ Off xC H H') := by
  obtain ⟨f0, fT, fH, fM, fA, fK, fL, fP⟩ := id hI
  obtain ⟨⟨b1, b2⟩, b3, b4, b5, b6, b7, b8, b9, b10, b11⟩ := id hS
  have g0 := f0
  unfold CC at g0
  obtain ⟨m0, m1, m2, m3, m4⟩ := id fM
  obtain ⟨kS, k1, kA, kB⟩ := id fK
  obtain ⟨sh0, _⟩ := id kS
  obtain ⟨_, _, h16, _⟩ := id fA
  obtain ⟨a16, _⟩ := id h16
  obtain ⟨u0, _⟩ := id fH
  obtain ⟨x0, _⟩ := id fT
  obtain ⟨l0, _⟩ := id fL
  have hb : HE n < 64 := HE_lt b3
  have ha : 6 ≤ 6 := Nat.le_refl 6
  have e6 := b8 i hi h
  show Ev tb 94 0 [some (.ref 0), some (.int (nI i))] [] H _
  refine ev_iload_n i94_0 rfl ?_
  refine ev_callS (vs := [.int (nI i)]) (rest := []) i94_1 ci94 lk7_247 (Or.inl rfl) np98 (by decide +kernel) (Nat.le_of_ble_eq_true rfl) ⟨rfl, rfl, Nat.le_of_ble_eq_true rfl⟩ rfl (c98n (by omega)) (fun r HH hq => ?_)
  obtain ⟨rfl, rfl⟩ := hq
  show Ev tb 94 4 [some (.ref 0), some (.int (nI i))] [.int (bI (decide (i < 2)))] H _
  refine evd_if_ne (t := 9) i94_4 (by decide) (fun z4 => ?_) (fun z4 => by exfalso; omega)
  refine ev_aload_n i94_9 rfl ?_
  refine ev_get i94_10 ci94 fl7_51 (by assumption) rfl ?_
  refine ev_iload_n i94_13 rfl ?_
  refine evz_bald i94_14 (by assumption) (by omega) ?_
  refine evb_if_ne (t := 21) i94_15 (by decide) (fun z15 => ?_) (fun z15 => by exfalso; rw [h] at z15; cases z15)
  refine ev_aload_n i94_21 rfl ?_
  refine ev_get i94_22 ci94 fl7_47 (by assumption) rfl ?_
  refine ev_iload_n i94_25 rfl ?_
  refine ev_aload_n i94_26 rfl ?_
  refine ev_get i94_27 ci94 fl7_28 (by assumption) rfl ?_
  refine ev_callV (vs := [.int (nI i), .ref 6]) (rest := []) i94_30 ci94 lk7_257 (congrArg (fun q => q + 1) np60) ci60 (by decide) (by decide +kernel) (Nat.le_of_ble_eq_true rfl) ⟨rfl, rfl, Nat.le_of_ble_eq_true rfl⟩ rfl (by assumption) (c60 (by decide) kS hi (fM.shp b6) (kB i hi h) e6.2.2.1.2.2.1 e6.2.1 e6.2.2.1.2.2.2.1 e6.2.2.1.2.2.2.2 (by omega)) (fun r H1 hq => ?_)
  obtain ⟨rfl, fM, hO1⟩ := hq
  have f0 := f0.off hO1 (by unfold mdC; omega)
  have fA := fA.off hO1 (fun j u1 u2 => by unfold mdC; omega)
  have g0 := f0
  unfold CC at g0
  obtain ⟨_, _, h16, _⟩ := id fA
  obtain ⟨a16, _⟩ := id h16
  show Ev tb 94 33 [some (.ref 0), some (.int (nI i))] [] H1 _
  refine ev_aload_n i94_33 rfl ?_
  refine ev_get i94_34 ci94 fl7_38 (by assumption) rfl ?_
  refine ev_callV (vs := []) (rest := []) i94_37 ci94 lk7_96 (congrArg (fun q => q + 1) np1) ci1 (by decide) (by decide +kernel) (Nat.le_of_ble_eq_true rfl) ⟨rfl, rfl, Nat.le_of_ble_eq_true rfl⟩ rfl (by assumption) (c1x fA) (fun r H2 hq => ?_)
  obtain ⟨rfl, fA, hO2⟩ := hq
  have f0 := f0.off hO2 (by unfold actC; omega)
  have fM := MdX.off (n := n) (s := ks i) fM hO2 (fun j u1 u2 => by unfold actC; omega)
  have g0 := f0
  unfold CC at g0
  obtain ⟨m0, m1, m2, m3, m4⟩ := id fM
  show Ev tb 94 40 [some (.ref 0), some (.int (nI i))] [] H2 _
  refine ev_aload_n i94_40 rfl ?_
  refine ev_get i94_41 ci94 fl7_28 (by assumption) rfl ?_
  refine ev_callV (vs := []) (rest := []) i94_44 ci94 lk7_254 (congrArg (fun q => q + 1) np38) ci38 (by decide) (by decide +kernel) (Nat.le_of_ble_eq_true rfl) ⟨rfl, rfl, Nat.le_of_ble_eq_true rfl⟩ rfl (by assumption) (c38 fM) (fun r HH hq => ?_)
  obtain ⟨rfl, rfl⟩ := hq
  show Ev tb 94 47 [some (.ref 0), some (.int (nI i))] [.int ((ks i).2.2.2.2.2.1)] H2 _
  refine ev_iret i94_47 (by decide +kernel) ?_
  have hOO : Off (fun j => mdC 6 j ∨ j = 16) H H2 := hO1.trans hO2 (fun _ q => Or.inl q) (fun _ q => Or.inr q)
  exact ⟨rfl, ⟨f0, fT.off hOO (by unfold mdC; omega) (by unfold mdC; omega), fH.off hOO (by unfold mdC; omega) (by unfold mdC; omega) (by unfold mdC; omega), fM, fA, fK.off hOO (fun j u1 u2 => by unfold mdC; omega), fL.off hOO (fun j u1 u2 => by unfold mdC; omega), fP.off hOO (fun j u1 u2 => by unfold mdC; omega) (fun j u1 u2 => by unfold mdC; omega)⟩, hOO.weaken (fun j q => by unfold mdC at q; unfold xC; omega)⟩
theorem x95_0 {tb : dxT} {H : dxH} {tx : Nat → Nat} {ln n : Nat} {sd kd : Nat → Nat} {s : Sn} {am : Nat} {stk : Nat → Sn} {kp : Nat → Bool} {ks : Nat → Sn} {tm : Nat} {tc th : Nat → Nat} {td : Nat → Bool} {sed : Int64} (hI : CInv H tx ln n sd kd s am stk kp ks tm tc th td sed) (hS : SpOK tx ln n sd kd s am stk kp ks tm tc th) : Cl tb 95 [.ref 0, .int (nI 0)] H (fun r H' => r = some (.int (nI ln)) ∧ CInv H' tx ln n sd kd s am stk kp ks tm tc th td sed ∧ Off xC H H') := by
  obtain ⟨f0, fT, fH, fM, fA, fK, fL, fP⟩ := id hI
  obtain ⟨⟨b1, b2⟩, b3, b4, b5, b6, b7, b8, b9, b10, b11⟩ := id hS
  have g0 := f0
  unfold CC at g0
  obtain ⟨m0, m1, m2, m3, m4⟩ := id fM
  obtain ⟨kS, k1, kA, kB⟩ := id fK
  obtain ⟨sh0, _⟩ := id kS
  obtain ⟨_, _, h16, _⟩ := id fA
  obtain ⟨a16, _⟩ := id h16
  obtain ⟨u0, _⟩ := id fH
  obtain ⟨x0, _⟩ := id fT
  obtain ⟨l0, _⟩ := id fL
  have hb : HE n < 64 := HE_lt b3
  have ha : 6 ≤ 6 := Nat.le_refl 6
  show Ev tb 95 0 [some (.ref 0), some (.int (nI 0))] [] H _
  refine ev_iload_n i95_0 rfl ?_
  refine ev_tabIn (o := 55) (t := 56) i95_1 (by decide) (by decide) (by decide) ?_
  refine ev_aload_n i95_56 rfl ?_
  refine ev_get i95_57 ci95 fl7_10 (by assumption) rfl ?_
  refine ev_callV (vs := []) (rest := []) i95_60 ci95 lk7_80 (congrArg (fun q => q + 1) np49) ci49 (by decide) (by decide +kernel) (Nat.le_of_ble_eq_true rfl) ⟨rfl, rfl, Nat.le_of_ble_eq_true rfl⟩ rfl (by assumption) (c49 fT b1) (fun r HH hq => ?_)
  obtain ⟨rfl, rfl⟩ := hq
  show Ev tb 95 63 [some (.ref 0), some (.int (nI 0))] [.int (nI ln)] H _
  refine ev_iret i95_63 (by decide +kernel) ?_
  exact ⟨rfl, hI, Off.rf⟩
theorem x95_1 {tb : dxT} {H : dxH} {tx : Nat → Nat} {ln n : Nat} {sd kd : Nat → Nat} {s : Sn} {am : Nat} {stk : Nat → Sn} {kp : Nat → Bool} {ks : Nat → Sn} {tm : Nat} {tc th : Nat → Nat} {td : Nat → Bool} {sed : Int64} (hI : CInv H tx ln n sd kd s am stk kp ks tm tc th td sed) (hS : SpOK tx ln n sd kd s am stk kp ks tm tc th) : Cl tb 95 [.ref 0, .int (nI 1)] H (fun r H' => r = some (.int (nI n)) ∧ CInv H' tx ln n sd kd s am stk kp ks tm tc th td sed ∧ Off xC H H') := by
  obtain ⟨f0, fT, fH, fM, fA, fK, fL, fP⟩ := id hI
  obtain ⟨⟨b1, b2⟩, b3, b4, b5, b6, b7, b8, b9, b10, b11⟩ := id hS
  have g0 := f0
  unfold CC at g0
  obtain ⟨m0, m1, m2, m3, m4⟩ := id fM
  obtain ⟨kS, k1, kA, kB⟩ := id fK
  obtain ⟨sh0, _⟩ := id kS
  obtain ⟨_, _, h16, _⟩ := id fA
  obtain ⟨a16, _⟩ := id h16
  obtain ⟨u0, _⟩ := id fH
  obtain ⟨x0, _⟩ := id fT
  obtain ⟨l0, _⟩ := id fL
  have hb : HE n < 64 := HE_lt b3
  have ha : 6 ≤ 6 := Nat.le_refl 6
  show Ev tb 95 0 [some (.ref 0), some (.int (nI 1))] [] H _
  refine ev_iload_n i95_0 rfl ?_
  refine ev_tabIn (o := 63) (t := 64) i95_1 (by decide) (by decide) (by decide) ?_
  refine ev_aload_n i95_64 rfl ?_
  refine ev_get i95_65 ci95 fl7_19 (by assumption) rfl ?_
  refine ev_callV (vs := []) (rest := []) i95_68 ci95 lk7_97 (congrArg (fun q => q + 1) np14) ci14 (by decide) (by decide +kernel) (Nat.le_of_ble_eq_true rfl) ⟨rfl, rfl, Nat.le_of_ble_eq_true rfl⟩ rfl (by assumption) (c14 fH) (fun r HH hq => ?_)
  obtain ⟨rfl, rfl⟩ := hq
  show Ev tb 95 71 [some (.ref 0), some (.int (nI 1))] [.int (nI n)] H _
  refine ev_iret i95_71 (by decide +kernel) ?_
  exact ⟨rfl, hI, Off.rf⟩
theorem x95_2 {tb : dxT} {H : dxH} {tx : Nat → Nat} {ln n : Nat} {sd kd : Nat → Nat} {s : Sn} {am : Nat} {stk : Nat → Sn} {kp : Nat → Bool} {ks : Nat → Sn} {tm : Nat} {tc th : Nat → Nat} {td : Nat → Bool} {sed : Int64} (hI : CInv H tx ln n sd kd s am stk kp ks tm tc th td sed) (hS : SpOK tx ln n sd kd s am stk kp ks tm tc th) : Cl tb 95 [.ref 0, .int (nI 2)] H (fun r H' => r = some (.int s.2.2.2.2.2.1) ∧ CInv H' tx ln n sd kd s am stk kp ks tm tc th td sed ∧ Off xC H H') := by
  obtain ⟨f0, fT, fH, fM, fA, fK, fL, fP⟩ := id hI
  obtain ⟨⟨b1, b2⟩, b3, b4, b5, b6, b7, b8, b9, b10, b11⟩ := id hS
  have g0 := f0
  unfold CC at g0
  obtain ⟨m0, m1, m2, m3, m4⟩ := id fM
  obtain ⟨kS, k1, kA, kB⟩ := id fK
  obtain ⟨sh0, _⟩ := id kS
  obtain ⟨_, _, h16, _⟩ := id fA
  obtain ⟨a16, _⟩ := id h16
  obtain ⟨u0, _⟩ := id fH
  obtain ⟨x0, _⟩ := id fT
  obtain ⟨l0, _⟩ := id fL
  have hb : HE n < 64 := HE_lt b3
  have ha : 6 ≤ 6 := Nat.le_refl 6
  show Ev tb 95 0 [some (.ref 0), some (.int (nI 2))] [] H _
  refine ev_iload_n i95_0 rfl ?_
  refine ev_tabIn (o := 71) (t := 72) i95_1 (by decide) (by decide) (by decide) ?_
  refine ev_aload_n i95_72 rfl ?_
  refine ev_get i95_73 ci95 fl7_28 (by assumption) rfl ?_
  refine ev_callV (vs := []) (rest := []) i95_76 ci95 lk7_254 (congrArg (fun q => q + 1) np38) ci38 (by decide) (by decide +kernel) (Nat.le_of_ble_eq_true rfl) ⟨rfl, rfl, Nat.le_of_ble_eq_true rfl⟩ rfl (by assumption) (c38 fM) (fun r HH hq => ?_)
  obtain ⟨rfl, rfl⟩ := hq
  show Ev tb 95 79 [some (.ref 0), some (.int (nI 2))] [.int s.2.2.2.2.2.1] H _
  refine ev_iret i95_79 (by decide +kernel) ?_
  exact ⟨rfl, hI, Off.rf⟩
theorem x95_3 {tb : dxT} {H : dxH} {tx : Nat → Nat} {ln n : Nat} {sd kd : Nat → Nat} {s : Sn} {am : Nat} {stk : Nat → Sn} {kp : Nat → Bool} {ks : Nat → Sn} {tm : Nat} {tc th : Nat → Nat} {td : Nat → Bool} {sed : Int64} (hI : CInv H tx ln n sd kd s am stk kp ks tm tc th td sed) (hS : SpOK tx ln n sd kd s am stk kp ks tm tc th) : Cl tb 95 [.ref 0, .int (nI 3)] H (fun r H' => r = some (.int (bI s.2.1)) ∧ CInv H' tx ln n sd kd s am stk kp ks tm tc th td sed ∧ Off xC H H') := by
  obtain ⟨f0, fT, fH, fM, fA, fK, fL, fP⟩ := id hI
  obtain ⟨⟨b1, b2⟩, b3, b4, b5, b6, b7, b8, b9, b10, b11⟩ := id hS
  have g0 := f0
  unfold CC at g0
  obtain ⟨m0, m1, m2, m3, m4⟩ := id fM
  obtain ⟨kS, k1, kA, kB⟩ := id fK
  obtain ⟨sh0, _⟩ := id kS
  obtain ⟨_, _, h16, _⟩ := id fA
  obtain ⟨a16, _⟩ := id h16
  obtain ⟨u0, _⟩ := id fH
  obtain ⟨x0, _⟩ := id fT
  obtain ⟨l0, _⟩ := id fL
  have hb : HE n < 64 := HE_lt b3
  have ha : 6 ≤ 6 := Nat.le_refl 6
  show Ev tb 95 0 [some (.ref 0), some (.int (nI 3))] [] H _
  refine ev_iload_n i95_0 rfl ?_
  refine ev_tabIn (o := 79) (t := 80) i95_1 (by decide) (by decide) (by decide) ?_
  refine ev_aload_n i95_80 rfl ?_
  refine ev_get i95_81 ci95 fl7_28 (by assumption) rfl ?_
  refine ev_callV (vs := []) (rest := []) i95_84 ci95 lk7_144 (congrArg (fun q => q + 1) np35) ci35 (by decide) (by decide +kernel) (Nat.le_of_ble_eq_true rfl) ⟨rfl, rfl, Nat.le_of_ble_eq_true rfl⟩ rfl (by assumption) (c35 fM) (fun r HH hq => ?_)
  obtain ⟨rfl, rfl⟩ := hq
  show Ev tb 95 87 [some (.ref 0), some (.int (nI 3))] [.int (bI s.2.1)] H _
  refine evb_if_eq (t := 94) i95_87 (by decide) (fun z87 => ?_) (fun z87 => ?_)
  · refine ev_iconst (v := nI 0) i95_94 (by decide) ?_
    refine ev_iret i95_95 (by decide +kernel) ?_
    rw [z87]
    exact ⟨rfl, hI, Off.rf⟩
  · refine ev_iconst (v := nI 1) i95_90 (by decide) ?_
    refine ev_goto (t := 95) i95_91 (by decide) ?_
    refine ev_iret i95_95 (by decide +kernel) ?_
    rw [z87]
    exact ⟨rfl, hI, Off.rf⟩
theorem x95_4 {tb : dxT} {H : dxH} {tx : Nat → Nat} {ln n : Nat} {sd kd : Nat → Nat} {s : Sn} {am : Nat} {stk : Nat → Sn} {kp : Nat → Bool} {ks : Nat → Sn} {tm : Nat} {tc th : Nat → Nat} {td : Nat → Bool} {sed : Int64} (hI : CInv H tx ln n sd kd s am stk kp ks tm tc th td sed) (hS : SpOK tx ln n sd kd s am stk kp ks tm tc th) : Cl tb 95 [.ref 0, .int (nI 4)] H (fun r H' => r = some (.int (s.2.2.2.2.1 0)) ∧ CInv H' tx ln n sd kd s am stk kp ks tm tc th td sed ∧ Off xC H H') := by
  obtain ⟨f0, fT, fH, fM, fA, fK, fL, fP⟩ := id hI
  obtain ⟨⟨b1, b2⟩, b3, b4, b5, b6, b7, b8, b9, b10, b11⟩ := id hS
  have g0 := f0
  unfold CC at g0
  obtain ⟨m0, m1, m2, m3, m4⟩ := id fM
  obtain ⟨kS, k1, kA, kB⟩ := id fK
  obtain ⟨sh0, _⟩ := id kS
  obtain ⟨_, _, h16, _⟩ := id fA
  obtain ⟨a16, _⟩ := id h16
  obtain ⟨u0, _⟩ := id fH
  obtain ⟨x0, _⟩ := id fT
  obtain ⟨l0, _⟩ := id fL
  have hb : HE n < 64 := HE_lt b3
  have ha : 6 ≤ 6 := Nat.le_refl 6
  show Ev tb 95 0 [some (.ref 0), some (.int (nI 4))] [] H _
  refine ev_iload_n i95_0 rfl ?_
  refine ev_tabIn (o := 95) (t := 96) i95_1 (by decide) (by decide) (by decide) ?_
  refine ev_aload_n i95_96 rfl ?_
  refine ev_get i95_97 ci95 fl7_28 (by assumption) rfl ?_
  refine ev_iconst (v := nI 0) i95_100 (by decide) ?_
  refine ev_callV (vs := [.int (nI 0)]) (rest := []) i95_101 ci95 lk7_172 (congrArg (fun q => q + 1) np37) ci37 (by decide) (by decide +kernel) (Nat.le_of_ble_eq_true rfl) ⟨rfl, rfl, Nat.le_of_ble_eq_true rfl⟩ rfl (by assumption) (c37 fM (by decide)) (fun r HH hq => ?_)
  obtain ⟨rfl, rfl⟩ := hq
  show Ev tb 95 104 [some (.ref 0), some (.int (nI 4))] [.int (s.2.2.2.2.1 0)] H _
  refine ev_iret i95_104 (by decide +kernel) ?_
  exact ⟨rfl, hI, Off.rf⟩
theorem x95_5 {tb : dxT} {H : dxH} {tx : Nat → Nat} {ln n : Nat} {sd kd : Nat → Nat} {s : Sn} {am : Nat} {stk : Nat → Sn} {kp : Nat → Bool} {ks : Nat → Sn} {tm : Nat} {tc th : Nat → Nat} {td : Nat → Bool} {sed : Int64} (hI : CInv H tx ln n sd kd s am stk kp ks tm tc th td sed) (hS : SpOK tx ln n sd kd s am stk kp ks tm tc th) : Cl tb 95 [.ref 0, .int (nI 5)] H (fun r H' => r = some (.int (s.2.2.2.2.1 1)) ∧ CInv H' tx ln n sd kd s am stk kp ks tm tc th td sed ∧ Off xC H H') := by
  obtain ⟨f0, fT, fH, fM, fA, fK, fL, fP⟩ := id hI
  obtain ⟨⟨b1, b2⟩, b3, b4, b5, b6, b7, b8, b9, b10, b11⟩ := id hS
  have g0 := f0
  unfold CC at g0
  obtain ⟨m0, m1, m2, m3, m4⟩ := id fM
  obtain ⟨kS, k1, kA, kB⟩ := id fK
  obtain ⟨sh0, _⟩ := id kS
  obtain ⟨_, _, h16, _⟩ := id fA
  obtain ⟨a16, _⟩ := id h16
  obtain ⟨u0, _⟩ := id fH
  obtain ⟨x0, _⟩ := id fT
  obtain ⟨l0, _⟩ := id fL
  have hb : HE n < 64 := HE_lt b3
  have ha : 6 ≤ 6 := Nat.le_refl 6
  show Ev tb 95 0 [some (.ref 0), some (.int (nI 5))] [] H _
  refine ev_iload_n i95_0 rfl ?_
  refine ev_tabIn (o := 104) (t := 105) i95_1 (by decide) (by decide) (by decide) ?_
  refine ev_aload_n i95_105 rfl ?_
  refine ev_get i95_106 ci95 fl7_28 (by assumption) rfl ?_
  refine ev_iconst (v := nI 1) i95_109 (by decide) ?_
  refine ev_callV (vs := [.int (nI 1)]) (rest := []) i95_110 ci95 lk7_172 (congrArg (fun q => q + 1) np37) ci37 (by decide) (by decide +kernel) (Nat.le_of_ble_eq_true rfl) ⟨rfl, rfl, Nat.le_of_ble_eq_true rfl⟩ rfl (by assumption) (c37 fM (by decide)) (fun r HH hq => ?_)
  obtain ⟨rfl, rfl⟩ := hq
  show Ev tb 95 113 [some (.ref 0), some (.int (nI 5))] [.int (s.2.2.2.2.1 1)] H _
  refine ev_iret i95_113 (by decide +kernel) ?_
  exact ⟨rfl, hI, Off.rf⟩
theorem x95_6 {tb : dxT} {H : dxH} {tx : Nat → Nat} {ln n : Nat} {sd kd : Nat → Nat} {s : Sn} {am : Nat} {stk : Nat → Sn} {kp : Nat → Bool} {ks : Nat → Sn} {tm : Nat} {tc th : Nat → Nat} {td : Nat → Bool} {sed : Int64} (hI : CInv H tx ln n sd kd s am stk kp ks tm tc th td sed) (hS : SpOK tx ln n sd kd s am stk kp ks tm tc th) : Cl tb 95 [.ref 0, .int (nI 6)] H (fun r H' => r = some (.int s.2.2.2.2.2.2) ∧ CInv H' tx ln n sd kd s am stk kp ks tm tc th td sed ∧ Off xC H H') := by
  obtain ⟨f0, fT, fH, fM, fA, fK, fL, fP⟩ := id hI
  obtain ⟨⟨b1, b2⟩, b3, b4, b5, b6, b7, b8, b9, b10, b11⟩ := id hS
  have g0 := f0
  unfold CC at g0
  obtain ⟨m0, m1, m2, m3, m4⟩ := id fM
  obtain ⟨kS, k1, kA, kB⟩ := id fK
  obtain ⟨sh0, _⟩ := id kS
  obtain ⟨_, _, h16, _⟩ := id fA
  obtain ⟨a16, _⟩ := id h16
  obtain ⟨u0, _⟩ := id fH
  obtain ⟨x0, _⟩ := id fT
  obtain ⟨l0, _⟩ := id fL
  have hb : HE n < 64 := HE_lt b3
  have ha : 6 ≤ 6 := Nat.le_refl 6
  show Ev tb 95 0 [some (.ref 0), some (.int (nI 6))] [] H _
  refine ev_iload_n i95_0 rfl ?_
  refine ev_tabIn (o := 113) (t := 114) i95_1 (by decide) (by decide) (by decide) ?_
  refine ev_aload_n i95_114 rfl ?_
  refine ev_get i95_115 ci95 fl7_28 (by assumption) rfl ?_
  refine ev_callV (vs := []) (rest := []) i95_118 ci95 lk7_260 (congrArg (fun q => q + 1) np39) ci39 (by decide) (by decide +kernel) (Nat.le_of_ble_eq_true rfl) ⟨rfl, rfl, Nat.le_of_ble_eq_true rfl⟩ rfl (by assumption) (c39 fM) (fun r HH hq => ?_)
  obtain ⟨rfl, rfl⟩ := hq
  show Ev tb 95 121 [some (.ref 0), some (.int (nI 6))] [.int s.2.2.2.2.2.2] H _
  refine ev_iret i95_121 (by decide +kernel) ?_
  exact ⟨rfl, hI, Off.rf⟩
theorem x95_7 {tb : dxT} {H : dxH} {tx : Nat → Nat} {ln n : Nat} {sd kd : Nat → Nat} {s : Sn} {am : Nat} {stk : Nat → Sn} {kp : Nat → Bool} {ks : Nat → Sn} {tm : Nat} {tc th : Nat → Nat} {td : Nat → Bool} {sed : Int64} (hI : CInv H tx ln n sd kd s am stk kp ks tm tc th td sed) (hS : SpOK tx ln n sd kd s am stk kp ks tm tc th) : Cl tb 95 [.ref 0, .int (nI 7)] H (fun r H' => r = some (.int (nI (srtF (HE n) kd s.2.2.2.1 s.2.1 false))) ∧ CInv H' tx ln n sd kd s am stk kp ks tm tc th td sed ∧ Off xC H H') := by
  obtain ⟨f0, fT, fH, fM, fA, fK, fL, fP⟩ := id hI
  obtain ⟨⟨b1, b2⟩, b3, b4, b5, b6, b7, b8, b9, b10, b11⟩ := id hS
  have g0 := f0
  unfold CC at g0
  obtain ⟨m0, m1, m2, m3, m4⟩ := id fM
  obtain ⟨kS, k1, kA, kB⟩ := id fK
  obtain ⟨sh0, _⟩ := id kS
  obtain ⟨_, _, h16, _⟩ := id fA
  obtain ⟨a16, _⟩ := id h16
  obtain ⟨u0, _⟩ := id fH
  obtain ⟨x0, _⟩ := id fT
  obtain ⟨l0, _⟩ := id fL
  have hb : HE n < 64 := HE_lt b3
  have ha : 6 ≤ 6 := Nat.le_refl 6
  show Ev tb 95 0 [some (.ref 0), some (.int (nI 7))] [] H _
  refine ev_iload_n i95_0 rfl ?_
  refine ev_tabIn (o := 121) (t := 122) i95_1 (by decide) (by decide) (by decide) ?_
  refine ev_aload_n i95_122 rfl ?_
  refine ev_get i95_123 ci95 fl7_28 (by assumption) rfl ?_
  refine ev_iconst (v := nI 0) i95_126 (by decide) ?_
  refine ev_callV (vs := [.int (nI 0)]) (rest := []) i95_127 ci95 lk7_212 (congrArg (fun q => q + 1) np42) ci42 (by decide) (by decide +kernel) (Nat.le_of_ble_eq_true rfl) ⟨rfl, rfl, Nat.le_of_ble_eq_true rfl⟩ rfl (by assumption) (c42 (rg := false) fM fH hb ha b6.2.2.1.2.1 b5) (fun r HH hq => ?_)
  obtain ⟨rfl, rfl⟩ := hq
  show Ev tb 95 130 [some (.ref 0), some (.int (nI 7))] [.int (nI (srtF (HE n) kd s.2.2.2.1 s.2.1 false))] H _
  refine ev_iret i95_130 (by decide +kernel) ?_
  exact ⟨rfl, hI, Off.rf⟩
theorem x95_8 {tb : dxT} {H : dxH} {tx : Nat → Nat} {ln n : Nat} {sd kd : Nat → Nat} {s : Sn} {am : Nat} {stk : Nat → Sn} {kp : Nat → Bool} {ks : Nat → Sn} {tm : Nat} {tc th : Nat → Nat} {td : Nat → Bool} {sed : Int64} (hI : CInv H tx ln n sd kd s am stk kp ks tm tc th td sed) (hS : SpOK tx ln n sd kd s am stk kp ks tm tc th) : Cl tb 95 [.ref 0, .int (nI 8)] H (fun r H' => r = some (.int (nI am)) ∧ CInv H' tx ln n sd kd s am stk kp ks tm tc th td sed ∧ Off xC H H') := by
  obtain ⟨f0, fT, fH, fM, fA, fK, fL, fP⟩ := id hI
  obtain ⟨⟨b1, b2⟩, b3, b4, b5, b6, b7, b8, b9, b10, b11⟩ := id hS
  have g0 := f0
  unfold CC at g0
  obtain ⟨m0, m1, m2, m3, m4⟩ := id fM
  obtain ⟨kS, k1, kA, kB⟩ := id fK
  obtain ⟨sh0, _⟩ := id kS
  obtain ⟨_, _, h16, _⟩ := id fA
  obtain ⟨a16, _⟩ := id h16
  obtain ⟨u0, _⟩ := id fH
  obtain ⟨x0, _⟩ := id fT
  obtain ⟨l0, _⟩ := id fL
  have hb : HE n < 64 := HE_lt b3
  have ha : 6 ≤ 6 := Nat.le_refl 6
  show Ev tb 95 0 [some (.ref 0), some (.int (nI 8))] [] H _
  refine ev_iload_n i95_0 rfl ?_
  refine ev_tabIn (o := 130) (t := 131) i95_1 (by decide) (by decide) (by decide) ?_
  refine ev_aload_n i95_131 rfl ?_
  refine ev_get i95_132 ci95 fl7_38 (by assumption) rfl ?_
  refine ev_callV (vs := []) (rest := []) i95_135 ci95 lk7_152 (congrArg (fun q => q + 1) np2) ci2 (by decide) (by decide +kernel) (Nat.le_of_ble_eq_true rfl) ⟨rfl, rfl, Nat.le_of_ble_eq_true rfl⟩ rfl (by assumption) (c2 h16) (fun r HH hq => ?_)
  obtain ⟨rfl, rfl⟩ := hq
  show Ev tb 95 138 [some (.ref 0), some (.int (nI 8))] [.int (nI am)] H _
  refine ev_iret i95_138 (by decide +kernel) ?_
  exact ⟨rfl, hI, Off.rf⟩
theorem x95_9 {tb : dxT} {H : dxH} {tx : Nat → Nat} {ln n : Nat} {sd kd : Nat → Nat} {s : Sn} {am : Nat} {stk : Nat → Sn} {kp : Nat → Bool} {ks : Nat → Sn} {tm : Nat} {tc th : Nat → Nat} {td : Nat → Bool} {sed : Int64} (hI : CInv H tx ln n sd kd s am stk kp ks tm tc th td sed) (hS : SpOK tx ln n sd kd s am stk kp ks tm tc th) : Cl tb 95 [.ref 0, .int (nI 9)] H (fun r H' => r = some (.int (nI tm)) ∧ CInv H' tx ln n sd kd s am stk kp ks tm tc th td sed ∧ Off xC H H') := by
  obtain ⟨f0, fT, fH, fM, fA, fK, fL, fP⟩ := id hI
  obtain ⟨⟨b1, b2⟩, b3, b4, b5, b6, b7, b8, b9, b10, b11⟩ := id hS
  have g0 := f0
  unfold CC at g0
  obtain ⟨m0, m1, m2, m3, m4⟩ := id fM
  obtain ⟨kS, k1, kA, kB⟩ := id fK
  obtain ⟨sh0, _⟩ := id kS
  obtain ⟨_, _, h16, _⟩ := id fA
  obtain ⟨a16, _⟩ := id h16
  obtain ⟨u0, _⟩ := id fH
  obtain ⟨x0, _⟩ := id fT
  obtain ⟨l0, _⟩ := id fL
  have hb : HE n < 64 := HE_lt b3
  have ha : 6 ≤ 6 := Nat.le_refl 6
  show Ev tb 95 0 [some (.ref 0), some (.int (nI 9))] [] H _
  refine ev_iload_n i95_0 rfl ?_
  refine ev_tabIn (o := 138) (t := 139) i95_1 (by decide) (by decide) (by decide) ?_
  refine ev_aload_n i95_139 rfl ?_
  refine ev_get i95_140 ci95 fl7_58 (by assumption) rfl ?_
  refine ev_callV (vs := []) (rest := []) i95_143 ci95 lk7_218 (congrArg (fun q => q + 1) np63) ci63 (by decide) (by decide +kernel) (Nat.le_of_ble_eq_true rfl) ⟨rfl, rfl, Nat.le_of_ble_eq_true rfl⟩ rfl (by assumption) (c63 fL b9) (fun r HH hq => ?_)
  obtain ⟨rfl, rfl⟩ := hq
  show Ev tb 95 146 [some (.ref 0), some (.int (nI 9))] [.int (nI tm)] H _
  refine ev_iret i95_146 (by decide +kernel) ?_
  exact ⟨rfl, hI, Off.rf⟩
theorem x95o {tb : dxT} {H : dxH} {tx : Nat → Nat} {ln n : Nat} {sd kd : Nat → Nat} {s : Sn} {am : Nat} {stk : Nat → Sn} {kp : Nat → Bool} {ks : Nat → Sn} {tm : Nat} {tc th : Nat → Nat} {td : Nat → Bool} {sed : Int64} {x : Int32} (hI : CInv H tx ln n sd kd s am stk kp ks tm tc th td sed) (hS : SpOK tx ln n sd kd s am stk kp ks tm tc th) (h : inR x 10 = false) : Cl tb 95 [.ref 0, .int x] H (fun r H' => r = some (.int (-2)) ∧ CInv H' tx ln n sd kd s am stk kp ks tm tc th td sed ∧ Off xC H H') := by
  obtain ⟨f0, fT, fH, fM, fA, fK, fL, fP⟩ := id hI
  obtain ⟨⟨b1, b2⟩, b3, b4, b5, b6, b7, b8, b9, b10, b11⟩ := id hS
  have g0 := f0
  unfold CC at g0
  obtain ⟨m0, m1, m2, m3, m4⟩ := id fM
  obtain ⟨kS, k1, kA, kB⟩ := id fK
  obtain ⟨sh0, _⟩ := id kS
  obtain ⟨_, _, h16, _⟩ := id fA
  obtain ⟨a16, _⟩ := id h16
  obtain ⟨u0, _⟩ := id fH
  obtain ⟨x0, _⟩ := id fT
  obtain ⟨l0, _⟩ := id fL
  have hb : HE n < 64 := HE_lt b3
  have ha : 6 ≤ 6 := Nat.le_refl 6
  have h2 := inR_f (by decide) h
  show Ev tb 95 0 [some (.ref 0), some (.int x)] [] H _
  refine ev_iload_n i95_0 rfl ?_
  refine ev_tabOut (t := 147) i95_1 (by omega) (by decide) ?_
  refine ev_bipush (v := (-2)) i95_147 (by decide) ?_
  refine ev_iret i95_149 (by decide +kernel) ?_
  exact ⟨rfl, hI, Off.rf⟩
theorem x72_0 {tb : dxT} {H : dxH} {tx : Nat → Nat} {ln n : Nat} {sd kd : Nat → Nat} {s : Sn} {am : Nat} {stk : Nat → Sn} {kp : Nat → Bool} {ks : Nat → Sn} {tm : Nat} {tc th : Nat → Nat} {td : Nat → Bool} {sed : Int64} {k : Nat} (hI : CInv H tx ln n sd kd s am stk kp ks tm tc th td sed) (hS : SpOK tx ln n sd kd s am stk kp ks tm tc th) (hk : k < n) : Cl tb 72 [.ref 0, .int (nI k), .int (nI 0)] H (fun r H' => r = some (.int (nI (s.1 k))) ∧ CInv H' tx ln n sd kd s am stk kp ks tm tc th td sed ∧ Off xC H H') := by
  obtain ⟨f0, fT, fH, fM, fA, fK, fL, fP⟩ := id hI
  obtain ⟨⟨b1, b2⟩, b3, b4, b5, b6, b7, b8, b9, b10, b11⟩ := id hS
  have g0 := f0
  unfold CC at g0
  obtain ⟨m0, m1, m2, m3, m4⟩ := id fM
  obtain ⟨kS, k1, kA, kB⟩ := id fK
  obtain ⟨sh0, _⟩ := id kS
  obtain ⟨_, _, h16, _⟩ := id fA
  obtain ⟨a16, _⟩ := id h16
  obtain ⟨u0, _⟩ := id fH
  obtain ⟨x0, _⟩ := id fT
  obtain ⟨l0, _⟩ := id fL
  have hb : HE n < 64 := HE_lt b3
  have ha : 6 ≤ 6 := Nat.le_refl 6
  show Ev tb 72 0 [some (.ref 0), some (.int (nI k)), some (.int (nI 0))] [] H _
  refine ev_aload_n i72_0 rfl ?_
  refine ev_get i72_1 ci72 fl7_19 (by assumption) rfl ?_
  refine ev_iload_n i72_4 rfl ?_
  refine ev_callV (vs := [.int (nI k)]) (rest := []) i72_5 ci72 lk7_105 (congrArg (fun q => q + 1) np15) ci15 (by decide) (by decide +kernel) (Nat.le_of_ble_eq_true rfl) ⟨rfl, rfl, Nat.le_of_ble_eq_true rfl⟩ rfl (by assumption) (c15 fH b3) (fun r HH hq => ?_)
  obtain ⟨rfl, rfl⟩ := hq
  have hin : inR (nI k) n = true := by rw [inR_n (by omega) (by omega)]; exact decide_eq_true hk
  rw [hin]
  show Ev tb 72 8 [some (.ref 0), some (.int (nI k)), some (.int (nI 0))] [.int (bI true)] H _
  refine evb_if_ne (t := 13) i72_8 (by decide) (fun z8 => ?_) (fun z8 => by exfalso; cases z8)
  refine ev_iload_n i72_13 rfl ?_
  refine ev_tabIn (o := 34) (t := 48) i72_14 (by decide) (by decide) (by decide) ?_
  refine ev_aload_n i72_48 rfl ?_
  refine ev_get i72_49 ci72 fl7_28 (by assumption) rfl ?_
  refine ev_iload_n i72_52 rfl ?_
  refine ev_callV (vs := [.int (nI k)]) (rest := []) i72_53 ci72 lk7_108 (congrArg (fun q => q + 1) np25) ci25 (by decide) (by decide +kernel) (Nat.le_of_ble_eq_true rfl) ⟨rfl, rfl, Nat.le_of_ble_eq_true rfl⟩ rfl (by assumption) (c25t fM hb ha (by omega) (by rw [HE_bit]; exact decide_eq_true hk)) (fun r HH hq => ?_)
  obtain ⟨rfl, rfl⟩ := hq
  show Ev tb 72 56 [some (.ref 0), some (.int (nI k)), some (.int (nI 0))] [.int (nI (s.1 k))] H _
  refine ev_iret i72_56 (by decide +kernel) ?_
  exact ⟨rfl, hI, Off.rf⟩
theorem x72_1 {tb : dxT} {H : dxH} {tx : Nat → Nat} {ln n : Nat} {sd kd : Nat → Nat} {s : Sn} {am : Nat} {stk : Nat → Sn} {kp : Nat → Bool} {ks : Nat → Sn} {tm : Nat} {tc th : Nat → Nat} {td : Nat → Bool} {sed : Int64} {k : Nat} (hI : CInv H tx ln n sd kd s am stk kp ks tm tc th td sed) (hS : SpOK tx ln n sd kd s am stk kp ks tm tc th) (hk : k < n) : Cl tb 72 [.ref 0, .int (nI k), .int (nI 1)] H (fun r H' => r = some (.int (nI (sd k))) ∧ CInv H' tx ln n sd kd s am stk kp ks tm tc th td sed ∧ Off xC H H') := by
  obtain ⟨f0, fT, fH, fM, fA, fK, fL, fP⟩ := id hI
  obtain ⟨⟨b1, b2⟩, b3, b4, b5, b6, b7, b8, b9, b10, b11⟩ := id hS
  have g0 := f0
  unfold CC at g0
  obtain ⟨m0, m1, m2, m3, m4⟩ := id fM
  obtain ⟨kS, k1, kA, kB⟩ := id fK
  obtain ⟨sh0, _⟩ := id kS
  obtain ⟨_, _, h16, _⟩ := id fA
  obtain ⟨a16, _⟩ := id h16
  obtain ⟨u0, _⟩ := id fH
  obtain ⟨x0, _⟩ := id fT
  obtain ⟨l0, _⟩ := id fL
  have hb : HE n < 64 := HE_lt b3
  have ha : 6 ≤ 6 := Nat.le_refl 6
  show Ev tb 72 0 [some (.ref 0), some (.int (nI k)), some (.int (nI 1))] [] H _
  refine ev_aload_n i72_0 rfl ?_
  refine ev_get i72_1 ci72 fl7_19 (by assumption) rfl ?_
  refine ev_iload_n i72_4 rfl ?_
  refine ev_callV (vs := [.int (nI k)]) (rest := []) i72_5 ci72 lk7_105 (congrArg (fun q => q + 1) np15) ci15 (by decide) (by decide +kernel) (Nat.le_of_ble_eq_true rfl) ⟨rfl, rfl, Nat.le_of_ble_eq_true rfl⟩ rfl (by assumption) (c15 fH b3) (fun r HH hq => ?_)
  obtain ⟨rfl, rfl⟩ := hq
  have hin : inR (nI k) n = true := by rw [inR_n (by omega) (by omega)]; exact decide_eq_true hk
  rw [hin]
  show Ev tb 72 8 [some (.ref 0), some (.int (nI k)), some (.int (nI 1))] [.int (bI true)] H _
  refine evb_if_ne (t := 13) i72_8 (by decide) (fun z8 => ?_) (fun z8 => by exfalso; cases z8)
  refine ev_iload_n i72_13 rfl ?_
  refine ev_tabIn (o := 43) (t := 57) i72_14 (by decide) (by decide) (by decide) ?_
  refine ev_aload_n i72_57 rfl ?_
  refine ev_get i72_58 ci72 fl7_19 (by assumption) rfl ?_
  refine ev_iload_n i72_61 rfl ?_
  refine ev_callV (vs := [.int (nI k)]) (rest := []) i72_62 ci72 lk7_111 (congrArg (fun q => q + 1) np16) ci16 (by decide) (by decide +kernel) (Nat.le_of_ble_eq_true rfl) ⟨rfl, rfl, Nat.le_of_ble_eq_true rfl⟩ rfl (by assumption) (c16 fH (by omega)) (fun r HH hq => ?_)
  obtain ⟨rfl, rfl⟩ := hq
  show Ev tb 72 65 [some (.ref 0), some (.int (nI k)), some (.int (nI 1))] [.int (nI (sd k))] H _
  refine ev_iret i72_65 (by decide +kernel) ?_
  exact ⟨rfl, hI, Off.rf⟩
theorem x72_2 {tb : dxT} {H : dxH} {tx : Nat → Nat} {ln n : Nat} {sd kd : Nat → Nat} {s : Sn} {am : Nat} {stk : Nat → Sn} {kp : Nat → Bool} {ks : Nat → Sn} {tm : Nat} {tc th : Nat → Nat} {td : Nat → Bool} {sed : Int64} {k : Nat} (hI : CInv H tx ln n sd kd s am stk kp ks tm tc th td sed) (hS : SpOK tx ln n sd kd s am stk kp ks tm tc th) (hk : k < n) : Cl tb 72 [.ref 0, .int (nI k), .int (nI 2)] H (fun r H' => r = some (.int (nI (s.2.2.2.1 k))) ∧ CInv H' tx ln n sd kd s am stk kp ks tm tc th td sed ∧ Off xC H H') := by
  obtain ⟨f0, fT, fH, fM, fA, fK, fL, fP⟩ := id hI
  obtain ⟨⟨b1, b2⟩, b3, b4, b5, b6, b7, b8, b9, b10, b11⟩ := id hS
  have g0 := f0
  unfold CC at g0
  obtain ⟨m0, m1, m2, m3, m4⟩ := id fM
  obtain ⟨kS, k1, kA, kB⟩ := id fK
  obtain ⟨sh0, _⟩ := id kS
  obtain ⟨_, _, h16, _⟩ := id fA
  obtain ⟨a16, _⟩ := id h16
  obtain ⟨u0, _⟩ := id fH
  obtain ⟨x0, _⟩ := id fT
  obtain ⟨l0, _⟩ := id fL
  have hb : HE n < 64 := HE_lt b3
  have ha : 6 ≤ 6 := Nat.le_refl 6
  show Ev tb 72 0 [some (.ref 0), some (.int (nI k)), some (.int (nI 2))] [] H _
  refine ev_aload_n i72_0 rfl ?_
  refine ev_get i72_1 ci72 fl7_19 (by assumption) rfl ?_
  refine ev_iload_n i72_4 rfl ?_
  refine ev_callV (vs := [.int (nI k)]) (rest := []) i72_5 ci72 lk7_105 (congrArg (fun q => q + 1) np15) ci15 (by decide) (by decide +kernel) (Nat.le_of_ble_eq_true rfl) ⟨rfl, rfl, Nat.le_of_ble_eq_true rfl⟩ rfl (by assumption) (c15 fH b3) (fun r HH hq => ?_)
  obtain ⟨rfl, rfl⟩ := hq
  have hin : inR (nI k) n = true := by rw [inR_n (by omega) (by omega)]; exact decide_eq_true hk
  rw [hin]
  show Ev tb 72 8 [some (.ref 0), some (.int (nI k)), some (.int (nI 2))] [.int (bI true)] H _
  refine evb_if_ne (t := 13) i72_8 (by decide) (fun z8 => ?_) (fun z8 => by exfalso; cases z8)
  refine ev_iload_n i72_13 rfl ?_
  refine ev_tabIn (o := 52) (t := 66) i72_14 (by decide) (by decide) (by decide) ?_
  refine ev_aload_n i72_66 rfl ?_
  refine ev_get i72_67 ci72 fl7_28 (by assumption) rfl ?_
  refine ev_iload_n i72_70 rfl ?_
  refine ev_callV (vs := [.int (nI k)]) (rest := []) i72_71 ci72 lk7_114 (congrArg (fun q => q + 1) np26) ci26 (by decide) (by decide +kernel) (Nat.le_of_ble_eq_true rfl) ⟨rfl, rfl, Nat.le_of_ble_eq_true rfl⟩ rfl (by assumption) (c26t fM hb ha (by omega) (by rw [HE_bit]; exact decide_eq_true hk)) (fun r HH hq => ?_)
  obtain ⟨rfl, rfl⟩ := hq
  show Ev tb 72 74 [some (.ref 0), some (.int (nI k)), some (.int (nI 2))] [.int (nI (s.2.2.2.1 k))] H _
  refine ev_iret i72_74 (by decide +kernel) ?_
  exact ⟨rfl, hI, Off.rf⟩
theorem x72_3 {tb : dxT} {H : dxH} {tx : Nat → Nat} {ln n : Nat} {sd kd : Nat → Nat} {s : Sn} {am : Nat} {stk : Nat → Sn} {kp : Nat → Bool} {ks : Nat → Sn} {tm : Nat} {tc th : Nat → Nat} {td : Nat → Bool} {sed : Int64} {k : Nat} (hI : CInv H tx ln n sd kd s am stk kp ks tm tc th td sed) (hS : SpOK tx ln n sd kd s am stk kp ks tm tc th) (hk : k < n) : Cl tb 72 [.ref 0, .int (nI k), .int (nI 3)] H (fun r H' => r = some (.int (nI (kd k))) ∧ CInv H' tx ln n sd kd s am stk kp ks tm tc th td sed ∧ Off xC H H') := by
  obtain ⟨f0, fT, fH, fM, fA, fK, fL, fP⟩ := id hI
  obtain ⟨⟨b1, b2⟩, b3, b4, b5, b6, b7, b8, b9, b10, b11⟩ := id hS
  have g0 := f0
  unfold CC at g0
  obtain ⟨m0, m1, m2, m3, m4⟩ := id fM
  obtain ⟨kS, k1, kA, kB⟩ := id fK
  obtain ⟨sh0, _⟩ := id kS
  obtain ⟨_, _, h16, _⟩ := id fA
  obtain ⟨a16, _⟩ := id h16
  obtain ⟨u0, _⟩ := id fH
  obtain ⟨x0, _⟩ := id fT
  obtain ⟨l0, _⟩ := id fL
  have hb : HE n < 64 := HE_lt b3
  have ha : 6 ≤ 6 := Nat.le_refl 6
  show Ev tb 72 0 [some (.ref 0), some (.int (nI k)), some (.int (nI 3))] [] H _
  refine ev_aload_n i72_0 rfl ?_
  refine ev_get i72_1 ci72 fl7_19 (by assumption) rfl ?_
  refine ev_iload_n i72_4 rfl ?_
  refine ev_callV (vs := [.int (nI k)]) (rest := []) i72_5 ci72 lk7_105 (congrArg (fun q => q + 1) np15) ci15 (by decide) (by decide +kernel) (Nat.le_of_ble_eq_true rfl) ⟨rfl, rfl, Nat.le_of_ble_eq_true rfl⟩ rfl (by assumption) (c15 fH b3) (fun r HH hq => ?_)
  obtain ⟨rfl, rfl⟩ := hq
  have hin : inR (nI k) n = true := by rw [inR_n (by omega) (by omega)]; exact decide_eq_true hk
  rw [hin]
  show Ev tb 72 8 [some (.ref 0), some (.int (nI k)), some (.int (nI 3))] [.int (bI true)] H _
  refine evb_if_ne (t := 13) i72_8 (by decide) (fun z8 => ?_) (fun z8 => by exfalso; cases z8)
  refine ev_iload_n i72_13 rfl ?_
  refine ev_tabIn (o := 61) (t := 75) i72_14 (by decide) (by decide) (by decide) ?_
  refine ev_aload_n i72_75 rfl ?_
  refine ev_get i72_76 ci72 fl7_19 (by assumption) rfl ?_
  refine ev_iload_n i72_79 rfl ?_
  refine ev_callV (vs := [.int (nI k)]) (rest := []) i72_80 ci72 lk7_117 (congrArg (fun q => q + 1) np17) ci17 (by decide) (by decide +kernel) (Nat.le_of_ble_eq_true rfl) ⟨rfl, rfl, Nat.le_of_ble_eq_true rfl⟩ rfl (by assumption) (c17 fH (by omega)) (fun r HH hq => ?_)
  obtain ⟨rfl, rfl⟩ := hq
  show Ev tb 72 83 [some (.ref 0), some (.int (nI k)), some (.int (nI 3))] [.int (nI (kd k))] H _
  refine ev_iret i72_83 (by decide +kernel) ?_
  exact ⟨rfl, hI, Off.rf⟩
theorem x72_4 {tb : dxT} {H : dxH} {tx : Nat → Nat} {ln n : Nat} {sd kd : Nat → Nat} {s : Sn} {am : Nat} {stk : Nat → Sn} {kp : Nat → Bool} {ks : Nat → Sn} {tm : Nat} {tc th : Nat → Nat} {td : Nat → Bool} {sed : Int64} {k : Nat} (hI : CInv H tx ln n sd kd s am stk kp ks tm tc th td sed) (hS : SpOK tx ln n sd kd s am stk kp ks tm tc th) (hk : k < n) : Cl tb 72 [.ref 0, .int (nI k), .int (nI 4)] H (fun r H' => r = some (.int (bI (dueB (kd k) (s.2.2.2.1 k)))) ∧ CInv H' tx ln n sd kd s am stk kp ks tm tc th td sed ∧ Off xC H H') := by
  obtain ⟨f0, fT, fH, fM, fA, fK, fL, fP⟩ := id hI
  obtain ⟨⟨b1, b2⟩, b3, b4, b5, b6, b7, b8, b9, b10, b11⟩ := id hS
  have g0 := f0
  unfold CC at g0
  obtain ⟨m0, m1, m2, m3, m4⟩ := id fM
  obtain ⟨kS, k1, kA, kB⟩ := id fK
  obtain ⟨sh0, _⟩ := id kS
  obtain ⟨_, _, h16, _⟩ := id fA
  obtain ⟨a16, _⟩ := id h16
  obtain ⟨u0, _⟩ := id fH
  obtain ⟨x0, _⟩ := id fT
  obtain ⟨l0, _⟩ := id fL
  have hb : HE n < 64 := HE_lt b3
  have ha : 6 ≤ 6 := Nat.le_refl 6
  show Ev tb 72 0 [some (.ref 0), some (.int (nI k)), some (.int (nI 4))] [] H _
  refine ev_aload_n i72_0 rfl ?_
  refine ev_get i72_1 ci72 fl7_19 (by assumption) rfl ?_
  refine ev_iload_n i72_4 rfl ?_
  refine ev_callV (vs := [.int (nI k)]) (rest := []) i72_5 ci72 lk7_105 (congrArg (fun q => q + 1) np15) ci15 (by decide) (by decide +kernel) (Nat.le_of_ble_eq_true rfl) ⟨rfl, rfl, Nat.le_of_ble_eq_true rfl⟩ rfl (by assumption) (c15 fH b3) (fun r HH hq => ?_)
  obtain ⟨rfl, rfl⟩ := hq
  have hin : inR (nI k) n = true := by rw [inR_n (by omega) (by omega)]; exact decide_eq_true hk
  rw [hin]
  show Ev tb 72 8 [some (.ref 0), some (.int (nI k)), some (.int (nI 4))] [.int (bI true)] H _
  refine evb_if_ne (t := 13) i72_8 (by decide) (fun z8 => ?_) (fun z8 => by exfalso; cases z8)
  refine ev_iload_n i72_13 rfl ?_
  refine ev_tabIn (o := 70) (t := 84) i72_14 (by decide) (by decide) (by decide) ?_
  refine ev_aload_n i72_84 rfl ?_
  refine ev_get i72_85 ci72 fl7_28 (by assumption) rfl ?_
  refine ev_iload_n i72_88 rfl ?_
  refine ev_callV (vs := [.int (nI k)]) (rest := []) i72_89 ci72 lk7_120 (congrArg (fun q => q + 1) np40) ci40 (by decide) (by decide +kernel) (Nat.le_of_ble_eq_true rfl) ⟨rfl, rfl, Nat.le_of_ble_eq_true rfl⟩ rfl (by assumption) (c40 fM fH hb ha b6.2.2.1.2.1 b5 (by omega)) (fun r HH hq => ?_)
  obtain ⟨rfl, rfl⟩ := hq
  rw [show (HE n).testBit k = true from by rw [HE_bit]; exact decide_eq_true hk, Bool.true_and]
  show Ev tb 72 92 [some (.ref 0), some (.int (nI k)), some (.int (nI 4))] [.int (bI (dueB (kd k) (s.2.2.2.1 k)))] H _
  refine evb_if_eq (t := 99) i72_92 (by decide) (fun z92 => ?_) (fun z92 => ?_)
  · refine ev_iconst (v := nI 0) i72_99 (by decide) ?_
    refine ev_iret i72_100 (by decide +kernel) ?_
    rw [z92]
    exact ⟨rfl, hI, Off.rf⟩
  · refine ev_iconst (v := nI 1) i72_95 (by decide) ?_
    refine ev_goto (t := 100) i72_96 (by decide) ?_
    refine ev_iret i72_100 (by decide +kernel) ?_
    rw [z92]
    exact ⟨rfl, hI, Off.rf⟩
theorem x72u {tb : dxT} {H : dxH} {tx : Nat → Nat} {ln n : Nat} {sd kd : Nat → Nat} {s : Sn} {am : Nat} {stk : Nat → Sn} {kp : Nat → Bool} {ks : Nat → Sn} {tm : Nat} {tc th : Nat → Nat} {td : Nat → Bool} {sed : Int64} {x y : Int32} (hI : CInv H tx ln n sd kd s am stk kp ks tm tc th td sed) (hS : SpOK tx ln n sd kd s am stk kp ks tm tc th) (h : inR x n = false) : Cl tb 72 [.ref 0, .int x, .int y] H (fun r H' => r = some (.int (-1)) ∧ CInv H' tx ln n sd kd s am stk kp ks tm tc th td sed ∧ Off xC H H') := by
  obtain ⟨f0, fT, fH, fM, fA, fK, fL, fP⟩ := id hI
  obtain ⟨⟨b1, b2⟩, b3, b4, b5, b6, b7, b8, b9, b10, b11⟩ := id hS
  have g0 := f0
  unfold CC at g0
  obtain ⟨m0, m1, m2, m3, m4⟩ := id fM
  obtain ⟨kS, k1, kA, kB⟩ := id fK
  obtain ⟨sh0, _⟩ := id kS
  obtain ⟨_, _, h16, _⟩ := id fA
  obtain ⟨a16, _⟩ := id h16
  obtain ⟨u0, _⟩ := id fH
  obtain ⟨x0, _⟩ := id fT
  obtain ⟨l0, _⟩ := id fL
  have hb : HE n < 64 := HE_lt b3
  have ha : 6 ≤ 6 := Nat.le_refl 6
  show Ev tb 72 0 [some (.ref 0), some (.int x), some (.int y)] [] H _
  refine ev_aload_n i72_0 rfl ?_
  refine ev_get i72_1 ci72 fl7_19 (by assumption) rfl ?_
  refine ev_iload_n i72_4 rfl ?_
  refine ev_callV (vs := [.int x]) (rest := []) i72_5 ci72 lk7_105 (congrArg (fun q => q + 1) np15) ci15 (by decide) (by decide +kernel) (Nat.le_of_ble_eq_true rfl) ⟨rfl, rfl, Nat.le_of_ble_eq_true rfl⟩ rfl (by assumption) (c15 (by assumption) (by omega)) (fun r HH hq => ?_)
  obtain ⟨rfl, rfl⟩ := hq
  show Ev tb 72 8 [some (.ref 0), some (.int x), some (.int y)] [.int (bI (inR x n))] H _
  refine evb_if_ne (t := 13) i72_8 (by decide) (fun z8 => by exfalso; rw [h] at z8; cases z8) (fun z8 => ?_)
  refine ev_iconst (v := (-1)) i72_11 (by decide) ?_
  refine ev_iret i72_12 (by decide +kernel) ?_
  exact ⟨rfl, hI, Off.rf⟩
theorem x72o {tb : dxT} {H : dxH} {tx : Nat → Nat} {ln n : Nat} {sd kd : Nat → Nat} {s : Sn} {am : Nat} {stk : Nat → Sn} {kp : Nat → Bool} {ks : Nat → Sn} {tm : Nat} {tc th : Nat → Nat} {td : Nat → Bool} {sed : Int64} {k : Nat} {y : Int32} (hI : CInv H tx ln n sd kd s am stk kp ks tm tc th td sed) (hS : SpOK tx ln n sd kd s am stk kp ks tm tc th) (hk : k < n) (h : inR y 5 = false) : Cl tb 72 [.ref 0, .int (nI k), .int y] H (fun r H' => r = some (.int (-2)) ∧ CInv H' tx ln n sd kd s am stk kp ks tm tc th td sed ∧ Off xC H H') := by
  obtain ⟨f0, fT, fH, fM, fA, fK, fL, fP⟩ := id hI
  obtain ⟨⟨b1, b2⟩, b3, b4, b5, b6, b7, b8, b9, b10, b11⟩ := id hS
  have g0 := f0
  unfold CC at g0
  obtain ⟨m0, m1, m2, m3, m4⟩ := id fM
  obtain ⟨kS, k1, kA, kB⟩ := id fK
  obtain ⟨sh0, _⟩ := id kS
  obtain ⟨_, _, h16, _⟩ := id fA
  obtain ⟨a16, _⟩ := id h16
  obtain ⟨u0, _⟩ := id fH
  obtain ⟨x0, _⟩ := id fT
  obtain ⟨l0, _⟩ := id fL
  have hb : HE n < 64 := HE_lt b3
  have ha : 6 ≤ 6 := Nat.le_refl 6
  have h2 := inR_f (by decide) h
  show Ev tb 72 0 [some (.ref 0), some (.int (nI k)), some (.int y)] [] H _
  refine ev_aload_n i72_0 rfl ?_
  refine ev_get i72_1 ci72 fl7_19 (by assumption) rfl ?_
  refine ev_iload_n i72_4 rfl ?_
  refine ev_callV (vs := [.int (nI k)]) (rest := []) i72_5 ci72 lk7_105 (congrArg (fun q => q + 1) np15) ci15 (by decide) (by decide +kernel) (Nat.le_of_ble_eq_true rfl) ⟨rfl, rfl, Nat.le_of_ble_eq_true rfl⟩ rfl (by assumption) (c15 fH b3) (fun r HH hq => ?_)
  obtain ⟨rfl, rfl⟩ := hq
  have hin : inR (nI k) n = true := by rw [inR_n (by omega) (by omega)]; exact decide_eq_true hk
  rw [hin]
  show Ev tb 72 8 [some (.ref 0), some (.int (nI k)), some (.int y)] [.int (bI true)] H _
  refine evb_if_ne (t := 13) i72_8 (by decide) (fun z8 => ?_) (fun z8 => by exfalso; cases z8)
  refine ev_iload_n i72_13 rfl ?_
  refine ev_tabOut (t := 101) i72_14 (by omega) (by decide) ?_
  refine ev_bipush (v := (-2)) i72_101 (by decide) ?_
  refine ev_iret i72_103 (by decide +kernel) ?_
  exact ⟨rfl, hI, Off.rf⟩
theorem SnOK.x {n : Nat} {s : Sn} (h : SnOK n s) : SOK s.2.2 := h.2.2.1
theorem MdS.shp {H : dxH} {a : Nat} {ce : Nat → Nat} {he : Nat} {sn : Bool} {x : Hs} (h : MdS H a ce he sn x) (h2 : Vn 6 ce) (hx : SOK x) : ShpM H a := ⟨_, _, _, _, _, _, _, _, h, hx.2.2.1, h2, hx.2.2.2.1, hx.2.2.2.2⟩
theorem MdS.off {H H' : dxH} {a : Nat} {ce : Nat → Nat} {he : Nat} {sn : Bool} {x : Hs} {A : Nat → Prop} (h : MdS H a ce he sn x) (hO : Off A H H') (hA : ∀ j, a ≤ j → j ≤ a + 4 → ¬ A j) : MdS H' a ce he sn x := MdwAt.off h hO hA
/-- a choice: 0 for none, else 10 times the cow and the cell and 1 -/
def okC (n c : Nat) : Prop := c = 0 ∨ (1 ≤ c ∧ c < 61 ∧ (c - 1) / 10 < n)
def mvC (ce : Nat → Nat) (c : Nat) : Nat → Nat := if c = 0 then ce else updN ce ((c - 1) / 10) ((c - 1) % 10)
theorem mvC_lt {ce : Nat → Nat} {c : Nat} (h : ∀ j, ce j < 10) : ∀ j, mvC ce c j < 10 := by
  unfold mvC
  split
  · exact h
  · exact updN_lt h (Nat.mod_lt _ (by decide))
theorem mvC_vn {ce : Nat → Nat} {c n : Nat} (hn : n ≤ 6) (hc : okC n c) (h : Vn 6 ce) : Vn 6 (mvC ce c) := by
  unfold mvC
  split
  · exact h
  · rcases hc with hc | hc
    · contradiction
    · exact h.up (by omega)
def toB (c c' : Nat) : Bool := decide (¬ c = 0) && (decide (¬ c' = 0) && decide ((c - 1) % 10 = (c' - 1) % 10))
theorem c29x {tb : dxT} {H : dxH} {a c n : Nat} {sd kd ce : Nat → Nat} {he : Nat} {sn : Bool} {x : Hs} (hn : n ≤ 6) (hc : okC n c) (hM : MdS H a ce he sn x) (hH : HrdAt H n sd kd) (hb : he < 64) (ha : 6 ≤ a) (hhe : ∀ k, k < n → he.testBit k = true) : Cl tb 29 [.ref a, .int (nI c)] H (fun r H' => r = none ∧ MdS H' a (mvC ce c) he sn x ∧ Off (mdC a) H H') := by
  unfold mvC
  by_cases h0 : c = 0
  · subst h0
    rw [if_pos rfl]
    exact c29z hM
  · rw [if_neg h0]
    rcases hc with hc | ⟨h1, h2, h3⟩
    · contradiction
    · exact c29 hM hH hb ha h1 (by omega) (hhe _ h3)
theorem c102 {tb : dxT} {H : dxH} {c d : Nat} (hc : c < 1000) (hd : d < 1000) : Cl tb 102 [.int (nI c), .int (nI d)] H (Rt (.int (bI (toB c d))) H) := by
  show Ev tb 102 0 [some (.int (nI c)), some (.int (nI d))] [] H _
  refine ev_iload_n i102_0 rfl ?_
  refine evn_if_eq (t := 23) i102_1 (by decide) (by omega) (fun z1 => ?_) (fun z1 => ?_)
  · refine ev_iconst (v := nI 0) i102_23 (by decide) ?_
    refine ev_zret i102_24 (by decide +kernel) (by decide) ?_
    exact ⟨zf (by simp [toB, *]), rfl⟩
  · refine ev_iload_n i102_4 rfl ?_
    refine evn_if_eq (t := 23) i102_5 (by decide) (by omega) (fun z5 => ?_) (fun z5 => ?_)
    · refine ev_iconst (v := nI 0) i102_23 (by decide) ?_
      refine ev_zret i102_24 (by decide +kernel) (by decide) ?_
      exact ⟨zf (by simp [toB, *]), rfl⟩
    · refine ev_iload_n i102_8 rfl ?_
      refine ev_callS (vs := [.int (nI c)]) (rest := []) i102_9 ci102 lk7_186 (Or.inl rfl) np101 (by decide +kernel) (Nat.le_of_ble_eq_true rfl) ⟨rfl, rfl, Nat.le_of_ble_eq_true rfl⟩ rfl (c101 (by omega) (by omega)) (fun r HH hq => ?_)
      obtain ⟨rfl, rfl⟩ := hq
      show Ev tb 102 12 [some (.int (nI c)), some (.int (nI d))] [.int (nI ((c - 1) % 10))] H _
      refine ev_iload_n i102_12 rfl ?_
      refine ev_callS (vs := [.int (nI d)]) (rest := [.int (nI ((c - 1) % 10))]) i102_13 ci102 lk7_186 (Or.inl rfl) np101 (by decide +kernel) (Nat.le_of_ble_eq_true rfl) ⟨rfl, rfl, Nat.le_of_ble_eq_true rfl⟩ rfl (c101 (by omega) (by omega)) (fun r HH hq => ?_)
      obtain ⟨rfl, rfl⟩ := hq
      show Ev tb 102 16 [some (.int (nI c)), some (.int (nI d))] [.int (nI ((d - 1) % 10)), .int (nI ((c - 1) % 10))] H _
      refine evn_icmp_ne (t := 23) i102_16 (by decide) (by omega) (fun z16 => ?_) (fun z16 => ?_)
      · refine ev_iconst (v := nI 0) i102_23 (by decide) ?_
        refine ev_zret i102_24 (by decide +kernel) (by decide) ?_
        exact ⟨zf (by simp [toB, *]), rfl⟩
      · refine ev_iconst (v := nI 1) i102_19 (by decide) ?_
        refine ev_goto (t := 24) i102_20 (by decide) ?_
        refine ev_zret i102_24 (by decide +kernel) (by decide) ?_
        exact ⟨zt (by simp [toB, *]), rfl⟩
/-- hours of war in m hours when two choices are taken; -1: to one cell -/
def honI (n : Nat) (sd kd : Nat → Nat) (s : Sn) (c d m : Nat) : Int32 := if toB c d = true then -1 else nI (cntL (HE n) sd kd (mvC (mvC s.1 c) d) s.2.1 0 m s.2.2)
theorem c103 {tb : dxT} {H : dxH} {n : Nat} {sd kd : Nat → Nat} {s : Sn} {sed : Int64} {c d m : Nat} (f0 : CC H sed) (fH : HrdAt H n sd kd) (fM : MdX H 6 n s) (hT : ShpM H 11) (b3 : n ≤ 6) (b4 : ∀ j, sd j < 2) (b5 : ∀ j, kd j < 4) (b6 : SnOK n s) (hc : okC n c) (hd : okC n d) (hm : m ≤ 8) : Cl tb 103 [.ref 0, .int (nI c), .int (nI d), .int (nI m)] H (fun r H' => r = some (.int (honI n sd kd s c d m)) ∧ ShpM H' 11 ∧ Off (mdC 11) H H') := by
  have hc1 : c < 1000 := by rcases hc with h | h <;> omega
  have hd1 : d < 1000 := by rcases hd with h | h <;> omega
  have g0 := f0
  unfold CC at g0
  obtain ⟨m0, m1, m2, m3, m4⟩ := id fM
  obtain ⟨_, _, _, _, _, _, _, _, ⟨t0, _⟩, _⟩ := id hT
  have hb : HE n < 64 := HE_lt b3
  have ha : 6 ≤ 6 := Nat.le_refl 6
  show Ev tb 103 0 [some (.ref 0), some (.int (nI c)), some (.int (nI d)), some (.int (nI m))] [] H _
  refine ev_iload_n i103_0 rfl ?_
  refine ev_iload_n i103_1 rfl ?_
  refine ev_callS (vs := [.int (nI c), .int (nI d)]) (rest := []) i103_2 ci103 lk7_263 (Or.inl rfl) np102 (by decide +kernel) (Nat.le_of_ble_eq_true rfl) ⟨rfl, rfl, Nat.le_of_ble_eq_true rfl⟩ rfl (c102 hc1 hd1) (fun r HH hq => ?_)
  obtain ⟨rfl, rfl⟩ := hq
  show Ev tb 103 5 [some (.ref 0), some (.int (nI c)), some (.int (nI d)), some (.int (nI m))] [.int (bI (toB c d))] H _
  refine evb_if_eq (t := 10) i103_5 (by decide) (fun z5 => ?_) (fun z5 => ?_)
  · refine ev_aload_n i103_10 rfl ?_
    refine ev_get i103_11 ci103 fl7_32 (by assumption) rfl ?_
    refine ev_aload_n i103_14 rfl ?_
    refine ev_get i103_15 ci103 fl7_28 (by assumption) rfl ?_
    refine ev_callV (vs := [.ref 6]) (rest := []) i103_18 ci103 lk7_159 (congrArg (fun q => q + 1) np20) ci20 (by decide) (by decide +kernel) (Nat.le_of_ble_eq_true rfl) ⟨rfl, rfl, Nat.le_of_ble_eq_true rfl⟩ rfl (by assumption) (c20 hT fM b6.2.2.1.2.2.1 b6.2.1 b6.2.2.1.2.2.2.1 b6.2.2.1.2.2.2.2 (by decide)) (fun r H1 hq => ?_)
    obtain ⟨rfl, hN, hO1⟩ := hq
    have f0 := f0.off hO1 (by unfold mdC; omega)
    have fH := fH.off hO1 (by unfold mdC; omega) (by unfold mdC; omega) (by unfold mdC; omega)
    have fM := fM.off hO1 (fun j u1 u2 => by unfold mdC; omega)
    have g0 := f0
    unfold CC at g0
    obtain ⟨t0, t1, t2, t3, t4⟩ := id hN
    obtain ⟨m0, m1, m2, m3, m4⟩ := id fM
    have hOO : Off (mdC 11) H H1 := hO1
    show Ev tb 103 21 [some (.ref 0), some (.int (nI c)), some (.int (nI d)), some (.int (nI m))] [] H1 _
    refine ev_aload_n i103_21 rfl ?_
    refine ev_get i103_22 ci103 fl7_32 (by assumption) rfl ?_
    refine ev_iload_n i103_25 rfl ?_
    refine ev_callV (vs := [.int (nI c)]) (rest := []) i103_26 ci103 lk7_266 (congrArg (fun q => q + 1) np29) ci29 (by decide) (by decide +kernel) (Nat.le_of_ble_eq_true rfl) ⟨rfl, rfl, Nat.le_of_ble_eq_true rfl⟩ rfl (by assumption) (c29x b3 hc hN fH hb (by decide) (fun k hk => by rw [HE_bit]; exact decide_eq_true hk)) (fun r H2 hq => ?_)
    obtain ⟨rfl, hN, hO2⟩ := hq
    have f0 := f0.off hO2 (by unfold mdC; omega)
    have fH := fH.off hO2 (by unfold mdC; omega) (by unfold mdC; omega) (by unfold mdC; omega)
    have fM := fM.off hO2 (fun j u1 u2 => by unfold mdC; omega)
    have g0 := f0
    unfold CC at g0
    obtain ⟨t0, t1, t2, t3, t4⟩ := id hN
    obtain ⟨m0, m1, m2, m3, m4⟩ := id fM
    have hOO : Off (mdC 11) H H2 := hOO.trans hO2 (fun _ q => q) (fun _ q => q)
    show Ev tb 103 29 [some (.ref 0), some (.int (nI c)), some (.int (nI d)), some (.int (nI m))] [] H2 _
    refine ev_aload_n i103_29 rfl ?_
    refine ev_get i103_30 ci103 fl7_32 (by assumption) rfl ?_
    refine ev_iload_n i103_33 rfl ?_
    refine ev_callV (vs := [.int (nI d)]) (rest := []) i103_34 ci103 lk7_266 (congrArg (fun q => q + 1) np29) ci29 (by decide) (by decide +kernel) (Nat.le_of_ble_eq_true rfl) ⟨rfl, rfl, Nat.le_of_ble_eq_true rfl⟩ rfl (by assumption) (c29x b3 hd hN fH hb (by decide) (fun k hk => by rw [HE_bit]; exact decide_eq_true hk)) (fun r H3 hq => ?_)
    obtain ⟨rfl, hN, hO3⟩ := hq
    have f0 := f0.off hO3 (by unfold mdC; omega)
    have fH := fH.off hO3 (by unfold mdC; omega) (by unfold mdC; omega) (by unfold mdC; omega)
    have fM := fM.off hO3 (fun j u1 u2 => by unfold mdC; omega)
    have g0 := f0
    unfold CC at g0
    obtain ⟨t0, t1, t2, t3, t4⟩ := id hN
    obtain ⟨m0, m1, m2, m3, m4⟩ := id fM
    have hOO : Off (mdC 11) H H3 := hOO.trans hO3 (fun _ q => q) (fun _ q => q)
    show Ev tb 103 37 [some (.ref 0), some (.int (nI c)), some (.int (nI d)), some (.int (nI m))] [] H3 _
    refine ev_aload_n i103_37 rfl ?_
    refine ev_get i103_38 ci103 fl7_32 (by assumption) rfl ?_
    refine ev_iconst (v := nI 0) i103_41 (by decide) ?_
    refine ev_iload_n i103_42 rfl ?_
    refine ev_callV (vs := [.int (nI 0), .int (nI m)]) (rest := []) i103_43 ci103 lk7_269 (congrArg (fun q => q + 1) np44) ci44 (by decide) (by decide +kernel) (Nat.le_of_ble_eq_true rfl) ⟨rfl, rfl, Nat.le_of_ble_eq_true rfl⟩ rfl (by assumption) (c44 hb (by decide) (mvC_lt (mvC_lt b6.1)) b5 b4 (by decide) (by omega) hN fH b6.x) (fun r H4 hq => ?_)
    obtain ⟨rfl, hN, hO4⟩ := hq
    have f0 := f0.off hO4 (by unfold mdC; omega)
    have fH := fH.off hO4 (by unfold mdC; omega) (by unfold mdC; omega) (by unfold mdC; omega)
    have fM := fM.off hO4 (fun j u1 u2 => by unfold mdC; omega)
    have g0 := f0
    unfold CC at g0
    obtain ⟨t0, t1, t2, t3, t4⟩ := id hN
    obtain ⟨m0, m1, m2, m3, m4⟩ := id fM
    have hOO : Off (mdC 11) H H4 := hOO.trans hO4 (fun _ q => q) (fun _ q => q)
    show Ev tb 103 46 [some (.ref 0), some (.int (nI c)), some (.int (nI d)), some (.int (nI m))] [.int (nI (cntL (HE n) sd kd (mvC (mvC s.1 c) d) s.2.1 0 m s.2.2))] H4 _
    refine ev_iret i103_46 (by decide +kernel) ?_
    unfold honI
    rw [if_neg (by simp [z5])]
    exact ⟨rfl, hN.shp (mvC_vn b3 hd (mvC_vn b3 hc b6.2.1)) (hrs_ok (mvC_lt (mvC_lt b6.1)) b4 b6.x), hOO⟩
  · refine ev_iconst (v := (-1)) i103_8 (by decide) ?_
    refine ev_iret i103_9 (by decide +kernel) ?_
    unfold honI
    rw [if_pos z5]
    exact ⟨rfl, hT, Off.rf⟩
theorem CInv.tr {H H' : dxH} {tx : Nat → Nat} {ln n : Nat} {sd kd : Nat → Nat} {s : Sn} {am : Nat} {stk : Nat → Sn} {kp : Nat → Bool} {ks : Nat → Sn} {tm : Nat} {tc th : Nat → Nat} {td : Nat → Bool} {sed : Int64} (h : CInv H tx ln n sd kd s am stk kp ks tm tc th td sed) (hO : Off (mdC 11) H H') (hT : ShpM H' 11) : CInv H' tx ln n sd kd s am stk kp ks tm tc th td sed ∧ Off xC H H' := by
  refine ⟨h.tmp (hO.weaken (fun j q => by unfold mdC at q; unfold tmC; omega)) ?_, hO.weaken (fun j q => by unfold mdC at q; unfold xC; omega)⟩
  obtain ⟨-, -, -, -, -, -, -, -, ⟨l, a2⟩, ⟨l', a3⟩, f, a4⟩ := h
  exact ⟨hT, ⟨l, a2.off hO (by unfold mdC; omega) (by unfold mdC; omega)⟩, ⟨l', a3.off hO (by unfold mdC; omega) (by unfold mdC; omega)⟩, f, hO.at a4 (by unfold mdC; omega)⟩
theorem x79 {tb : dxT} {H : dxH} {tx : Nat → Nat} {ln n : Nat} {sd kd : Nat → Nat} {s : Sn} {am : Nat} {stk : Nat → Sn} {kp : Nat → Bool} {ks : Nat → Sn} {tm : Nat} {tc th : Nat → Nat} {td : Nat → Bool} {sed : Int64} {m : Nat} (hI : CInv H tx ln n sd kd s am stk kp ks tm tc th td sed) (hS : SpOK tx ln n sd kd s am stk kp ks tm tc th) (hm1 : 1 ≤ m) (hm : m ≤ 8) : Cl tb 79 [.ref 0, .int (nI m)] H (fun r H' => r = some (.int (honI n sd kd s 0 0 m)) ∧ CInv H' tx ln n sd kd s am stk kp ks tm tc th td sed ∧ Off xC H H') := by
  obtain ⟨f0, fT, fH, fM, fA, fK, fL, fP⟩ := id hI
  obtain ⟨⟨b1, b2⟩, b3, b4, b5, b6, b7, b8, b9, b10, b11⟩ := id hS
  have hT := fP.1
  have g0 := f0
  unfold CC at g0
  obtain ⟨m0, m1, m2, m3, m4⟩ := id fM
  obtain ⟨_, _, _, _, _, _, _, _, ⟨t0, _⟩, _⟩ := id hT
  have hb : HE n < 64 := HE_lt b3
  have ha : 6 ≤ 6 := Nat.le_refl 6
  show Ev tb 79 0 [some (.ref 0), some (.int (nI m))] [] H _
  refine ev_iload_n i79_0 rfl ?_
  refine ev_callS (vs := [.int (nI m)]) (rest := []) i79_1 ci79 lk7_156 (Or.inl rfl) np99 (by decide +kernel) (Nat.le_of_ble_eq_true rfl) ⟨rfl, rfl, Nat.le_of_ble_eq_true rfl⟩ rfl (c99t (by omega) (by omega)) (fun r HH hq => ?_)
  obtain ⟨rfl, rfl⟩ := hq
  show Ev tb 79 4 [some (.ref 0), some (.int (nI m))] [.int (bI true)] H _
  refine evb_if_eq (t := 17) i79_4 (by decide) (fun z4 => by exfalso; cases z4) (fun z4 => ?_)
  refine ev_aload_n i79_7 rfl ?_
  refine ev_iconst (v := nI 0) i79_8 (by decide) ?_
  refine ev_iconst (v := nI 0) i79_9 (by decide) ?_
  refine ev_iload_n i79_10 rfl ?_
  refine ev_callV (vs := [.int (nI 0), .int (nI 0), .int (nI m)]) (rest := []) i79_11 ci79 lk7_162 (congrArg (fun q => q + 1) np103) ci103 (by decide) (by decide +kernel) (Nat.le_of_ble_eq_true rfl) ⟨rfl, rfl, Nat.le_of_ble_eq_true rfl⟩ rfl (by assumption) (c103 f0 fH fM hT b3 b4 b5 b6 (Or.inl rfl) (Or.inl rfl) hm) (fun r H1 hq => ?_)
  obtain ⟨rfl, hT1, hO1⟩ := hq
  show Ev tb 79 14 [some (.ref 0), some (.int (nI m))] [.int (honI n sd kd s 0 0 m)] H1 _
  refine ev_goto (t := 19) i79_14 (by decide) ?_
  refine ev_iret i79_19 (by decide +kernel) ?_
  exact ⟨rfl, hI.tr hO1 hT1⟩
theorem x79f {tb : dxT} {H : dxH} {tx : Nat → Nat} {ln n : Nat} {sd kd : Nat → Nat} {s : Sn} {am : Nat} {stk : Nat → Sn} {kp : Nat → Bool} {ks : Nat → Sn} {tm : Nat} {tc th : Nat → Nat} {td : Nat → Bool} {sed : Int64} {x : Int32} (hI : CInv H tx ln n sd kd s am stk kp ks tm tc th td sed) (hS : SpOK tx ln n sd kd s am stk kp ks tm tc th) (h : ahdB x = false) : Cl tb 79 [.ref 0, .int x] H (fun r H' => r = some (.int (-2)) ∧ CInv H' tx ln n sd kd s am stk kp ks tm tc th td sed ∧ Off xC H H') := by
  obtain ⟨f0, fT, fH, fM, fA, fK, fL, fP⟩ := id hI
  obtain ⟨⟨b1, b2⟩, b3, b4, b5, b6, b7, b8, b9, b10, b11⟩ := id hS
  have hT := fP.1
  have g0 := f0
  unfold CC at g0
  obtain ⟨m0, m1, m2, m3, m4⟩ := id fM
  obtain ⟨_, _, _, _, _, _, _, _, ⟨t0, _⟩, _⟩ := id hT
  have hb : HE n < 64 := HE_lt b3
  have ha : 6 ≤ 6 := Nat.le_refl 6
  show Ev tb 79 0 [some (.ref 0), some (.int x)] [] H _
  refine ev_iload_n i79_0 rfl ?_
  refine ev_callS (vs := [.int x]) (rest := []) i79_1 ci79 lk7_156 (Or.inl rfl) np99 (by decide +kernel) (Nat.le_of_ble_eq_true rfl) ⟨rfl, rfl, Nat.le_of_ble_eq_true rfl⟩ rfl (c99f (by assumption)) (fun r HH hq => ?_)
  obtain ⟨rfl, rfl⟩ := hq
  show Ev tb 79 4 [some (.ref 0), some (.int x)] [.int (bI false)] H _
  refine evb_if_eq (t := 17) i79_4 (by decide) (fun z4 => ?_) (fun z4 => by exfalso; cases z4)
  refine ev_bipush (v := (-2)) i79_17 (by decide) ?_
  refine ev_iret i79_19 (by decide +kernel) ?_
  exact ⟨rfl, hI, Off.rf⟩
def srtsL (he : Nat) (sd kd ce : Nat → Nat) (sn : Bool) : Nat → Hs → Int32 → Int32
  | 0, _, v => v
  | d + 1, x, v => srtsL he sd kd ce sn d (hrF he sd kd ce sn false x) (nI 10 * v + nI (srtF he kd x.2.1 sn false))
theorem lq78 {tb : dxT} {n : Nat} {sd kd : Nat → Nat} {s : Sn} {sed : Int64} {m : Nat} (b3 : n ≤ 6) (b4 : ∀ j, sd j < 2) (b5 : ∀ j, kd j < 4) (b6 : SnOK n s) (hm : m ≤ 8) : ∀ (d k : Nat) (v : Int32) (H : dxH) (x : Hs), k + d = m → CC H sed → HrdAt H n sd kd → MdS H 11 s.1 (HE n) s.2.1 x → SOK x → Ev tb 78 25 [some (.ref 0), some (.int (nI m)), some (.int v), some (.int (nI k))] [] H (fun r H' => r = some (.int (srtsL (HE n) sd kd s.1 s.2.1 d x v)) ∧ ShpM H' 11 ∧ Off (mdC 11) H H')
  | 0, k, v, H, x, hk, f0, fH, hN, hx => by
    obtain rfl : k = m := by omega
    refine ev_iload_n i78_25 rfl ?_
    refine ev_iload_n i78_26 rfl ?_
    refine evn_icmp_ge (t := 50) i78_27 (by decide) (by omega) (fun z27 => ?_) (fun z27 => by exfalso; omega)
    refine ev_iload_n i78_50 rfl ?_
    refine ev_iret i78_51 (by decide +kernel) ?_
    exact ⟨rfl, hN.shp b6.2.1 hx, Off.rf⟩
  | d + 1, k, v, H, x, hk, f0, fH, hN, hx => by
    have hb : HE n < 64 := HE_lt b3
    have g0 := f0
    unfold CC at g0
    obtain ⟨t0, _⟩ := id hN
    refine ev_iload_n i78_25 rfl ?_
    refine ev_iload_n i78_26 rfl ?_
    refine evn_icmp_ge (t := 50) i78_27 (by decide) (by omega) (fun z27 => by exfalso; omega) (fun z27 => ?_)
    refine ev_bipush (v := nI 10) i78_30 (by decide) ?_
    refine ev_iload_n i78_32 rfl ?_
    refine ev_imul i78_33 ?_
    refine ev_aload_n i78_34 rfl ?_
    refine ev_get i78_35 ci78 fl7_32 (by assumption) rfl ?_
    refine ev_iconst (v := nI 0) i78_38 (by decide) ?_
    refine ev_callV (vs := [.int (nI 0)]) (rest := [.int ((nI 10) * v)]) i78_39 ci78 lk7_126 (congrArg (fun q => q + 1) np43) ci43 (by decide) (by decide +kernel) (Nat.le_of_ble_eq_true rfl) ⟨rfl, rfl, Nat.le_of_ble_eq_true rfl⟩ rfl (by assumption) (c43x (rg := false) hb (by decide) b6.1 b5 b4 hN fH hx) (fun r H1 hq => ?_)
    obtain ⟨rfl, hN, hO1⟩ := hq
    have f0 := f0.off hO1 (by unfold mdC; omega)
    have fH := fH.off hO1 (by unfold mdC; omega) (by unfold mdC; omega) (by unfold mdC; omega)
    show Ev tb 78 42 [some (.ref 0), some (.int (nI m)), some (.int v), some (.int (nI k))] [.int (nI (srtF (HE n) kd x.2.1 s.2.1 false)), .int ((nI 10) * v)] H1 _
    refine ev_iadd i78_42 ?_
    refine ev_istore_n (L' := [some (.ref 0), some (.int (nI m)), some (.int (((nI 10) * v) + (nI (srtF (HE n) kd x.2.1 s.2.1 false)))), some (.int (nI k))]) i78_43 ⟨Nat.le_of_ble_eq_true rfl, rfl⟩ rfl ?_
    refine evn_iinc (d := 1) (L' := [some (.ref 0), some (.int (nI m)), some (.int (((nI 10) * v) + (nI (srtF (HE n) kd x.2.1 s.2.1 false)))), some (.int (nI (k + 1)))]) i78_44 rfl rfl (by decide) rfl ?_
    refine ev_goto (t := 25) i78_47 (by decide) ?_
    refine (lq78 b3 b4 b5 b6 hm d (k + 1) _ H1 _ (by omega) f0 fH hN (hrF_ok b6.1 b4 hx)).post (fun r H' hq => ?_)
    exact ⟨hq.1, hq.2.1, hO1.trans hq.2.2 (fun _ q => q) (fun _ q => q)⟩
theorem x78 {tb : dxT} {H : dxH} {tx : Nat → Nat} {ln n : Nat} {sd kd : Nat → Nat} {s : Sn} {am : Nat} {stk : Nat → Sn} {kp : Nat → Bool} {ks : Nat → Sn} {tm : Nat} {tc th : Nat → Nat} {td : Nat → Bool} {sed : Int64} {m : Nat} (hI : CInv H tx ln n sd kd s am stk kp ks tm tc th td sed) (hS : SpOK tx ln n sd kd s am stk kp ks tm tc th) (hm1 : 1 ≤ m) (hm : m ≤ 8) : Cl tb 78 [.ref 0, .int (nI m)] H (fun r H' => r = some (.int (srtsL (HE n) sd kd s.1 s.2.1 m s.2.2 (nI 0))) ∧ CInv H' tx ln n sd kd s am stk kp ks tm tc th td sed ∧ Off xC H H') := by
  obtain ⟨f0, fT, fH, fM, fA, fK, fL, fP⟩ := id hI
  obtain ⟨⟨b1, b2⟩, b3, b4, b5, b6, b7, b8, b9, b10, b11⟩ := id hS
  have hT := fP.1
  have g0 := f0
  unfold CC at g0
  obtain ⟨m0, m1, m2, m3, m4⟩ := id fM
  obtain ⟨_, _, _, _, _, _, _, _, ⟨t0, _⟩, _⟩ := id hT
  have hb : HE n < 64 := HE_lt b3
  have ha : 6 ≤ 6 := Nat.le_refl 6
  show Ev tb 78 0 [some (.ref 0), some (.int (nI m)), none, none] [] H _
  refine ev_iload_n i78_0 rfl ?_
  refine ev_callS (vs := [.int (nI m)]) (rest := []) i78_1 ci78 lk7_156 (Or.inl rfl) np99 (by decide +kernel) (Nat.le_of_ble_eq_true rfl) ⟨rfl, rfl, Nat.le_of_ble_eq_true rfl⟩ rfl (c99t (by omega) (by omega)) (fun r HH hq => ?_)
  obtain ⟨rfl, rfl⟩ := hq
  show Ev tb 78 4 [some (.ref 0), some (.int (nI m)), none, none] [.int (bI true)] H _
  refine evb_if_ne (t := 10) i78_4 (by decide) (fun z4 => ?_) (fun z4 => by exfalso; cases z4)
  refine ev_aload_n i78_10 rfl ?_
  refine ev_get i78_11 ci78 fl7_32 (by assumption) rfl ?_
  refine ev_aload_n i78_14 rfl ?_
  refine ev_get i78_15 ci78 fl7_28 (by assumption) rfl ?_
  refine ev_callV (vs := [.ref 6]) (rest := []) i78_18 ci78 lk7_159 (congrArg (fun q => q + 1) np20) ci20 (by decide) (by decide +kernel) (Nat.le_of_ble_eq_true rfl) ⟨rfl, rfl, Nat.le_of_ble_eq_true rfl⟩ rfl (by assumption) (c20 hT fM b6.2.2.1.2.2.1 b6.2.1 b6.2.2.1.2.2.2.1 b6.2.2.1.2.2.2.2 (by decide)) (fun r H1 hq => ?_)
  obtain ⟨rfl, hN, hO1⟩ := hq
  have f0 := f0.off hO1 (by unfold mdC; omega)
  have fH := fH.off hO1 (by unfold mdC; omega) (by unfold mdC; omega) (by unfold mdC; omega)
  have fM := fM.off hO1 (fun j u1 u2 => by unfold mdC; omega)
  have g0 := f0
  unfold CC at g0
  obtain ⟨t0, t1, t2, t3, t4⟩ := id hN
  obtain ⟨m0, m1, m2, m3, m4⟩ := id fM
  have hOO : Off (mdC 11) H H1 := hO1
  show Ev tb 78 21 [some (.ref 0), some (.int (nI m)), none, none] [] H1 _
  refine ev_iconst (v := nI 0) i78_21 (by decide) ?_
  refine ev_istore_n (L' := [some (.ref 0), some (.int (nI m)), some (.int (nI 0)), none]) i78_22 ⟨Nat.le_of_ble_eq_true rfl, rfl⟩ rfl ?_
  refine ev_iconst (v := nI 0) i78_23 (by decide) ?_
  refine ev_istore_n (L' := [some (.ref 0), some (.int (nI m)), some (.int (nI 0)), some (.int (nI 0))]) i78_24 ⟨Nat.le_of_ble_eq_true rfl, rfl⟩ rfl ?_
  refine (lq78 b3 b4 b5 b6 hm m 0 _ H1 _ (Nat.zero_add m) f0 fH hN b6.x).post (fun r H' hq => ?_)
  exact ⟨hq.1, hI.tr (hOO.trans hq.2.2 (fun _ q => q) (fun _ q => q)) hq.2.1⟩
theorem x78f {tb : dxT} {H : dxH} {tx : Nat → Nat} {ln n : Nat} {sd kd : Nat → Nat} {s : Sn} {am : Nat} {stk : Nat → Sn} {kp : Nat → Bool} {ks : Nat → Sn} {tm : Nat} {tc th : Nat → Nat} {td : Nat → Bool} {sed : Int64} {x : Int32} (hI : CInv H tx ln n sd kd s am stk kp ks tm tc th td sed) (hS : SpOK tx ln n sd kd s am stk kp ks tm tc th) (h : ahdB x = false) : Cl tb 78 [.ref 0, .int x] H (fun r H' => r = some (.int (-2)) ∧ CInv H' tx ln n sd kd s am stk kp ks tm tc th td sed ∧ Off xC H H') := by
  obtain ⟨f0, fT, fH, fM, fA, fK, fL, fP⟩ := id hI
  obtain ⟨⟨b1, b2⟩, b3, b4, b5, b6, b7, b8, b9, b10, b11⟩ := id hS
  have hT := fP.1
  have g0 := f0
  unfold CC at g0
  obtain ⟨m0, m1, m2, m3, m4⟩ := id fM
  obtain ⟨_, _, _, _, _, _, _, _, ⟨t0, _⟩, _⟩ := id hT
  have hb : HE n < 64 := HE_lt b3
  have ha : 6 ≤ 6 := Nat.le_refl 6
  show Ev tb 78 0 [some (.ref 0), some (.int x), none, none] [] H _
  refine ev_iload_n i78_0 rfl ?_
  refine ev_callS (vs := [.int x]) (rest := []) i78_1 ci78 lk7_156 (Or.inl rfl) np99 (by decide +kernel) (Nat.le_of_ble_eq_true rfl) ⟨rfl, rfl, Nat.le_of_ble_eq_true rfl⟩ rfl (c99f (by assumption)) (fun r HH hq => ?_)
  obtain ⟨rfl, rfl⟩ := hq
  show Ev tb 78 4 [some (.ref 0), some (.int x), none, none] [.int (bI false)] H _
  refine evb_if_ne (t := 10) i78_4 (by decide) (fun z4 => by exfalso; cases z4) (fun z4 => ?_)
  refine ev_bipush (v := (-2)) i78_7 (by decide) ?_
  refine ev_iret i78_9 (by decide +kernel) ?_
  exact ⟨rfl, hI, Off.rf⟩
theorem x80 {tb : dxT} {H : dxH} {tx : Nat → Nat} {ln n : Nat} {sd kd : Nat → Nat} {s : Sn} {am : Nat} {stk : Nat → Sn} {kp : Nat → Bool} {ks : Nat → Sn} {tm : Nat} {tc th : Nat → Nat} {td : Nat → Bool} {sed : Int64} {q m : Nat} (hI : CInv H tx ln n sd kd s am stk kp ks tm tc th td sed) (hS : SpOK tx ln n sd kd s am stk kp ks tm tc th) (hs : q < 2) (hm1 : 1 ≤ m) (hm : m ≤ 8) : Cl tb 80 [.ref 0, .int (nI q), .int (nI m)] H (fun r H' => r = some (.int ((hrs (HE n) sd kd s.1 s.2.1 m s.2.2).2.2.1 q - s.2.2.2.2.1 q)) ∧ CInv H' tx ln n sd kd s am stk kp ks tm tc th td sed ∧ Off xC H H') := by
  obtain ⟨f0, fT, fH, fM, fA, fK, fL, fP⟩ := id hI
  obtain ⟨⟨b1, b2⟩, b3, b4, b5, b6, b7, b8, b9, b10, b11⟩ := id hS
  have hT := fP.1
  have g0 := f0
  unfold CC at g0
  obtain ⟨m0, m1, m2, m3, m4⟩ := id fM
  obtain ⟨_, _, _, _, _, _, _, _, ⟨t0, _⟩, _⟩ := id hT
  have hb : HE n < 64 := HE_lt b3
  have ha : 6 ≤ 6 := Nat.le_refl 6
  show Ev tb 80 0 [some (.ref 0), some (.int (nI q)), some (.int (nI m))] [] H _
  refine ev_iload_n i80_0 rfl ?_
  refine ev_callS (vs := [.int (nI q)]) (rest := []) i80_1 ci80 lk7_166 (Or.inl rfl) np97 (by decide +kernel) (Nat.le_of_ble_eq_true rfl) ⟨rfl, rfl, Nat.le_of_ble_eq_true rfl⟩ rfl (c97n (by omega)) (fun r HH hq => ?_)
  obtain ⟨rfl, rfl⟩ := hq
  show Ev tb 80 4 [some (.ref 0), some (.int (nI q)), some (.int (nI m))] [.int (bI (decide (q < 2)))] H _
  refine evd_if_eq (t := 14) i80_4 (by decide) (fun z4 => by exfalso; omega) (fun z4 => ?_)
  refine ev_iload_n i80_7 rfl ?_
  refine ev_callS (vs := [.int (nI m)]) (rest := []) i80_8 ci80 lk7_156 (Or.inl rfl) np99 (by decide +kernel) (Nat.le_of_ble_eq_true rfl) ⟨rfl, rfl, Nat.le_of_ble_eq_true rfl⟩ rfl (c99t (by omega) (by omega)) (fun r HH hq => ?_)
  obtain ⟨rfl, rfl⟩ := hq
  show Ev tb 80 11 [some (.ref 0), some (.int (nI q)), some (.int (nI m))] [.int (bI true)] H _
  refine evb_if_ne (t := 17) i80_11 (by decide) (fun z11 => ?_) (fun z11 => by exfalso; cases z11)
  refine ev_aload_n i80_17 rfl ?_
  refine ev_get i80_18 ci80 fl7_32 (by assumption) rfl ?_
  refine ev_aload_n i80_21 rfl ?_
  refine ev_get i80_22 ci80 fl7_28 (by assumption) rfl ?_
  refine ev_callV (vs := [.ref 6]) (rest := []) i80_25 ci80 lk7_159 (congrArg (fun q => q + 1) np20) ci20 (by decide) (by decide +kernel) (Nat.le_of_ble_eq_true rfl) ⟨rfl, rfl, Nat.le_of_ble_eq_true rfl⟩ rfl (by assumption) (c20 hT fM b6.2.2.1.2.2.1 b6.2.1 b6.2.2.1.2.2.2.1 b6.2.2.1.2.2.2.2 (by decide)) (fun r H1 hq => ?_)
  obtain ⟨rfl, hN, hO1⟩ := hq
  have f0 := f0.off hO1 (by unfold mdC; omega)
  have fH := fH.off hO1 (by unfold mdC; omega) (by unfold mdC; omega) (by unfold mdC; omega)
  have fM := fM.off hO1 (fun j u1 u2 => by unfold mdC; omega)
  have g0 := f0
  unfold CC at g0
  obtain ⟨t0, t1, t2, t3, t4⟩ := id hN
  obtain ⟨m0, m1, m2, m3, m4⟩ := id fM
  have hOO : Off (mdC 11) H H1 := hO1
  show Ev tb 80 28 [some (.ref 0), some (.int (nI q)), some (.int (nI m))] [] H1 _
  refine ev_aload_n i80_28 rfl ?_
  refine ev_get i80_29 ci80 fl7_32 (by assumption) rfl ?_
  refine ev_iload_n i80_32 rfl ?_
  refine ev_callV (vs := [.int (nI m)]) (rest := []) i80_33 ci80 lk7_169 (congrArg (fun q => q + 1) np45) ci45 (by decide) (by decide +kernel) (Nat.le_of_ble_eq_true rfl) ⟨rfl, rfl, Nat.le_of_ble_eq_true rfl⟩ rfl (by assumption) (c45 hb (by decide) b6.1 b5 b4 (by omega) hN fH b6.x) (fun r H2 hq => ?_)
  obtain ⟨rfl, hN, hO2⟩ := hq
  have f0 := f0.off hO2 (by unfold mdC; omega)
  have fH := fH.off hO2 (by unfold mdC; omega) (by unfold mdC; omega) (by unfold mdC; omega)
  have fM := fM.off hO2 (fun j u1 u2 => by unfold mdC; omega)
  have g0 := f0
  unfold CC at g0
  obtain ⟨t0, t1, t2, t3, t4⟩ := id hN
  obtain ⟨m0, m1, m2, m3, m4⟩ := id fM
  have hOO : Off (mdC 11) H H2 := hOO.trans hO2 (fun _ q => q) (fun _ q => q)
  show Ev tb 80 36 [some (.ref 0), some (.int (nI q)), some (.int (nI m))] [.int (lstL (HE n) sd kd s.1 s.2.1 m s.2.2 (-9))] H2 _
  refine ev_pop i80_36 rfl ?_
  refine ev_aload_n i80_37 rfl ?_
  refine ev_get i80_38 ci80 fl7_32 (by assumption) rfl ?_
  refine ev_iload_n i80_41 rfl ?_
  refine ev_callV (vs := [.int (nI q)]) (rest := []) i80_42 ci80 lk7_172 (congrArg (fun q => q + 1) np37) ci37 (by decide) (by decide +kernel) (Nat.le_of_ble_eq_true rfl) ⟨rfl, rfl, Nat.le_of_ble_eq_true rfl⟩ rfl (by assumption) (c37 hN (by omega)) (fun r HH hq => ?_)
  obtain ⟨rfl, rfl⟩ := hq
  show Ev tb 80 45 [some (.ref 0), some (.int (nI q)), some (.int (nI m))] [.int ((hrs (HE n) sd kd s.1 s.2.1 m s.2.2).2.2.1 q)] H2 _
  refine ev_aload_n i80_45 rfl ?_
  refine ev_get i80_46 ci80 fl7_28 (by assumption) rfl ?_
  refine ev_iload_n i80_49 rfl ?_
  refine ev_callV (vs := [.int (nI q)]) (rest := [.int ((hrs (HE n) sd kd s.1 s.2.1 m s.2.2).2.2.1 q)]) i80_50 ci80 lk7_172 (congrArg (fun q => q + 1) np37) ci37 (by decide) (by decide +kernel) (Nat.le_of_ble_eq_true rfl) ⟨rfl, rfl, Nat.le_of_ble_eq_true rfl⟩ rfl (by assumption) (c37 fM (by omega)) (fun r HH hq => ?_)
  obtain ⟨rfl, rfl⟩ := hq
  show Ev tb 80 53 [some (.ref 0), some (.int (nI q)), some (.int (nI m))] [.int (s.2.2.2.2.1 q), .int ((hrs (HE n) sd kd s.1 s.2.1 m s.2.2).2.2.1 q)] H2 _
  refine ev_isub i80_53 ?_
  refine ev_iret i80_54 (by decide +kernel) ?_
  exact ⟨rfl, hI.tr hOO (hN.shp b6.2.1 (hrs_ok b6.1 b4 b6.x))⟩
theorem x80s {tb : dxT} {H : dxH} {tx : Nat → Nat} {ln n : Nat} {sd kd : Nat → Nat} {s : Sn} {am : Nat} {stk : Nat → Sn} {kp : Nat → Bool} {ks : Nat → Sn} {tm : Nat} {tc th : Nat → Nat} {td : Nat → Bool} {sed : Int64} {x y : Int32} (hI : CInv H tx ln n sd kd s am stk kp ks tm tc th td sed) (hS : SpOK tx ln n sd kd s am stk kp ks tm tc th) (h : inR y 2 = false) : Cl tb 80 [.ref 0, .int y, .int x] H (fun r H' => r = some (.int (-2)) ∧ CInv H' tx ln n sd kd s am stk kp ks tm tc th td sed ∧ Off xC H H') := by
  obtain ⟨f0, fT, fH, fM, fA, fK, fL, fP⟩ := id hI
  obtain ⟨⟨b1, b2⟩, b3, b4, b5, b6, b7, b8, b9, b10, b11⟩ := id hS
  have hT := fP.1
  have g0 := f0
  unfold CC at g0
  obtain ⟨m0, m1, m2, m3, m4⟩ := id fM
  obtain ⟨_, _, _, _, _, _, _, _, ⟨t0, _⟩, _⟩ := id hT
  have hb : HE n < 64 := HE_lt b3
  have ha : 6 ≤ 6 := Nat.le_refl 6
  show Ev tb 80 0 [some (.ref 0), some (.int y), some (.int x)] [] H _
  refine ev_iload_n i80_0 rfl ?_
  refine ev_callS (vs := [.int y]) (rest := []) i80_1 ci80 lk7_166 (Or.inl rfl) np97 (by decide +kernel) (Nat.le_of_ble_eq_true rfl) ⟨rfl, rfl, Nat.le_of_ble_eq_true rfl⟩ rfl (c97) (fun r HH hq => ?_)
  obtain ⟨rfl, rfl⟩ := hq
  show Ev tb 80 4 [some (.ref 0), some (.int y), some (.int x)] [.int (bI (inR y 2))] H _
  refine evb_if_eq (t := 14) i80_4 (by decide) (fun z4 => ?_) (fun z4 => by exfalso; rw [h] at z4; cases z4)
  refine ev_bipush (v := (-2)) i80_14 (by decide) ?_
  refine ev_iret i80_16 (by decide +kernel) ?_
  exact ⟨rfl, hI, Off.rf⟩
theorem x80f {tb : dxT} {H : dxH} {tx : Nat → Nat} {ln n : Nat} {sd kd : Nat → Nat} {s : Sn} {am : Nat} {stk : Nat → Sn} {kp : Nat → Bool} {ks : Nat → Sn} {tm : Nat} {tc th : Nat → Nat} {td : Nat → Bool} {sed : Int64} {q : Nat} {x : Int32} (hI : CInv H tx ln n sd kd s am stk kp ks tm tc th td sed) (hS : SpOK tx ln n sd kd s am stk kp ks tm tc th) (hs : q < 2) (h : ahdB x = false) : Cl tb 80 [.ref 0, .int (nI q), .int x] H (fun r H' => r = some (.int (-2)) ∧ CInv H' tx ln n sd kd s am stk kp ks tm tc th td sed ∧ Off xC H H') := by
  obtain ⟨f0, fT, fH, fM, fA, fK, fL, fP⟩ := id hI
  obtain ⟨⟨b1, b2⟩, b3, b4, b5, b6, b7, b8, b9, b10, b11⟩ := id hS
  have hT := fP.1
  have g0 := f0
  unfold CC at g0
  obtain ⟨m0, m1, m2, m3, m4⟩ := id fM
  obtain ⟨_, _, _, _, _, _, _, _, ⟨t0, _⟩, _⟩ := id hT
  have hb : HE n < 64 := HE_lt b3
  have ha : 6 ≤ 6 := Nat.le_refl 6
  show Ev tb 80 0 [some (.ref 0), some (.int (nI q)), some (.int x)] [] H _
  refine ev_iload_n i80_0 rfl ?_
  refine ev_callS (vs := [.int (nI q)]) (rest := []) i80_1 ci80 lk7_166 (Or.inl rfl) np97 (by decide +kernel) (Nat.le_of_ble_eq_true rfl) ⟨rfl, rfl, Nat.le_of_ble_eq_true rfl⟩ rfl (c97n (by omega)) (fun r HH hq => ?_)
  obtain ⟨rfl, rfl⟩ := hq
  show Ev tb 80 4 [some (.ref 0), some (.int (nI q)), some (.int x)] [.int (bI (decide (q < 2)))] H _
  refine evd_if_eq (t := 14) i80_4 (by decide) (fun z4 => by exfalso; omega) (fun z4 => ?_)
  refine ev_iload_n i80_7 rfl ?_
  refine ev_callS (vs := [.int x]) (rest := []) i80_8 ci80 lk7_156 (Or.inl rfl) np99 (by decide +kernel) (Nat.le_of_ble_eq_true rfl) ⟨rfl, rfl, Nat.le_of_ble_eq_true rfl⟩ rfl (c99f (by assumption)) (fun r HH hq => ?_)
  obtain ⟨rfl, rfl⟩ := hq
  show Ev tb 80 11 [some (.ref 0), some (.int (nI q)), some (.int x)] [.int (bI false)] H _
  refine evb_if_ne (t := 17) i80_11 (by decide) (fun z11 => by exfalso; cases z11) (fun z11 => ?_)
  refine ev_bipush (v := (-2)) i80_14 (by decide) ?_
  refine ev_iret i80_16 (by decide +kernel) ?_
  exact ⟨rfl, hI, Off.rf⟩
