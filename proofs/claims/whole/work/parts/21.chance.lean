/-! the class's calls: how full, snows by chance, sowing, shares  -/
theorem lq107 {tb : dxT} {n : Nat} {sd kd : Nat → Nat} {s : Sn} {sed : Int64} {tc th : Nat → Nat} {td : Nat → Bool} {tm : Nat} (b3 : n ≤ 6) (b4 : ∀ j, sd j < 2) (b5 : ∀ j, kd j < 4) (b6 : SnOK n s) (b9 : tm ≤ 6) (b10 : ∀ j, tc j < 6) (b11 : ∀ j, th j < 8) : ∀ (d h : Nat) (H : dxH) (x : Hs), h + d = 8 → TelAt H tc th td tm → CC H sed → HrdAt H n sd kd → MdS H 11 s.1 (HE n) s.2.1 x → SOK x → Ev tb 107 2 [some (.ref 0), some (.int (nI h))] [] H (fun r H' => r = some (.int (bI (allL (HE n) sd kd s.1 s.2.1 tc th td tm d h x))) ∧ ShpM H' 11 ∧ Off (mdC 11) H H')
  | 0, h, H, x, hk, fL, f0, fH, hN, hx => by
    obtain rfl : h = 8 := by omega
    refine ev_iload_n i107_2 rfl ?_
    refine ev_bipush (v := nI 8) i107_3 (by decide) ?_
    refine evn_icmp_ge (t := 40) i107_5 (by decide) (by omega) (fun z5 => ?_) (fun z5 => by exfalso; omega)
    refine ev_iconst (v := nI 1) i107_40 (by decide) ?_
    refine ev_zret i107_41 (by decide +kernel) (by decide) ?_
    exact ⟨zt rfl, hN.shp b6.2.1 hx, Off.rf⟩
  | d + 1, h, H, x, hk, fL, f0, fH, hN, hx => by
    obtain ⟨l0, _⟩ := id fL
    have hb : HE n < 64 := HE_lt b3
    have g0 := f0
    unfold CC at g0
    obtain ⟨t0, _⟩ := id hN
    have hs4 := srtF_lt (he := HE n) (kd := kd) (fu := x.2.1) (sn := s.2.1) (rg := false)
    refine ev_iload_n i107_2 rfl ?_
    refine ev_bipush (v := nI 8) i107_3 (by decide) ?_
    refine evn_icmp_ge (t := 40) i107_5 (by decide) (by omega) (fun z5 => by exfalso; omega) (fun z5 => ?_)
    refine ev_aload_n i107_8 rfl ?_
    refine ev_get i107_9 ci107 fl7_58 (by assumption) rfl ?_
    refine ev_aload_n i107_12 rfl ?_
    refine ev_get i107_13 ci107 fl7_32 (by assumption) rfl ?_
    refine ev_iload_n i107_16 rfl ?_
    refine ev_callV (vs := [.ref 11, .int (nI h)]) (rest := []) i107_17 ci107 lk7_275 (congrArg (fun q => q + 1) np65) ci65 (by decide) (by decide +kernel) (Nat.le_of_ble_eq_true rfl) ⟨rfl, rfl, Nat.le_of_ble_eq_true rfl⟩ rfl (by assumption) (c65 hN fH hb (by decide) hx.2.1 b5 fL b9 b10 b11 (by omega)) (fun r HH hq => ?_)
    obtain ⟨rfl, rfl⟩ := hq
    show Ev tb 107 20 [some (.ref 0), some (.int (nI h))] [.int (bI (!(anyB (offB (HE n) kd x.2.1 tc th td h) tm 0)))] H _
    refine evb_if_ne (t := 25) i107_20 (by decide) (fun z20 => ?_) (fun z20 => ?_)
    · refine ev_aload_n i107_25 rfl ?_
      refine ev_get i107_26 ci107 fl7_32 (by assumption) rfl ?_
      refine ev_iconst (v := nI 0) i107_29 (by decide) ?_
      refine ev_callV (vs := [.int (nI 0)]) (rest := []) i107_30 ci107 lk7_126 (congrArg (fun q => q + 1) np43) ci43 (by decide) (by decide +kernel) (Nat.le_of_ble_eq_true rfl) ⟨rfl, rfl, Nat.le_of_ble_eq_true rfl⟩ rfl (by assumption) (c43x (rg := false) hb (by decide) b6.1 b5 b4 hN fH hx) (fun r H1 hq => ?_)
      obtain ⟨rfl, hN, hO1⟩ := hq
      have f0 := f0.off hO1 (by unfold mdC; omega)
      have fH := fH.off hO1 (by unfold mdC; omega) (by unfold mdC; omega) (by unfold mdC; omega)
      show Ev tb 107 33 [some (.ref 0), some (.int (nI h))] [.int (nI (srtF (HE n) kd x.2.1 s.2.1 false))] H1 _
      refine ev_pop i107_33 rfl ?_
      refine evn_iinc (d := 1) (L' := [some (.ref 0), some (.int (nI (h + 1)))]) i107_34 rfl rfl (by decide) rfl ?_
      refine ev_goto (t := 2) i107_37 (by decide) ?_
      refine (lq107 b3 b4 b5 b6 b9 b10 b11 d (h + 1) H1 _ (by omega) (fL.off hO1 (fun j u1 u2 => by unfold mdC; omega)) f0 fH hN (hrF_ok b6.1 b4 hx)).post (fun r H' hq => ?_)
      unfold allL
      rw [z20, Bool.true_and]
      exact ⟨hq.1, hq.2.1, hO1.trans hq.2.2 (fun _ q => q) (fun _ q => q)⟩
    · refine ev_iconst (v := nI 0) i107_23 (by decide) ?_
      refine ev_zret i107_24 (by decide +kernel) (by decide) ?_
      exact ⟨zf (by unfold allL; rw [z20]; rfl), hN.shp b6.2.1 hx, Off.rf⟩
theorem c107w {tb : dxT} {H : dxH} : ∀ {Q}, Ev tb 107 2 [some (.ref 0), some (.int (nI 0))] [] H Q → Cl tb 107 [.ref 0] H Q := fun {Q} hq => by
  show Ev tb 107 0 [some (.ref 0), none] [] H _
  refine ev_iconst (v := nI 0) i107_0 (by decide) ?_
  refine ev_istore_n (L' := [some (.ref 0), some (.int (nI 0))]) i107_1 ⟨Nat.le_of_ble_eq_true rfl, rfl⟩ rfl ?_
  exact hq
theorem lq88 {tb : dxT} {H : dxH} {n : Nat} {sd kd : Nat → Nat} {s : Sn} {sed : Int64} {tc th : Nat → Nat} {td : Nat → Bool} {tm : Nat} {k : Nat} (b3 : n ≤ 6) (b4 : ∀ j, sd j < 2) (b5 : ∀ j, kd j < 4) (b6 : SnOK n s) (b9 : tm ≤ 6) (b10 : ∀ j, tc j < 6) (b11 : ∀ j, th j < 8) (hk : k < n) (F0 : CC H sed) (FH : HrdAt H n sd kd) (FM : MdX H 6 n s) (FL : TelAt H tc th td tm) : ∀ (d f b : Nat) (H2 : dxH), f + d = 10 → b < 1024 → Off (mdC 11) H H2 → ShpM H2 11 → Ev tb 88 17 [some (.ref 0), some (.int (nI k)), some (.int (nI b)), some (.int (nI f))] [] H2 (fun r H' => r = some (.int (nI (fulL (HE n) sd kd s.1 s.2.1 tc th td tm k s.2.2 d f b))) ∧ ShpM H' 11 ∧ Off (mdC 11) H H')
  | 0, f, b, H2, hf, hb2, hOO, hT => by
    obtain rfl : f = 10 := by omega
    refine ev_iload_n i88_17 rfl ?_
    refine ev_bipush (v := nI 9) i88_18 (by decide) ?_
    refine evn_icmp_gt (t := 62) i88_20 (by decide) (by omega) (fun z20 => ?_) (fun z20 => by exfalso; omega)
    refine ev_iload_n i88_62 rfl ?_
    refine ev_iret i88_63 (by decide +kernel) ?_
    exact ⟨rfl, hT, hOO⟩
  | d + 1, f, b, H2, hf, hb2, hOO, hT => by
    have f0 := F0.off hOO (by unfold mdC; omega)
    have fH := FH.off hOO (by unfold mdC; omega) (by unfold mdC; omega) (by unfold mdC; omega)
    have fM := FM.off hOO (fun j u1 u2 => by unfold mdC; omega)
    have g0 := f0
    unfold CC at g0
    obtain ⟨m0, m1, m2, m3, m4⟩ := id fM
    obtain ⟨_, _, _, _, _, _, _, _, ⟨t0, _⟩, _⟩ := id hT
    have hb : HE n < 64 := HE_lt b3
    have fL := FL
    refine ev_iload_n i88_17 rfl ?_
    refine ev_bipush (v := nI 9) i88_18 (by decide) ?_
    refine evn_icmp_gt (t := 62) i88_20 (by decide) (by omega) (fun z20 => by exfalso; omega) (fun z20 => ?_)
    refine ev_aload_n i88_23 rfl ?_
    refine ev_get i88_24 ci88 fl7_32 (by assumption) rfl ?_
    refine ev_aload_n i88_27 rfl ?_
    refine ev_get i88_28 ci88 fl7_28 (by assumption) rfl ?_
    refine ev_callV (vs := [.ref 6]) (rest := []) i88_31 ci88 lk7_159 (congrArg (fun q => q + 1) np20) ci20 (by decide) (by decide +kernel) (Nat.le_of_ble_eq_true rfl) ⟨rfl, rfl, Nat.le_of_ble_eq_true rfl⟩ rfl (by assumption) (c20 hT fM b6.2.2.1.2.2.1 b6.2.1 b6.2.2.1.2.2.2.1 b6.2.2.1.2.2.2.2 (by decide)) (fun r H3 hq => ?_)
    obtain ⟨rfl, hN, hO3⟩ := hq
    have f0 := f0.off hO3 (by unfold mdC; omega)
    have fH := fH.off hO3 (by unfold mdC; omega) (by unfold mdC; omega) (by unfold mdC; omega)
    have fM := fM.off hO3 (fun j u1 u2 => by unfold mdC; omega)
    have g0 := f0
    unfold CC at g0
    obtain ⟨t0, t1, t2, t3, t4⟩ := id hN
    obtain ⟨m0, m1, m2, m3, m4⟩ := id fM
    have hOO : Off (mdC 11) H H3 := hOO.trans hO3 (fun _ q => q) (fun _ q => q)
    show Ev tb 88 34 [some (.ref 0), some (.int (nI k)), some (.int (nI b)), some (.int (nI f))] [] H3 _
    refine ev_aload_n i88_34 rfl ?_
    refine ev_get i88_35 ci88 fl7_32 (by assumption) rfl ?_
    refine ev_iload_n i88_38 rfl ?_
    refine ev_iload_n i88_39 rfl ?_
    refine ev_callV (vs := [.int (nI k), .int (nI f)]) (rest := []) i88_40 ci88 lk7_220 (congrArg (fun q => q + 1) np28) ci28 (by decide) (by decide +kernel) (Nat.le_of_ble_eq_true rfl) ⟨rfl, rfl, Nat.le_of_ble_eq_true rfl⟩ rfl (by assumption) (c28 hN hb (by decide) (by omega) (by rw [HE_bit]; exact decide_eq_true hk)) (fun r H4 hq => ?_)
    obtain ⟨rfl, hN, hO4⟩ := hq
    have f0 := f0.off hO4 (by unfold mdC; omega)
    have fH := fH.off hO4 (by unfold mdC; omega) (by unfold mdC; omega) (by unfold mdC; omega)
    have fM := fM.off hO4 (fun j u1 u2 => by unfold mdC; omega)
    have g0 := f0
    unfold CC at g0
    obtain ⟨t0, t1, t2, t3, t4⟩ := id hN
    obtain ⟨m0, m1, m2, m3, m4⟩ := id fM
    have hOO : Off (mdC 11) H H4 := hOO.trans hO4 (fun _ q => q) (fun _ q => q)
    show Ev tb 88 43 [some (.ref 0), some (.int (nI k)), some (.int (nI b)), some (.int (nI f))] [] H4 _
    refine ev_aload_n i88_43 rfl ?_
    refine ev_callV (vs := []) (rest := []) i88_44 ci88 lk7_223 (congrArg (fun q => q + 1) np107) ci107 (by decide) (by decide +kernel) (Nat.le_of_ble_eq_true rfl) ⟨rfl, rfl, Nat.le_of_ble_eq_true rfl⟩ rfl (by assumption) (c107w (lq107 b3 b4 b5 b6 b9 b10 b11 8 0 _ (s.2.2.1, updN s.2.2.2.1 k f, s.2.2.2.2) rfl (fL.off hOO (fun j u1 u2 => by unfold mdC; omega)) f0 fH hN ⟨b6.x.1, updN_lt b6.x.2.1 (by omega), b6.x.2.2.1, b6.x.2.2.2.1.up (by omega), b6.x.2.2.2.2⟩)) (fun r H5 hq => ?_)
    obtain ⟨rfl, hT, hO5⟩ := hq
    have hOO := hOO.trans hO5 (C := mdC 11) (fun _ q => q) (fun _ q => q)
    show Ev tb 88 47 [some (.ref 0), some (.int (nI k)), some (.int (nI b)), some (.int (nI f))] [.int (bI (allL (HE n) sd kd s.1 s.2.1 tc th td tm 8 0 (s.2.2.1, updN s.2.2.2.1 k f, s.2.2.2.2)))] H5 _
    refine evb_if_eq (t := 56) i88_47 (by decide) (fun z47 => ?_) (fun z47 => ?_)
    · refine evn_iinc (d := 1) (L' := [some (.ref 0), some (.int (nI k)), some (.int (nI b)), some (.int (nI (f + 1)))]) i88_56 rfl rfl (by decide) rfl ?_
      refine ev_goto (t := 17) i88_59 (by decide) ?_
      refine (lq88 b3 b4 b5 b6 b9 b10 b11 hk F0 FH FM FL d (f + 1) (b) _ (by omega) hb2 hOO hT).post (fun r H' hq => ?_)
      unfold fulL
      rw [if_neg (by simp [z47])]
      exact hq
    · refine ev_iload_n i88_50 rfl ?_
      refine ev_iconst (v := nI 1) i88_51 (by decide) ?_
      refine ev_iload_n i88_52 rfl ?_
      refine ev_ishl i88_53 ?_
      refine ev_ior i88_54 ?_
      rw [or10 b hb2 f (by omega)]
      refine ev_istore_n (L' := [some (.ref 0), some (.int (nI k)), some (.int (nI (b ||| 2 ^ f))), some (.int (nI f))]) i88_55 ⟨Nat.le_of_ble_eq_true rfl, rfl⟩ rfl ?_
      refine evn_iinc (d := 1) (L' := [some (.ref 0), some (.int (nI k)), some (.int (nI (b ||| 2 ^ f))), some (.int (nI (f + 1)))]) i88_56 rfl rfl (by decide) rfl ?_
      refine ev_goto (t := 17) i88_59 (by decide) ?_
      refine (lq88 b3 b4 b5 b6 b9 b10 b11 hk F0 FH FM FL d (f + 1) (b ||| 2 ^ f) _ (by omega) (or10_lt (m := 10) hb2 (by omega)) hOO hT).post (fun r H' hq => ?_)
      unfold fulL
      rw [if_pos z47]
      exact hq
theorem x88 {tb : dxT} {H : dxH} {tx : Nat → Nat} {ln n : Nat} {sd kd : Nat → Nat} {s : Sn} {am : Nat} {stk : Nat → Sn} {kp : Nat → Bool} {ks : Nat → Sn} {tm : Nat} {tc th : Nat → Nat} {td : Nat → Bool} {sed : Int64} {k : Nat} (hI : CInv H tx ln n sd kd s am stk kp ks tm tc th td sed) (hS : SpOK tx ln n sd kd s am stk kp ks tm tc th) (hk : k < n) : Cl tb 88 [.ref 0, .int (nI k)] H (fun r H' => r = some (.int (nI (fulL (HE n) sd kd s.1 s.2.1 tc th td tm k s.2.2 10 0 0))) ∧ CInv H' tx ln n sd kd s am stk kp ks tm tc th td sed ∧ Off xC H H') := by
  obtain ⟨f0, fT, fH, fM, fA, fK, fL, fP⟩ := id hI
  obtain ⟨⟨b1, b2⟩, b3, b4, b5, b6, b7, b8, b9, b10, b11⟩ := id hS
  have hT := fP.1
  have g0 := f0
  unfold CC at g0
  obtain ⟨m0, m1, m2, m3, m4⟩ := id fM
  obtain ⟨_, _, _, _, _, _, _, _, ⟨t0, _⟩, _⟩ := id hT
  have hb : HE n < 64 := HE_lt b3
  have ha : 6 ≤ 6 := Nat.le_refl 6
  obtain ⟨u0, _⟩ := id fH
  show Ev tb 88 0 [some (.ref 0), some (.int (nI k)), none, none] [] H _
  refine ev_aload_n i88_0 rfl ?_
  refine ev_get i88_1 ci88 fl7_19 (by assumption) rfl ?_
  refine ev_iload_n i88_4 rfl ?_
  refine ev_callV (vs := [.int (nI k)]) (rest := []) i88_5 ci88 lk7_105 (congrArg (fun q => q + 1) np15) ci15 (by decide) (by decide +kernel) (Nat.le_of_ble_eq_true rfl) ⟨rfl, rfl, Nat.le_of_ble_eq_true rfl⟩ rfl (by assumption) (c15 fH b3) (fun r HH hq => ?_)
  obtain ⟨rfl, rfl⟩ := hq
  have hin : inR (nI k) n = true := by rw [inR_n (by omega) (by omega)]; exact decide_eq_true hk
  rw [hin]
  show Ev tb 88 8 [some (.ref 0), some (.int (nI k)), none, none] [.int (bI true)] H _
  refine evb_if_ne (t := 13) i88_8 (by decide) (fun z8 => ?_) (fun z8 => by exfalso; cases z8)
  refine ev_iconst (v := nI 0) i88_13 (by decide) ?_
  refine ev_istore_n (L' := [some (.ref 0), some (.int (nI k)), some (.int (nI 0)), none]) i88_14 ⟨Nat.le_of_ble_eq_true rfl, rfl⟩ rfl ?_
  refine ev_iconst (v := nI 0) i88_15 (by decide) ?_
  refine ev_istore_n (L' := [some (.ref 0), some (.int (nI k)), some (.int (nI 0)), some (.int (nI 0))]) i88_16 ⟨Nat.le_of_ble_eq_true rfl, rfl⟩ rfl ?_
  refine (lq88 b3 b4 b5 b6 b9 b10 b11 hk f0 fH fM fL 10 0 0 H rfl (by decide) Off.rf hT).post (fun r H' hq => ?_)
  exact ⟨hq.1, hI.tr hq.2.2 hq.2.1⟩
theorem x88u {tb : dxT} {H : dxH} {tx : Nat → Nat} {ln n : Nat} {sd kd : Nat → Nat} {s : Sn} {am : Nat} {stk : Nat → Sn} {kp : Nat → Bool} {ks : Nat → Sn} {tm : Nat} {tc th : Nat → Nat} {td : Nat → Bool} {sed : Int64} {x : Int32} (hI : CInv H tx ln n sd kd s am stk kp ks tm tc th td sed) (hS : SpOK tx ln n sd kd s am stk kp ks tm tc th) (h : inR x n = false) : Cl tb 88 [.ref 0, .int x] H (fun r H' => r = some (.int (-1)) ∧ CInv H' tx ln n sd kd s am stk kp ks tm tc th td sed ∧ Off xC H H') := by
  obtain ⟨f0, fT, fH, fM, fA, fK, fL, fP⟩ := id hI
  obtain ⟨⟨b1, b2⟩, b3, b4, b5, b6, b7, b8, b9, b10, b11⟩ := id hS
  have hT := fP.1
  have g0 := f0
  unfold CC at g0
  obtain ⟨m0, m1, m2, m3, m4⟩ := id fM
  obtain ⟨_, _, _, _, _, _, _, _, ⟨t0, _⟩, _⟩ := id hT
  have hb : HE n < 64 := HE_lt b3
  have ha : 6 ≤ 6 := Nat.le_refl 6
  obtain ⟨u0, _⟩ := id fH
  show Ev tb 88 0 [some (.ref 0), some (.int x), none, none] [] H _
  refine ev_aload_n i88_0 rfl ?_
  refine ev_get i88_1 ci88 fl7_19 (by assumption) rfl ?_
  refine ev_iload_n i88_4 rfl ?_
  refine ev_callV (vs := [.int x]) (rest := []) i88_5 ci88 lk7_105 (congrArg (fun q => q + 1) np15) ci15 (by decide) (by decide +kernel) (Nat.le_of_ble_eq_true rfl) ⟨rfl, rfl, Nat.le_of_ble_eq_true rfl⟩ rfl (by assumption) (c15 (by assumption) (by omega)) (fun r HH hq => ?_)
  obtain ⟨rfl, rfl⟩ := hq
  show Ev tb 88 8 [some (.ref 0), some (.int x), none, none] [.int (bI (inR x n))] H _
  refine evb_if_ne (t := 13) i88_8 (by decide) (fun z8 => by exfalso; rw [h] at z8; cases z8) (fun z8 => ?_)
  refine ev_iconst (v := (-1)) i88_11 (by decide) ?_
  refine ev_iret i88_12 (by decide +kernel) ?_
  exact ⟨rfl, hI, Off.rf⟩
theorem lq106 {tb : dxT} {n : Nat} {sd kd : Nat → Nat} {s : Sn} {sed : Int64} {m wd : Nat} (b3 : n ≤ 6) (b4 : ∀ j, sd j < 2) (b5 : ∀ j, kd j < 4) (b6 : SnOK n s) (hm : m ≤ 6) (hwd : wd < 64) : ∀ (d k : Nat) (v : Int32) (sn : Bool) (H : dxH) (x : Hs), k + d = m → CC H sed → HrdAt H n sd kd → MdS H 11 s.1 (HE n) sn x → SOK x → Ev tb 106 17 [some (.ref 0), some (.int (nI wd)), some (.int (nI m)), some (.int v), some (.int (nI k))] [] H (fun r H' => r = some (.int (bI (decide (snwX wd (HE n) sd kd s.1 d k x v = nI 1)))) ∧ ShpM H' 11 ∧ Off (mdC 11) H H')
  | 0, k, v, sn, H, x, hk, f0, fH, hN, hx => by
    obtain rfl : k = m := by omega
    refine ev_iload i106_17 rfl ?_
    refine ev_iload_n i106_19 rfl ?_
    refine evn_icmp_ge (t := 60) i106_20 (by decide) (by omega) (fun z20 => ?_) (fun z20 => by exfalso; omega)
    refine ev_iload_n i106_60 rfl ?_
    refine ev_iconst (v := nI 1) i106_61 (by decide) ?_
    refine ev_icmp_ne (t := 69) i106_62 (by decide) (fun z62 => ?_) (fun z62 => ?_)
    · refine ev_iconst (v := nI 0) i106_69 (by decide) ?_
      refine ev_zret i106_70 (by decide +kernel) (by decide) ?_
      exact ⟨zf (decide_eq_false z62), hN.shp b6.2.1 hx, Off.rf⟩
    · refine ev_iconst (v := nI 1) i106_65 (by decide) ?_
      refine ev_goto (t := 70) i106_66 (by decide) ?_
      refine ev_zret i106_70 (by decide +kernel) (by decide) ?_
      exact ⟨zt (decide_eq_true z62), hN.shp b6.2.1 hx, Off.rf⟩
  | d + 1, k, v, sn, H, x, hk, f0, fH, hN, hx => by
    have hb : HE n < 64 := HE_lt b3
    have g0 := f0
    unfold CC at g0
    obtain ⟨t0, _⟩ := id hN
    refine ev_iload i106_17 rfl ?_
    refine ev_iload_n i106_19 rfl ?_
    refine evn_icmp_ge (t := 60) i106_20 (by decide) (by omega) (fun z20 => by exfalso; omega) (fun z20 => ?_)
    refine ev_aload_n i106_23 rfl ?_
    refine ev_get i106_24 ci106 fl7_32 (by assumption) rfl ?_
    refine ev_iload_n i106_27 rfl ?_
    refine ev_iload i106_28 rfl ?_
    refine ev_ishr i106_30 ?_
    refine ev_iconst (v := nI 1) i106_31 (by decide) ?_
    refine ev_iand i106_32 ?_
    rw [bit10 wd (by omega) k (by omega)]
    refine ev_iconst (v := nI 1) i106_33 (by decide) ?_
    refine evb1_icmp_ne (t := 41) i106_34 (by decide) (fun z34 => ?_) (fun z34 => ?_)
    · refine ev_iconst (v := nI 0) i106_41 (by decide) ?_
      refine ev_callV (vs := [.int (nI 0)]) (rest := []) i106_42 ci106 lk7_148 (congrArg (fun q => q + 1) np36) ci36 (by decide) (by decide +kernel) (Nat.le_of_ble_eq_true rfl) ⟨rfl, rfl, Nat.le_of_ble_eq_true rfl⟩ rfl (by assumption) (c36 (b := false) hN (by decide)) (fun r H1 hq => ?_)
      obtain ⟨rfl, hN, hO1⟩ := hq
      have f0 := f0.off hO1 (by unfold mdC; omega)
      have fH := fH.off hO1 (by unfold mdC; omega) (by unfold mdC; omega) (by unfold mdC; omega)
      have g0 := f0
      unfold CC at g0
      obtain ⟨t0, _⟩ := id hN
      show Ev tb 106 45 [some (.ref 0), some (.int (nI wd)), some (.int (nI m)), some (.int v), some (.int (nI k))] [] H1 _
      refine ev_aload_n i106_45 rfl ?_
      refine ev_get i106_46 ci106 fl7_32 (by assumption) rfl ?_
      refine ev_iconst (v := nI 0) i106_49 (by decide) ?_
      refine ev_callV (vs := [.int (nI 0)]) (rest := []) i106_50 ci106 lk7_126 (congrArg (fun q => q + 1) np43) ci43 (by decide) (by decide +kernel) (Nat.le_of_ble_eq_true rfl) ⟨rfl, rfl, Nat.le_of_ble_eq_true rfl⟩ rfl (by assumption) (c43x (x := x) (sn := false) (rg := false) hb (by decide) b6.1 b5 b4 hN fH hx) (fun r H2 hq => ?_)
      obtain ⟨rfl, hN, hO2⟩ := hq
      have f0 := f0.off hO2 (by unfold mdC; omega)
      have fH := fH.off hO2 (by unfold mdC; omega) (by unfold mdC; omega) (by unfold mdC; omega)
      show Ev tb 106 53 [some (.ref 0), some (.int (nI wd)), some (.int (nI m)), some (.int v), some (.int (nI k))] [.int (nI (srtF (HE n) kd x.2.1 false false))] H2 _
      refine ev_istore_n (L' := [some (.ref 0), some (.int (nI wd)), some (.int (nI m)), some (.int (nI (srtF (HE n) kd x.2.1 false false))), some (.int (nI k))]) i106_53 ⟨Nat.le_of_ble_eq_true rfl, rfl⟩ rfl ?_
      refine evn_iinc (d := 1) (L' := [some (.ref 0), some (.int (nI wd)), some (.int (nI m)), some (.int (nI (srtF (HE n) kd x.2.1 false false))), some (.int (nI (k + 1)))]) i106_54 rfl rfl (by decide) rfl ?_
      refine ev_goto (t := 17) i106_57 (by decide) ?_
      refine (lq106 b3 b4 b5 b6 hm hwd d (k + 1) _ false H2 _ (by omega) f0 fH hN (hrF_ok b6.1 b4 hx)).post (fun r H' hq => ?_)
      unfold snwX
      rw [z34]
      exact ⟨hq.1, hq.2.1, (hO1.trans hO2 (C := mdC 11) (fun _ q => q) (fun _ q => q)).trans hq.2.2 (fun _ q => q) (fun _ q => q)⟩
    · refine ev_iconst (v := nI 1) i106_37 (by decide) ?_
      refine ev_goto (t := 42) i106_38 (by decide) ?_
      refine ev_callV (vs := [.int (nI 1)]) (rest := []) i106_42 ci106 lk7_148 (congrArg (fun q => q + 1) np36) ci36 (by decide) (by decide +kernel) (Nat.le_of_ble_eq_true rfl) ⟨rfl, rfl, Nat.le_of_ble_eq_true rfl⟩ rfl (by assumption) (c36 (b := true) hN (by decide)) (fun r H1 hq => ?_)
      obtain ⟨rfl, hN, hO1⟩ := hq
      have f0 := f0.off hO1 (by unfold mdC; omega)
      have fH := fH.off hO1 (by unfold mdC; omega) (by unfold mdC; omega) (by unfold mdC; omega)
      have g0 := f0
      unfold CC at g0
      obtain ⟨t0, _⟩ := id hN
      show Ev tb 106 45 [some (.ref 0), some (.int (nI wd)), some (.int (nI m)), some (.int v), some (.int (nI k))] [] H1 _
      refine ev_aload_n i106_45 rfl ?_
      refine ev_get i106_46 ci106 fl7_32 (by assumption) rfl ?_
      refine ev_iconst (v := nI 0) i106_49 (by decide) ?_
      refine ev_callV (vs := [.int (nI 0)]) (rest := []) i106_50 ci106 lk7_126 (congrArg (fun q => q + 1) np43) ci43 (by decide) (by decide +kernel) (Nat.le_of_ble_eq_true rfl) ⟨rfl, rfl, Nat.le_of_ble_eq_true rfl⟩ rfl (by assumption) (c43x (x := x) (sn := true) (rg := false) hb (by decide) b6.1 b5 b4 hN fH hx) (fun r H2 hq => ?_)
      obtain ⟨rfl, hN, hO2⟩ := hq
      have f0 := f0.off hO2 (by unfold mdC; omega)
      have fH := fH.off hO2 (by unfold mdC; omega) (by unfold mdC; omega) (by unfold mdC; omega)
      show Ev tb 106 53 [some (.ref 0), some (.int (nI wd)), some (.int (nI m)), some (.int v), some (.int (nI k))] [.int (nI (srtF (HE n) kd x.2.1 true false))] H2 _
      refine ev_istore_n (L' := [some (.ref 0), some (.int (nI wd)), some (.int (nI m)), some (.int (nI (srtF (HE n) kd x.2.1 true false))), some (.int (nI k))]) i106_53 ⟨Nat.le_of_ble_eq_true rfl, rfl⟩ rfl ?_
      refine evn_iinc (d := 1) (L' := [some (.ref 0), some (.int (nI wd)), some (.int (nI m)), some (.int (nI (srtF (HE n) kd x.2.1 true false))), some (.int (nI (k + 1)))]) i106_54 rfl rfl (by decide) rfl ?_
      refine ev_goto (t := 17) i106_57 (by decide) ?_
      refine (lq106 b3 b4 b5 b6 hm hwd d (k + 1) _ true H2 _ (by omega) f0 fH hN (hrF_ok b6.1 b4 hx)).post (fun r H' hq => ?_)
      unfold snwX
      rw [z34]
      exact ⟨hq.1, hq.2.1, (hO1.trans hO2 (C := mdC 11) (fun _ q => q) (fun _ q => q)).trans hq.2.2 (fun _ q => q) (fun _ q => q)⟩
theorem c106 {tb : dxT} {H : dxH} {n : Nat} {sd kd : Nat → Nat} {s : Sn} {sed : Int64} {m wd : Nat} (f0 : CC H sed) (fH : HrdAt H n sd kd) (fM : MdX H 6 n s) (hT : ShpM H 11) (b3 : n ≤ 6) (b4 : ∀ j, sd j < 2) (b5 : ∀ j, kd j < 4) (b6 : SnOK n s) (hm : m ≤ 6) (hwd : wd < 64) : Cl tb 106 [.ref 0, .int (nI wd), .int (nI m)] H (fun r H' => r = some (.int (bI (decide (snwX wd (HE n) sd kd s.1 m 0 s.2.2 (-9) = nI 1)))) ∧ ShpM H' 11 ∧ Off (mdC 11) H H') := by
  have g0 := f0
  unfold CC at g0
  obtain ⟨m0, m1, m2, m3, m4⟩ := id fM
  obtain ⟨_, _, _, _, _, _, _, _, ⟨t0, _⟩, _⟩ := id hT
  have hb : HE n < 64 := HE_lt b3
  have ha : 6 ≤ 6 := Nat.le_refl 6
  show Ev tb 106 0 [some (.ref 0), some (.int (nI wd)), some (.int (nI m)), none, none] [] H _
  refine ev_aload_n i106_0 rfl ?_
  refine ev_get i106_1 ci106 fl7_32 (by assumption) rfl ?_
  refine ev_aload_n i106_4 rfl ?_
  refine ev_get i106_5 ci106 fl7_28 (by assumption) rfl ?_
  refine ev_callV (vs := [.ref 6]) (rest := []) i106_8 ci106 lk7_159 (congrArg (fun q => q + 1) np20) ci20 (by decide) (by decide +kernel) (Nat.le_of_ble_eq_true rfl) ⟨rfl, rfl, Nat.le_of_ble_eq_true rfl⟩ rfl (by assumption) (c20 hT fM b6.2.2.1.2.2.1 b6.2.1 b6.2.2.1.2.2.2.1 b6.2.2.1.2.2.2.2 (by decide)) (fun r H1 hq => ?_)
  obtain ⟨rfl, hN, hO1⟩ := hq
  have f0 := f0.off hO1 (by unfold mdC; omega)
  have fH := fH.off hO1 (by unfold mdC; omega) (by unfold mdC; omega) (by unfold mdC; omega)
  have fM := fM.off hO1 (fun j u1 u2 => by unfold mdC; omega)
  have g0 := f0
  unfold CC at g0
  obtain ⟨t0, t1, t2, t3, t4⟩ := id hN
  obtain ⟨m0, m1, m2, m3, m4⟩ := id fM
  have hOO : Off (mdC 11) H H1 := hO1
  show Ev tb 106 11 [some (.ref 0), some (.int (nI wd)), some (.int (nI m)), none, none] [] H1 _
  refine ev_bipush (v := (-9)) i106_11 (by decide) ?_
  refine ev_istore_n (L' := [some (.ref 0), some (.int (nI wd)), some (.int (nI m)), some (.int (-9)), none]) i106_13 ⟨Nat.le_of_ble_eq_true rfl, rfl⟩ rfl ?_
  refine ev_iconst (v := nI 0) i106_14 (by decide) ?_
  refine ev_istore (L' := [some (.ref 0), some (.int (nI wd)), some (.int (nI m)), some (.int (-9)), some (.int (nI 0))]) i106_15 ⟨Nat.le_of_ble_eq_true rfl, rfl⟩ rfl ?_
  refine (lq106 b3 b4 b5 b6 hm hwd m 0 _ _ H1 _ (Nat.zero_add m) f0 fH hN b6.x).post (fun r H' hq => ?_)
  exact ⟨hq.1, hq.2.1, hOO.trans hq.2.2 (fun _ q => q) (fun _ q => q)⟩
/-- the weight of a row of snows; the sum of those in which the last hour stops -/
def wgt (m y wd : Nat) : Nat := y ^ popN wd * (10 - y) ^ (m - popN wd)
def chnL (m y he : Nat) (sd kd ce : Nat → Nat) (x : Hs) : Nat → Nat → Nat → Nat
  | 0, _, a => a
  | d + 1, wd, a => chnL m y he sd kd ce x d (wd + 1) (if snwX wd he sd kd ce m 0 x (-9) = nI 1 then a + wgt m y wd else a)
theorem wgt_le : ∀ m, m < 7 → ∀ y, y < 11 → ∀ wd, wd < 2 ^ m → popN wd ≤ m ∧ wgt m y wd ≤ 1000000 := by decide +kernel
theorem chnL_le {m y he : Nat} {sd kd ce : Nat → Nat} {x : Hs} (hm : m < 7) (hy : y < 11) : ∀ (d wd a : Nat), wd + d ≤ 2 ^ m → chnL m y he sd kd ce x d wd a ≤ a + d * 1000000
  | 0, _, a, _ => by show a ≤ _; omega
  | d + 1, wd, a, h => by
    have h1 := (wgt_le m hm y hy wd (by omega)).2
    have h2 := chnL_le (he := he) (sd := sd) (kd := kd) (ce := ce) (x := x) hm hy d (wd + 1) (if snwX wd he sd kd ce m 0 x (-9) = nI 1 then a + wgt m y wd else a) (by omega)
    refine Nat.le_trans h2 ?_
    split <;> omega
set_option maxRecDepth 100000 in
theorem lq90 {tb : dxT} {H : dxH} {n : Nat} {sd kd : Nat → Nat} {s : Sn} {sed : Int64} {m y : Nat} {u : Bool} (b3 : n ≤ 6) (b4 : ∀ j, sd j < 2) (b5 : ∀ j, kd j < 4) (b6 : SnOK n s) (hm1 : 1 ≤ m) (hm : m ≤ 6) (hy : y ≤ 10) (F0 : CC H sed) (FH : HrdAt H n sd kd) (FM : MdX H 6 n s) : ∀ (d wd a : Nat) (H2 : dxH), wd + d = 2 ^ m → a + d * 1000000 ≤ 64000000 → Off (mdC 11) H H2 → ShpM H2 11 → ∀ v6, Ev tb 90 30 [some (.ref 0), some (.int (nI m)), some (.int (nI y)), some (.int (bI u)), some (.int (nI a)), some (.int (nI wd)), v6] [] H2 (fun r H' => r = some (.int (trmI (nI (chnL m y (HE n) sd kd s.1 s.2.2 d wd a)) (chnL m y (HE n) sd kd s.1 s.2.2 d wd a) (10 ^ m) u)) ∧ ShpM H' 11 ∧ Off (mdC 11) H H')
  | 0, wd, a, H2, hk, ha2, hOO, hT, v6 => by
    obtain rfl : wd = 2 ^ m := by omega
    have hp8 : 2 ^ m ≤ 2 ^ 6 := Nat.pow_le_pow_right (by decide) hm
    have hp9 : 10 ^ m ≤ 10 ^ 6 := Nat.pow_le_pow_right (by decide) hm
    have hp0 : 0 < 10 ^ m := Nat.pow_pos (by decide)
    have h21 : (10 : Nat) ^ m < 2 ^ 21 := by omega
    refine ev_iload i90_30 rfl ?_
    refine ev_iconst (v := nI 1) i90_32 (by decide) ?_
    refine ev_iload_n i90_33 rfl ?_
    refine ev_ishl i90_34 ?_
    rw [shl1 m (by omega)]
    refine evn_icmp_ge (t := 84) i90_35 (by decide) (by omega) (fun z35 => ?_) (fun z35 => by exfalso; omega)
    refine ev_iload i90_84 rfl ?_
    refine ev_iload_n i90_86 rfl ?_
    refine ev_callS (vs := [.int (nI m)]) (rest := [.int (nI a)]) i90_87 ci90 lk7_193 (Or.inl rfl) np113 (by decide +kernel) (Nat.le_of_ble_eq_true rfl) ⟨rfl, rfl, Nat.le_of_ble_eq_true rfl⟩ rfl (c113 (by omega)) (fun r HH hq => ?_)
    obtain ⟨rfl, rfl⟩ := hq
    show Ev tb 90 90 [some (.ref 0), some (.int (nI m)), some (.int (nI y)), some (.int (bI u)), some (.int (nI a)), some (.int (nI (2 ^ m))), v6] [.int (nI (10 ^ m)), .int (nI a)] H2 _
    refine ev_iload_n i90_90 rfl ?_
    refine ev_callS (vs := [.int (nI a), .int (nI (10 ^ m)), .int (bI u)]) (rest := []) i90_91 ci90 lk7_208 (Or.inl rfl) np111 (by decide +kernel) (Nat.le_of_ble_eq_true rfl) ⟨rfl, rfl, Nat.le_of_ble_eq_true rfl⟩ rfl (c111 (A := a) (by rw [if_pos (nI_pos' (by omega))]) (by omega) h21 hp0) (fun r HH hq => ?_)
    obtain ⟨rfl, rfl⟩ := hq
    show Ev tb 90 94 [some (.ref 0), some (.int (nI m)), some (.int (nI y)), some (.int (bI u)), some (.int (nI a)), some (.int (nI (2 ^ m))), v6] [.int (trmI (nI a) a (10 ^ m) u)] H2 _
    refine ev_iret i90_94 (by decide +kernel) ?_
    exact ⟨rfl, hT, hOO⟩
  | d + 1, wd, a, H2, hk, ha2, hOO, hT, v6 => by
    have hp8 : 2 ^ m ≤ 2 ^ 6 := Nat.pow_le_pow_right (by decide) hm
    have hwg := wgt_le m (by omega) y (by omega) wd (by omega)
    have f0 := F0.off hOO (by unfold mdC; omega)
    have fH := FH.off hOO (by unfold mdC; omega) (by unfold mdC; omega) (by unfold mdC; omega)
    have fM := FM.off hOO (fun j u1 u2 => by unfold mdC; omega)
    have g0 := f0
    unfold CC at g0
    obtain ⟨m0, m1, m2, m3, m4⟩ := id fM
    obtain ⟨_, _, _, _, _, _, _, _, ⟨t0, _⟩, _⟩ := id hT
    have hb : HE n < 64 := HE_lt b3
    refine ev_iload i90_30 rfl ?_
    refine ev_iconst (v := nI 1) i90_32 (by decide) ?_
    refine ev_iload_n i90_33 rfl ?_
    refine ev_ishl i90_34 ?_
    rw [shl1 m (by omega)]
    refine evn_icmp_ge (t := 84) i90_35 (by decide) (by omega) (fun z35 => by exfalso; omega) (fun z35 => ?_)
    refine ev_aload_n i90_38 rfl ?_
    refine ev_iload i90_39 rfl ?_
    refine ev_iload_n i90_41 rfl ?_
    refine ev_callV (vs := [.int (nI wd), .int (nI m)]) (rest := []) i90_42 ci90 lk7_230 (congrArg (fun q => q + 1) np106) ci106 (by decide) (by decide +kernel) (Nat.le_of_ble_eq_true rfl) ⟨rfl, rfl, Nat.le_of_ble_eq_true rfl⟩ rfl (by assumption) (c106 f0 fH fM hT b3 b4 b5 b6 hm (by omega)) (fun r H3 hq => ?_)
    obtain ⟨rfl, hT, hO3⟩ := hq
    have hOO := hOO.trans hO3 (C := mdC 11) (fun _ q => q) (fun _ q => q)
    show Ev tb 90 45 [some (.ref 0), some (.int (nI m)), some (.int (nI y)), some (.int (bI u)), some (.int (nI a)), some (.int (nI wd)), v6] [.int (bI (decide (snwX wd (HE n) sd kd s.1 m 0 s.2.2 (-9) = nI 1)))] H3 _
    refine evd_if_eq (t := 78) i90_45 (by decide) (fun z45 => ?_) (fun z45 => ?_)
    · refine evn_iinc (d := 1) (L' := [some (.ref 0), some (.int (nI m)), some (.int (nI y)), some (.int (bI u)), some (.int (nI a)), some (.int (nI (wd + 1))), v6]) i90_78 rfl rfl (by decide) rfl ?_
      refine ev_goto (t := 30) i90_81 (by decide) ?_
      have e1 : chnL m y (HE n) sd kd s.1 s.2.2 (d + 1) wd a = chnL m y (HE n) sd kd s.1 s.2.2 d (wd + 1) (a) := by
        conv => lhs; unfold chnL
        rw [if_neg z45]
        skip
      rw [e1]
      exact lq90 b3 b4 b5 b6 hm1 hm hy F0 FH FM d (wd + 1) (a) H3 ((Nat.add_right_comm wd 1 d).trans hk) (Nat.le_trans (Nat.add_le_add_left (Nat.mul_le_mul_right _ (Nat.le_succ d)) a) ha2) hOO hT _
    · refine ev_iload i90_48 rfl ?_
      refine ev_callS (vs := [.int (nI wd)]) (rest := []) i90_50 ci90 lk7_196 (Or.inl rfl) np172 (by decide +kernel) (Nat.le_of_ble_eq_true rfl) ⟨rfl, rfl, Nat.le_of_ble_eq_true rfl⟩ rfl (c172 (by omega)) (fun r HH hq => ?_)
      obtain ⟨rfl, rfl⟩ := hq
      show Ev tb 90 53 [some (.ref 0), some (.int (nI m)), some (.int (nI y)), some (.int (bI u)), some (.int (nI a)), some (.int (nI wd)), v6] [.int (nI (popN wd))] H3 _
      refine ev_istore (L' := [some (.ref 0), some (.int (nI m)), some (.int (nI y)), some (.int (bI u)), some (.int (nI a)), some (.int (nI wd)), some (.int (nI (popN wd)))]) i90_53 ⟨Nat.le_of_ble_eq_true rfl, rfl⟩ rfl ?_
      refine ev_iload i90_55 rfl ?_
      refine ev_iload_n i90_57 rfl ?_
      refine ev_iload i90_58 rfl ?_
      refine ev_callS (vs := [.int (nI y), .int (nI (popN wd))]) (rest := [.int (nI a)]) i90_60 ci90 lk7_234 (Or.inl rfl) np114 (by decide +kernel) (Nat.le_of_ble_eq_true rfl) ⟨rfl, rfl, Nat.le_of_ble_eq_true rfl⟩ rfl (c114 (by omega)) (fun r HH hq => ?_)
      obtain ⟨rfl, rfl⟩ := hq
      show Ev tb 90 63 [some (.ref 0), some (.int (nI m)), some (.int (nI y)), some (.int (bI u)), some (.int (nI a)), some (.int (nI wd)), some (.int (nI (popN wd)))] [.int (nI (y ^ (popN wd))), .int (nI a)] H3 _
      refine ev_bipush (v := nI 10) i90_63 (by decide) ?_
      refine ev_iload_n i90_65 rfl ?_
      refine evn_isub i90_66 (by omega) ?_
      refine ev_iload_n i90_67 rfl ?_
      refine ev_iload i90_68 rfl ?_
      refine evn_isub i90_70 (by omega) ?_
      refine ev_callS (vs := [.int (nI (10 - y)), .int (nI (m - (popN wd)))]) (rest := [.int (nI (y ^ (popN wd))), .int (nI a)]) i90_71 ci90 lk7_234 (Or.inl rfl) np114 (by decide +kernel) (Nat.le_of_ble_eq_true rfl) ⟨rfl, rfl, Nat.le_of_ble_eq_true rfl⟩ rfl (c114 (by omega)) (fun r HH hq => ?_)
      obtain ⟨rfl, rfl⟩ := hq
      show Ev tb 90 74 [some (.ref 0), some (.int (nI m)), some (.int (nI y)), some (.int (bI u)), some (.int (nI a)), some (.int (nI wd)), some (.int (nI (popN wd)))] [.int (nI ((10 - y) ^ (m - (popN wd)))), .int (nI (y ^ (popN wd))), .int (nI a)] H3 _
      refine evn_imul i90_74 ?_
      refine evn_iadd i90_75 ?_
      refine ev_istore (L' := [some (.ref 0), some (.int (nI m)), some (.int (nI y)), some (.int (bI u)), some (.int (nI (a + ((y ^ (popN wd)) * ((10 - y) ^ (m - (popN wd))))))), some (.int (nI wd)), some (.int (nI (popN wd)))]) i90_76 ⟨Nat.le_of_ble_eq_true rfl, rfl⟩ rfl ?_
      refine evn_iinc (d := 1) (L' := [some (.ref 0), some (.int (nI m)), some (.int (nI y)), some (.int (bI u)), some (.int (nI (a + ((y ^ (popN wd)) * ((10 - y) ^ (m - (popN wd))))))), some (.int (nI (wd + 1))), some (.int (nI (popN wd)))]) i90_78 rfl rfl (by decide) rfl ?_
      refine ev_goto (t := 30) i90_81 (by decide) ?_
      have e1 : chnL m y (HE n) sd kd s.1 s.2.2 (d + 1) wd a = chnL m y (HE n) sd kd s.1 s.2.2 d (wd + 1) (a + ((y ^ (popN wd)) * ((10 - y) ^ (m - (popN wd))))) := by
        conv => lhs; unfold chnL
        rw [if_pos z45]
        rfl
      rw [e1]
      exact lq90 b3 b4 b5 b6 hm1 hm hy F0 FH FM d (wd + 1) (a + ((y ^ (popN wd)) * ((10 - y) ^ (m - (popN wd))))) H3 ((Nat.add_right_comm wd 1 d).trans hk) (by show a + wgt m y wd + d * 1000000 ≤ 64000000; omega) hOO hT _
def chnI (n m y : Nat) (sd kd : Nat → Nat) (s : Sn) (u : Bool) : Int32 := trmI (nI (chnL m y (HE n) sd kd s.1 s.2.2 (2 ^ m) 0 0)) (chnL m y (HE n) sd kd s.1 s.2.2 (2 ^ m) 0 0) (10 ^ m) u
theorem x90 {tb : dxT} {H : dxH} {tx : Nat → Nat} {ln n : Nat} {sd kd : Nat → Nat} {s : Sn} {am : Nat} {stk : Nat → Sn} {kp : Nat → Bool} {ks : Nat → Sn} {tm : Nat} {tc th : Nat → Nat} {td : Nat → Bool} {sed : Int64} {m y : Nat} {u : Bool} (hI : CInv H tx ln n sd kd s am stk kp ks tm tc th td sed) (hS : SpOK tx ln n sd kd s am stk kp ks tm tc th) (hm1 : 1 ≤ m) (hm : m ≤ 6) (hy : y ≤ 10) : Cl tb 90 [.ref 0, .int (nI m), .int (nI y), .int (bI u)] H (fun r H' => r = some (.int (chnI n m y sd kd s u)) ∧ CInv H' tx ln n sd kd s am stk kp ks tm tc th td sed ∧ Off xC H H') := by
  obtain ⟨f0, fT, fH, fM, fA, fK, fL, fP⟩ := id hI
  obtain ⟨⟨b1, b2⟩, b3, b4, b5, b6, b7, b8, b9, b10, b11⟩ := id hS
  have hT := fP.1
  have g0 := f0
  unfold CC at g0
  obtain ⟨m0, m1, m2, m3, m4⟩ := id fM
  obtain ⟨_, _, _, _, _, _, _, _, ⟨t0, _⟩, _⟩ := id hT
  have hb : HE n < 64 := HE_lt b3
  have ha : 6 ≤ 6 := Nat.le_refl 6
  have hp8 : 2 ^ m ≤ 2 ^ 6 := Nat.pow_le_pow_right (by decide) hm
  show Ev tb 90 0 [some (.ref 0), some (.int (nI m)), some (.int (nI y)), some (.int (bI u)), none, none, none] [] H _
  refine ev_iload_n i90_0 rfl ?_
  refine ev_iconst (v := nI 1) i90_1 (by decide) ?_
  refine evn_icmp_lt (t := 21) i90_2 (by decide) (by omega) (fun z2 => by exfalso; omega) (fun z2 => ?_)
  refine ev_iload_n i90_5 rfl ?_
  refine ev_bipush (v := nI 6) i90_6 (by decide) ?_
  refine evn_icmp_gt (t := 21) i90_8 (by decide) (by omega) (fun z8 => ?_) (fun z8 => ?_)
  · refine ev_bipush (v := (-2)) i90_21 (by decide) ?_
    refine ev_iret i90_23 (by decide +kernel) ?_
    exfalso; omega
  · refine ev_iload_n i90_11 rfl ?_
    refine evn_if_lt (t := 21) i90_12 (by decide) (by omega) ?_
    refine ev_iload_n i90_15 rfl ?_
    refine ev_bipush (v := nI 10) i90_16 (by decide) ?_
    refine evn_icmp_le (t := 24) i90_18 (by decide) (by omega) (fun z18 => ?_) (fun z18 => by exfalso; omega)
    refine ev_iconst (v := nI 0) i90_24 (by decide) ?_
    refine ev_istore (L' := [some (.ref 0), some (.int (nI m)), some (.int (nI y)), some (.int (bI u)), some (.int (nI 0)), none, none]) i90_25 ⟨Nat.le_of_ble_eq_true rfl, rfl⟩ rfl ?_
    refine ev_iconst (v := nI 0) i90_27 (by decide) ?_
    refine ev_istore (L' := [some (.ref 0), some (.int (nI m)), some (.int (nI y)), some (.int (bI u)), some (.int (nI 0)), some (.int (nI 0)), none]) i90_28 ⟨Nat.le_of_ble_eq_true rfl, rfl⟩ rfl ?_
    refine (lq90 b3 b4 b5 b6 hm1 hm hy f0 fH fM (2 ^ m) 0 0 H (Nat.zero_add _) (by omega) Off.rf hT _).post (fun r H' hq => ?_)
    exact ⟨hq.1, hI.tr hq.2.2 hq.2.1⟩
