/-! the class's calls: acts -/
def pushN (am : Nat) : Nat := if am < 14 then am + 1 else 14
def pushS (s : Sn) (stk : Nat → Sn) : Nat → Sn := fun i => match i with
  | 0 => s
  | i + 1 => stk i
def acC : Nat → Prop := fun j => 16 ≤ j ∧ j ≤ 88
theorem c3x {tb : dxT} {H : dxH} {n am b : Nat} {stk : Nat → Sn} {s : Sn} (hA : ActM H n am stk) (ham : am ≤ 14) (hM : MdX H b n s) (hs : SnOK n s) (hb : b + 4 < 16) : Cl tb 3 [.ref 16, .ref b] H (fun r H' => r = none ∧ ActM H' n (pushN am) (pushS s stk) ∧ Off acC H H') := by
  obtain ⟨fi, h1, h2, h3, h4⟩ := hA
  have hi : (fi + am) % 14 < 14 := Nat.mod_lt _ (by decide)
  refine (c3 h1 ham h2 (h3 _ hi) hM hs.2.2.1.2.2.1 hs.2.1 hs.2.2.1.2.2.2.1 hs.2.2.1.2.2.2.2 (by omega)).post (fun r H' hq => ?_)
  obtain ⟨rfl, k1, k2, k3⟩ := hq
  have hO : Off acC H H' := k3.weaken (fun j q => by unfold acC; rcases q with q | ⟨q1, q2⟩ <;> omega)
  refine ⟨rfl, ⟨_, ?_, k1, fun i hi2 => ?_, fun i hi2 => ?_⟩, hO⟩
  · split
    · exact h1
    · exact Nat.mod_lt _ (by decide)
  · by_cases e : i = (fi + am) % 14
    · subst e
      exact ⟨_, _, _, _, _, _, _, _, k2, hs.2.2.1.2.2.1, hs.2.1, hs.2.2.1.2.2.2.1, hs.2.2.1.2.2.2.2⟩
    · exact (h3 i hi2).off k3 (fun j u1 u2 q => by rcases q with q | ⟨q1, q2⟩ <;> omega)
  · have hpos : ∀ (fi' am' : Nat), (if am < 14 then fi else (fi + 1) % 14) = fi' → (if am < 14 then am + 1 else 14) = am' → (fi' + (am' - 1 - 0)) % 14 = (fi + am) % 14 ∧ ∀ j, j + 1 < am' → (fi' + (am' - 1 - (j + 1))) % 14 = (fi + (am - 1 - j)) % 14 ∧ j < am ∧ (fi + (am - 1 - j)) % 14 ≠ (fi + am) % 14 := by
      intro fi' am' e1 e2
      by_cases hl : am < 14
      · rw [if_pos hl] at e1 e2
        subst e1; subst e2
        refine ⟨by omega, fun j hj => ⟨by omega, by omega, by omega⟩⟩
      · rw [if_neg hl] at e1 e2
        subst e1; subst e2
        obtain rfl : am = 14 := by omega
        refine ⟨by omega, fun j hj => ⟨by omega, by omega, by omega⟩⟩
    obtain ⟨p0, p1⟩ := hpos _ _ rfl rfl
    match i, hi2 with
    | 0, _ =>
      rw [show (if am < 14 then fi else (fi + 1) % 14) + (pushN am - 1 - 0) = (if am < 14 then fi else (fi + 1) % 14) + ((if am < 14 then am + 1 else 14) - 1 - 0) from rfl, p0]
      exact k2
    | i + 1, hi2 =>
      obtain ⟨q1, q2, q3⟩ := p1 i hi2
      rw [show (if am < 14 then fi else (fi + 1) % 14) + (pushN am - 1 - (i + 1)) = (if am < 14 then fi else (fi + 1) % 14) + ((if am < 14 then am + 1 else 14) - 1 - (i + 1)) from rfl, q1]
      exact (h4 i q2).off k3 (fun j u1 u2 q => by rcases q with q | ⟨v1, v2⟩ <;> omega)
theorem c4x {tb : dxT} {H : dxH} {n am b : Nat} {stk : Nat → Sn} (hA : ActM H n am stk) (ham : am ≤ 14) (h0 : 0 < am) (hT : ShpM H b) (hs : SnOK n (stk 0)) (hb : b + 4 < 16) : Cl tb 4 [.ref 16, .ref b] H (fun r H' => r = none ∧ ActM H' n (am - 1) (fun i => stk (i + 1)) ∧ MdX H' b n (stk 0) ∧ Off (fun j => j = 16 ∨ mdC b j) H H') := by
  obtain ⟨fi, h1, h2, h3, h4⟩ := hA
  have hm := h4 0 h0
  rw [Nat.sub_zero] at hm
  refine (c4 h1 ham h0 h2 hT hm hs.2.2.1.2.2.1 hs.2.1 hs.2.2.1.2.2.2.1 hs.2.2.1.2.2.2.2 hb).post (fun r H' hq => ?_)
  obtain ⟨rfl, k1, k2, k3⟩ := hq
  refine ⟨rfl, ⟨fi, h1, k1, fun i hi2 => (h3 i hi2).off k3 (fun j u1 u2 q => by rcases q with q | ⟨q1, q2⟩ <;> omega), fun i hi2 => ?_⟩, k2, k3⟩
  have e1 := h4 (i + 1) (by omega)
  rw [show am - 1 - (i + 1) = am - 1 - 1 - i by omega] at e1
  exact e1.off k3 (fun j u1 u2 q => by rcases q with q | ⟨q1, q2⟩ <;> omega)
theorem SnOK.hr {n he : Nat} {sd kd : Nat → Nat} {rg : Bool} {s : Sn} (hsd : ∀ j, sd j < 2) (h : SnOK n s) : SnOK n (s.1, s.2.1, hrF he sd kd s.1 s.2.1 rg s.2.2) := ⟨h.1, h.2.1, hrF_ok h.1 hsd h.2.2.1, h.2.2.2⟩
theorem x73 {tb : dxT} {H : dxH} {tx : Nat → Nat} {ln n : Nat} {sd kd : Nat → Nat} {s : Sn} {am : Nat} {stk : Nat → Sn} {kp : Nat → Bool} {ks : Nat → Sn} {tm : Nat} {tc th : Nat → Nat} {td : Nat → Bool} {sed : Int64} {rg : Bool} (hI : CInv H tx ln n sd kd s am stk kp ks tm tc th td sed) (hS : SpOK tx ln n sd kd s am stk kp ks tm tc th) : Cl tb 73 [.ref 0, .int (bI rg)] H (fun r H' => r = some (.int (nI (srtF (HE n) kd s.2.2.2.1 s.2.1 rg))) ∧ CInv H' tx ln n sd kd (s.1, s.2.1, hrF (HE n) sd kd s.1 s.2.1 rg s.2.2) (pushN am) (pushS s stk) kp ks tm tc th td sed ∧ Off xC H H') := by
  obtain ⟨f0, fT, fH, fM, fA, fK, fL, fP⟩ := id hI
  obtain ⟨⟨b1, b2⟩, b3, b4, b5, b6, b7, b8, b9, b10, b11⟩ := id hS
  have g0 := f0
  unfold CC at g0
  obtain ⟨_, _, h16, _⟩ := id fA
  obtain ⟨a16, _⟩ := id h16
  obtain ⟨m0, m1, m2, m3, m4⟩ := id fM
  have hb : HE n < 64 := HE_lt b3
  have ha : 6 ≤ 6 := Nat.le_refl 6
  show Ev tb 73 0 [some (.ref 0), some (.int (bI rg))] [] H _
  refine ev_aload_n i73_0 rfl ?_
  refine ev_get i73_1 ci73 fl7_38 (by assumption) rfl ?_
  refine ev_aload_n i73_4 rfl ?_
  refine ev_get i73_5 ci73 fl7_28 (by assumption) rfl ?_
  refine ev_callV (vs := [.ref 6]) (rest := []) i73_8 ci73 lk7_123 (congrArg (fun q => q + 1) np3) ci3 (by decide) (by decide +kernel) (Nat.le_of_ble_eq_true rfl) ⟨rfl, rfl, Nat.le_of_ble_eq_true rfl⟩ rfl (by assumption) (c3x fA b7.1 fM b6 (by decide)) (fun r H1 hq => ?_)
  obtain ⟨rfl, fA, hO1⟩ := hq
  have f0 := f0.off hO1 (by unfold acC; omega)
  have fH := fH.off hO1 (by unfold acC; omega) (by unfold acC; omega) (by unfold acC; omega)
  have fM := fM.off hO1 (fun j u1 u2 => by unfold acC; omega)
  have g0 := f0
  unfold CC at g0
  obtain ⟨m0, m1, m2, m3, m4⟩ := id fM
  show Ev tb 73 11 [some (.ref 0), some (.int (bI rg))] [] H1 _
  refine ev_aload_n i73_11 rfl ?_
  refine ev_get i73_12 ci73 fl7_28 (by assumption) rfl ?_
  refine ev_iload_n i73_15 rfl ?_
  refine ev_callV (vs := [.int (bI rg)]) (rest := []) i73_16 ci73 lk7_126 (congrArg (fun q => q + 1) np43) ci43 (by decide) (by decide +kernel) (Nat.le_of_ble_eq_true rfl) ⟨rfl, rfl, Nat.le_of_ble_eq_true rfl⟩ rfl (by assumption) (c43x (x := s.2.2) hb ha b6.1 b5 b4 fM fH b6.2.2.1) (fun r H2 hq => ?_)
  obtain ⟨rfl, fM, hO2⟩ := hq
  show Ev tb 73 19 [some (.ref 0), some (.int (bI rg))] [.int (nI (srtF (HE n) kd s.2.2.2.1 s.2.1 rg))] H2 _
  refine ev_iret i73_19 (by decide +kernel) ?_
  have hOO : Off (fun j => acC j ∨ mdC 6 j) H H2 := hO1.trans hO2 (fun _ q => Or.inl q) (fun _ q => Or.inr q)
  have fT := fT.off hOO (by unfold acC mdC; omega) (by unfold acC mdC; omega)
  have fK := fK.off hOO (fun j u1 u2 => by unfold acC mdC; omega)
  have fL := fL.off hOO (fun j u1 u2 => by unfold acC mdC; omega)
  have fP := fP.off hOO (fun j u1 u2 => by unfold acC mdC; omega) (fun j u1 u2 => by unfold acC mdC; omega)
  have f0 := f0.off hO2 (by unfold mdC; omega)
  have fH := fH.off hO2 (by unfold mdC; omega) (by unfold mdC; omega) (by unfold mdC; omega)
  have fA := fA.off hO2 (fun j u1 u2 => by unfold mdC; omega)
  exact ⟨rfl, ⟨f0, fT, fH, fM, fA, fK, fL, fP⟩, hOO.weaken (fun j q => by unfold xC; rcases q with ⟨q1, q2⟩ | ⟨q1, q2⟩ <;> omega)⟩
theorem x74u {tb : dxT} {H : dxH} {tx : Nat → Nat} {ln n : Nat} {sd kd : Nat → Nat} {s : Sn} {am : Nat} {stk : Nat → Sn} {kp : Nat → Bool} {ks : Nat → Sn} {tm : Nat} {tc th : Nat → Nat} {td : Nat → Bool} {sed : Int64} {x y : Int32} (hI : CInv H tx ln n sd kd s am stk kp ks tm tc th td sed) (hS : SpOK tx ln n sd kd s am stk kp ks tm tc th) (h : inR x n = false) : Cl tb 74 [.ref 0, .int x, .int y] H (fun r H' => r = some (.int (-1)) ∧ CInv H' tx ln n sd kd s am stk kp ks tm tc th td sed ∧ Off xC H H') := by
  obtain ⟨f0, fT, fH, fM, fA, fK, fL, fP⟩ := id hI
  obtain ⟨⟨b1, b2⟩, b3, b4, b5, b6, b7, b8, b9, b10, b11⟩ := id hS
  have g0 := f0
  unfold CC at g0
  obtain ⟨_, _, h16, _⟩ := id fA
  obtain ⟨a16, _⟩ := id h16
  obtain ⟨m0, m1, m2, m3, m4⟩ := id fM
  have hb : HE n < 64 := HE_lt b3
  have ha : 6 ≤ 6 := Nat.le_refl 6
  obtain ⟨u0, _⟩ := id fH
  show Ev tb 74 0 [some (.ref 0), some (.int x), some (.int y), none] [] H _
  refine ev_aload_n i74_0 rfl ?_
  refine ev_get i74_1 ci74 fl7_19 (by assumption) rfl ?_
  refine ev_iload_n i74_4 rfl ?_
  refine ev_callV (vs := [.int x]) (rest := []) i74_5 ci74 lk7_105 (congrArg (fun q => q + 1) np15) ci15 (by decide) (by decide +kernel) (Nat.le_of_ble_eq_true rfl) ⟨rfl, rfl, Nat.le_of_ble_eq_true rfl⟩ rfl (by assumption) (c15 (by assumption) (by omega)) (fun r HH hq => ?_)
  obtain ⟨rfl, rfl⟩ := hq
  show Ev tb 74 8 [some (.ref 0), some (.int x), some (.int y), none] [.int (bI (inR x n))] H _
  refine evb_if_ne (t := 13) i74_8 (by decide) (fun z8 => by exfalso; rw [h] at z8; cases z8) (fun z8 => ?_)
  refine ev_iconst (v := (-1)) i74_11 (by decide) ?_
  refine ev_iret i74_12 (by decide +kernel) ?_
  exact ⟨rfl, hI, Off.rf⟩
theorem x74o {tb : dxT} {H : dxH} {tx : Nat → Nat} {ln n : Nat} {sd kd : Nat → Nat} {s : Sn} {am : Nat} {stk : Nat → Sn} {kp : Nat → Bool} {ks : Nat → Sn} {tm : Nat} {tc th : Nat → Nat} {td : Nat → Bool} {sed : Int64} {k : Nat} {y : Int32} (hI : CInv H tx ln n sd kd s am stk kp ks tm tc th td sed) (hS : SpOK tx ln n sd kd s am stk kp ks tm tc th) (hk : k < n) (h : inR y 10 = false) : Cl tb 74 [.ref 0, .int (nI k), .int y] H (fun r H' => r = some (.int (-2)) ∧ CInv H' tx ln n sd kd s am stk kp ks tm tc th td sed ∧ Off xC H H') := by
  obtain ⟨f0, fT, fH, fM, fA, fK, fL, fP⟩ := id hI
  obtain ⟨⟨b1, b2⟩, b3, b4, b5, b6, b7, b8, b9, b10, b11⟩ := id hS
  have g0 := f0
  unfold CC at g0
  obtain ⟨_, _, h16, _⟩ := id fA
  obtain ⟨a16, _⟩ := id h16
  obtain ⟨m0, m1, m2, m3, m4⟩ := id fM
  have hb : HE n < 64 := HE_lt b3
  have ha : 6 ≤ 6 := Nat.le_refl 6
  obtain ⟨u0, _⟩ := id fH
  show Ev tb 74 0 [some (.ref 0), some (.int (nI k)), some (.int y), none] [] H _
  refine ev_aload_n i74_0 rfl ?_
  refine ev_get i74_1 ci74 fl7_19 (by assumption) rfl ?_
  refine ev_iload_n i74_4 rfl ?_
  refine ev_callV (vs := [.int (nI k)]) (rest := []) i74_5 ci74 lk7_105 (congrArg (fun q => q + 1) np15) ci15 (by decide) (by decide +kernel) (Nat.le_of_ble_eq_true rfl) ⟨rfl, rfl, Nat.le_of_ble_eq_true rfl⟩ rfl (by assumption) (c15 fH b3) (fun r HH hq => ?_)
  obtain ⟨rfl, rfl⟩ := hq
  have hin : inR (nI k) n = true := by rw [inR_n (by omega) (by omega)]; exact decide_eq_true hk
  rw [hin]
  show Ev tb 74 8 [some (.ref 0), some (.int (nI k)), some (.int y), none] [.int (bI true)] H _
  refine evb_if_ne (t := 13) i74_8 (by decide) (fun z8 => ?_) (fun z8 => by exfalso; cases z8)
  refine ev_iload_n i74_13 rfl ?_
  refine ev_callS (vs := [.int y]) (rest := []) i74_14 ci74 lk7_98 (Or.inl rfl) np96 (by decide +kernel) (Nat.le_of_ble_eq_true rfl) ⟨rfl, rfl, Nat.le_of_ble_eq_true rfl⟩ rfl (c96) (fun r HH hq => ?_)
  obtain ⟨rfl, rfl⟩ := hq
  show Ev tb 74 17 [some (.ref 0), some (.int (nI k)), some (.int y), none] [.int (bI (inR y 10))] H _
  refine evb_if_ne (t := 23) i74_17 (by decide) (fun z17 => by exfalso; rw [h] at z17; cases z17) (fun z17 => ?_)
  refine ev_bipush (v := (-2)) i74_20 (by decide) ?_
  refine ev_iret i74_22 (by decide +kernel) ?_
  exact ⟨rfl, hI, Off.rf⟩
theorem x74s {tb : dxT} {H : dxH} {tx : Nat → Nat} {ln n : Nat} {sd kd : Nat → Nat} {s : Sn} {am : Nat} {stk : Nat → Sn} {kp : Nat → Bool} {ks : Nat → Sn} {tm : Nat} {tc th : Nat → Nat} {td : Nat → Bool} {sed : Int64} {k c : Nat} (hI : CInv H tx ln n sd kd s am stk kp ks tm tc th td sed) (hS : SpOK tx ln n sd kd s am stk kp ks tm tc th) (hk : k < n) (hc : c < 10) (h : grzB (HE n) s.1 c = true) : Cl tb 74 [.ref 0, .int (nI k), .int (nI c)] H (fun r H' => r = some (.int (-3)) ∧ CInv H' tx ln n sd kd s am stk kp ks tm tc th td sed ∧ Off xC H H') := by
  obtain ⟨f0, fT, fH, fM, fA, fK, fL, fP⟩ := id hI
  obtain ⟨⟨b1, b2⟩, b3, b4, b5, b6, b7, b8, b9, b10, b11⟩ := id hS
  have g0 := f0
  unfold CC at g0
  obtain ⟨_, _, h16, _⟩ := id fA
  obtain ⟨a16, _⟩ := id h16
  obtain ⟨m0, m1, m2, m3, m4⟩ := id fM
  have hb : HE n < 64 := HE_lt b3
  have ha : 6 ≤ 6 := Nat.le_refl 6
  obtain ⟨u0, _⟩ := id fH
  show Ev tb 74 0 [some (.ref 0), some (.int (nI k)), some (.int (nI c)), none] [] H _
  refine ev_aload_n i74_0 rfl ?_
  refine ev_get i74_1 ci74 fl7_19 (by assumption) rfl ?_
  refine ev_iload_n i74_4 rfl ?_
  refine ev_callV (vs := [.int (nI k)]) (rest := []) i74_5 ci74 lk7_105 (congrArg (fun q => q + 1) np15) ci15 (by decide) (by decide +kernel) (Nat.le_of_ble_eq_true rfl) ⟨rfl, rfl, Nat.le_of_ble_eq_true rfl⟩ rfl (by assumption) (c15 fH b3) (fun r HH hq => ?_)
  obtain ⟨rfl, rfl⟩ := hq
  have hin : inR (nI k) n = true := by rw [inR_n (by omega) (by omega)]; exact decide_eq_true hk
  rw [hin]
  show Ev tb 74 8 [some (.ref 0), some (.int (nI k)), some (.int (nI c)), none] [.int (bI true)] H _
  refine evb_if_ne (t := 13) i74_8 (by decide) (fun z8 => ?_) (fun z8 => by exfalso; cases z8)
  refine ev_iload_n i74_13 rfl ?_
  refine ev_callS (vs := [.int (nI c)]) (rest := []) i74_14 ci74 lk7_98 (Or.inl rfl) np96 (by decide +kernel) (Nat.le_of_ble_eq_true rfl) ⟨rfl, rfl, Nat.le_of_ble_eq_true rfl⟩ rfl (c96n (by omega)) (fun r HH hq => ?_)
  obtain ⟨rfl, rfl⟩ := hq
  show Ev tb 74 17 [some (.ref 0), some (.int (nI k)), some (.int (nI c)), none] [.int (bI (decide (c < 10)))] H _
  refine evd_if_ne (t := 23) i74_17 (by decide) (fun z17 => ?_) (fun z17 => by exfalso; omega)
  refine ev_aload_n i74_23 rfl ?_
  refine ev_get i74_24 ci74 fl7_28 (by assumption) rfl ?_
  refine ev_iload_n i74_27 rfl ?_
  refine ev_callV (vs := [.int (nI c)]) (rest := []) i74_28 ci74 lk7_130 (congrArg (fun q => q + 1) np30) ci30 (by decide) (by decide +kernel) (Nat.le_of_ble_eq_true rfl) ⟨rfl, rfl, Nat.le_of_ble_eq_true rfl⟩ rfl (by assumption) (c30 fM hb ha b6.1 (by omega)) (fun r HH hq => ?_)
  obtain ⟨rfl, rfl⟩ := hq
  show Ev tb 74 31 [some (.ref 0), some (.int (nI k)), some (.int (nI c)), none] [.int (bI (grzB (HE n) s.1 c))] H _
  refine evb_if_eq (t := 37) i74_31 (by decide) (fun z31 => by exfalso; rw [h] at z31; cases z31) (fun z31 => ?_)
  refine ev_bipush (v := (-3)) i74_34 (by decide) ?_
  refine ev_iret i74_36 (by decide +kernel) ?_
  exact ⟨rfl, hI, Off.rf⟩
theorem x74 {tb : dxT} {H : dxH} {tx : Nat → Nat} {ln n : Nat} {sd kd : Nat → Nat} {s : Sn} {am : Nat} {stk : Nat → Sn} {kp : Nat → Bool} {ks : Nat → Sn} {tm : Nat} {tc th : Nat → Nat} {td : Nat → Bool} {sed : Int64} {k c : Nat} (hI : CInv H tx ln n sd kd s am stk kp ks tm tc th td sed) (hS : SpOK tx ln n sd kd s am stk kp ks tm tc th) (hk : k < n) (hc : c < 10) (h : grzB (HE n) s.1 c = false) : Cl tb 74 [.ref 0, .int (nI k), .int (nI c)] H (fun r H' => r = some (.int (nI (s.1 k))) ∧ CInv H' tx ln n sd kd (updN s.1 k c, s.2) (pushN am) (pushS s stk) kp ks tm tc th td sed ∧ Off xC H H') := by
  obtain ⟨f0, fT, fH, fM, fA, fK, fL, fP⟩ := id hI
  obtain ⟨⟨b1, b2⟩, b3, b4, b5, b6, b7, b8, b9, b10, b11⟩ := id hS
  have g0 := f0
  unfold CC at g0
  obtain ⟨_, _, h16, _⟩ := id fA
  obtain ⟨a16, _⟩ := id h16
  obtain ⟨m0, m1, m2, m3, m4⟩ := id fM
  have hb : HE n < 64 := HE_lt b3
  have ha : 6 ≤ 6 := Nat.le_refl 6
  obtain ⟨u0, _⟩ := id fH
  show Ev tb 74 0 [some (.ref 0), some (.int (nI k)), some (.int (nI c)), none] [] H _
  refine ev_aload_n i74_0 rfl ?_
  refine ev_get i74_1 ci74 fl7_19 (by assumption) rfl ?_
  refine ev_iload_n i74_4 rfl ?_
  refine ev_callV (vs := [.int (nI k)]) (rest := []) i74_5 ci74 lk7_105 (congrArg (fun q => q + 1) np15) ci15 (by decide) (by decide +kernel) (Nat.le_of_ble_eq_true rfl) ⟨rfl, rfl, Nat.le_of_ble_eq_true rfl⟩ rfl (by assumption) (c15 fH b3) (fun r HH hq => ?_)
  obtain ⟨rfl, rfl⟩ := hq
  have hin : inR (nI k) n = true := by rw [inR_n (by omega) (by omega)]; exact decide_eq_true hk
  rw [hin]
  show Ev tb 74 8 [some (.ref 0), some (.int (nI k)), some (.int (nI c)), none] [.int (bI true)] H _
  refine evb_if_ne (t := 13) i74_8 (by decide) (fun z8 => ?_) (fun z8 => by exfalso; cases z8)
  refine ev_iload_n i74_13 rfl ?_
  refine ev_callS (vs := [.int (nI c)]) (rest := []) i74_14 ci74 lk7_98 (Or.inl rfl) np96 (by decide +kernel) (Nat.le_of_ble_eq_true rfl) ⟨rfl, rfl, Nat.le_of_ble_eq_true rfl⟩ rfl (c96n (by omega)) (fun r HH hq => ?_)
  obtain ⟨rfl, rfl⟩ := hq
  show Ev tb 74 17 [some (.ref 0), some (.int (nI k)), some (.int (nI c)), none] [.int (bI (decide (c < 10)))] H _
  refine evd_if_ne (t := 23) i74_17 (by decide) (fun z17 => ?_) (fun z17 => by exfalso; omega)
  refine ev_aload_n i74_23 rfl ?_
  refine ev_get i74_24 ci74 fl7_28 (by assumption) rfl ?_
  refine ev_iload_n i74_27 rfl ?_
  refine ev_callV (vs := [.int (nI c)]) (rest := []) i74_28 ci74 lk7_130 (congrArg (fun q => q + 1) np30) ci30 (by decide) (by decide +kernel) (Nat.le_of_ble_eq_true rfl) ⟨rfl, rfl, Nat.le_of_ble_eq_true rfl⟩ rfl (by assumption) (c30 fM hb ha b6.1 (by omega)) (fun r HH hq => ?_)
  obtain ⟨rfl, rfl⟩ := hq
  show Ev tb 74 31 [some (.ref 0), some (.int (nI k)), some (.int (nI c)), none] [.int (bI (grzB (HE n) s.1 c))] H _
  refine evb_if_eq (t := 37) i74_31 (by decide) (fun z31 => ?_) (fun z31 => by exfalso; rw [h] at z31; cases z31)
  refine ev_aload_n i74_37 rfl ?_
  refine ev_get i74_38 ci74 fl7_38 (by assumption) rfl ?_
  refine ev_aload_n i74_41 rfl ?_
  refine ev_get i74_42 ci74 fl7_28 (by assumption) rfl ?_
  refine ev_callV (vs := [.ref 6]) (rest := []) i74_45 ci74 lk7_123 (congrArg (fun q => q + 1) np3) ci3 (by decide) (by decide +kernel) (Nat.le_of_ble_eq_true rfl) ⟨rfl, rfl, Nat.le_of_ble_eq_true rfl⟩ rfl (by assumption) (c3x fA b7.1 fM b6 (by decide)) (fun r H1 hq => ?_)
  obtain ⟨rfl, fA, hO1⟩ := hq
  have f0 := f0.off hO1 (by unfold acC; omega)
  have fH := fH.off hO1 (by unfold acC; omega) (by unfold acC; omega) (by unfold acC; omega)
  have fM := fM.off hO1 (fun j u1 u2 => by unfold acC; omega)
  have g0 := f0
  unfold CC at g0
  obtain ⟨m0, m1, m2, m3, m4⟩ := id fM
  show Ev tb 74 48 [some (.ref 0), some (.int (nI k)), some (.int (nI c)), none] [] H1 _
  refine ev_aload_n i74_48 rfl ?_
  refine ev_get i74_49 ci74 fl7_28 (by assumption) rfl ?_
  refine ev_iload_n i74_52 rfl ?_
  refine ev_callV (vs := [.int (nI k)]) (rest := []) i74_53 ci74 lk7_108 (congrArg (fun q => q + 1) np25) ci25 (by decide) (by decide +kernel) (Nat.le_of_ble_eq_true rfl) ⟨rfl, rfl, Nat.le_of_ble_eq_true rfl⟩ rfl (by assumption) (c25t fM hb ha (by omega) (by rw [HE_bit]; exact decide_eq_true hk)) (fun r HH hq => ?_)
  obtain ⟨rfl, rfl⟩ := hq
  show Ev tb 74 56 [some (.ref 0), some (.int (nI k)), some (.int (nI c)), none] [.int (nI (s.1 k))] H1 _
  refine ev_istore_n (L' := [some (.ref 0), some (.int (nI k)), some (.int (nI c)), some (.int (nI (s.1 k)))]) i74_56 ⟨Nat.le_of_ble_eq_true rfl, rfl⟩ rfl ?_
  refine ev_aload_n i74_57 rfl ?_
  refine ev_get i74_58 ci74 fl7_28 (by assumption) rfl ?_
  refine ev_iload_n i74_61 rfl ?_
  refine ev_iload_n i74_62 rfl ?_
  refine ev_callV (vs := [.int (nI k), .int (nI c)]) (rest := []) i74_63 ci74 lk7_133 (congrArg (fun q => q + 1) np27) ci27 (by decide) (by decide +kernel) (Nat.le_of_ble_eq_true rfl) ⟨rfl, rfl, Nat.le_of_ble_eq_true rfl⟩ rfl (by assumption) (c27 fM hb ha (by omega) (by rw [HE_bit]; exact decide_eq_true hk) hc) (fun r H2 hq => ?_)
  obtain ⟨rfl, fM, hO2⟩ := hq
  show Ev tb 74 66 [some (.ref 0), some (.int (nI k)), some (.int (nI c)), some (.int (nI (s.1 k)))] [] H2 _
  refine ev_iload_n i74_66 rfl ?_
  refine ev_iret i74_67 (by decide +kernel) ?_
  have hOO : Off (fun j => acC j ∨ mdC 6 j) H H2 := hO1.trans hO2 (fun _ q => Or.inl q) (fun _ q => Or.inr q)
  have fT := fT.off hOO (by unfold acC mdC; omega) (by unfold acC mdC; omega)
  have fK := fK.off hOO (fun j u1 u2 => by unfold acC mdC; omega)
  have fL := fL.off hOO (fun j u1 u2 => by unfold acC mdC; omega)
  have fP := fP.off hOO (fun j u1 u2 => by unfold acC mdC; omega) (fun j u1 u2 => by unfold acC mdC; omega)
  have f0 := f0.off hO2 (by unfold mdC; omega)
  have fH := fH.off hO2 (by unfold mdC; omega) (by unfold mdC; omega) (by unfold mdC; omega)
  have fA := fA.off hO2 (fun j u1 u2 => by unfold mdC; omega)
  exact ⟨rfl, ⟨f0, fT, fH, fM, fA, fK, fL, fP⟩, hOO.weaken (fun j q => by unfold xC; rcases q with ⟨q1, q2⟩ | ⟨q1, q2⟩ <;> omega)⟩
theorem x75o {tb : dxT} {H : dxH} {tx : Nat → Nat} {ln n : Nat} {sd kd : Nat → Nat} {s : Sn} {am : Nat} {stk : Nat → Sn} {kp : Nat → Bool} {ks : Nat → Sn} {tm : Nat} {tc th : Nat → Nat} {td : Nat → Bool} {sed : Int64} {x : Int32} (hI : CInv H tx ln n sd kd s am stk kp ks tm tc th td sed) (hS : SpOK tx ln n sd kd s am stk kp ks tm tc th) (h : inR x 10 = false) : Cl tb 75 [.ref 0, .int x] H (fun r H' => r = some (.int (-2)) ∧ CInv H' tx ln n sd kd s am stk kp ks tm tc th td sed ∧ Off xC H H') := by
  obtain ⟨f0, fT, fH, fM, fA, fK, fL, fP⟩ := id hI
  obtain ⟨⟨b1, b2⟩, b3, b4, b5, b6, b7, b8, b9, b10, b11⟩ := id hS
  have g0 := f0
  unfold CC at g0
  obtain ⟨_, _, h16, _⟩ := id fA
  obtain ⟨a16, _⟩ := id h16
  obtain ⟨m0, m1, m2, m3, m4⟩ := id fM
  have hb : HE n < 64 := HE_lt b3
  have ha : 6 ≤ 6 := Nat.le_refl 6
  show Ev tb 75 0 [some (.ref 0), some (.int x)] [] H _
  refine ev_iload_n i75_0 rfl ?_
  refine ev_callS (vs := [.int x]) (rest := []) i75_1 ci75 lk7_98 (Or.inl rfl) np96 (by decide +kernel) (Nat.le_of_ble_eq_true rfl) ⟨rfl, rfl, Nat.le_of_ble_eq_true rfl⟩ rfl (c96) (fun r HH hq => ?_)
  obtain ⟨rfl, rfl⟩ := hq
  show Ev tb 75 4 [some (.ref 0), some (.int x)] [.int (bI (inR x 10))] H _
  refine evb_if_ne (t := 10) i75_4 (by decide) (fun z4 => by exfalso; rw [h] at z4; cases z4) (fun z4 => ?_)
  refine ev_bipush (v := (-2)) i75_7 (by decide) ?_
  refine ev_iret i75_9 (by decide +kernel) ?_
  exact ⟨rfl, hI, Off.rf⟩
theorem x75f {tb : dxT} {H : dxH} {tx : Nat → Nat} {ln n : Nat} {sd kd : Nat → Nat} {s : Sn} {am : Nat} {stk : Nat → Sn} {kp : Nat → Bool} {ks : Nat → Sn} {tm : Nat} {tc th : Nat → Nat} {td : Nat → Bool} {sed : Int64} {c : Nat} (hI : CInv H tx ln n sd kd s am stk kp ks tm tc th td sed) (hS : SpOK tx ln n sd kd s am stk kp ks tm tc th) (hc : c < 10) (h : ¬ s.2.2.1 c < 9) : Cl tb 75 [.ref 0, .int (nI c)] H (fun r H' => r = some (.int (-4)) ∧ CInv H' tx ln n sd kd s am stk kp ks tm tc th td sed ∧ Off xC H H') := by
  obtain ⟨f0, fT, fH, fM, fA, fK, fL, fP⟩ := id hI
  obtain ⟨⟨b1, b2⟩, b3, b4, b5, b6, b7, b8, b9, b10, b11⟩ := id hS
  have g0 := f0
  unfold CC at g0
  obtain ⟨_, _, h16, _⟩ := id fA
  obtain ⟨a16, _⟩ := id h16
  obtain ⟨m0, m1, m2, m3, m4⟩ := id fM
  have hb : HE n < 64 := HE_lt b3
  have ha : 6 ≤ 6 := Nat.le_refl 6
  show Ev tb 75 0 [some (.ref 0), some (.int (nI c))] [] H _
  refine ev_iload_n i75_0 rfl ?_
  refine ev_callS (vs := [.int (nI c)]) (rest := []) i75_1 ci75 lk7_98 (Or.inl rfl) np96 (by decide +kernel) (Nat.le_of_ble_eq_true rfl) ⟨rfl, rfl, Nat.le_of_ble_eq_true rfl⟩ rfl (c96n (by omega)) (fun r HH hq => ?_)
  obtain ⟨rfl, rfl⟩ := hq
  show Ev tb 75 4 [some (.ref 0), some (.int (nI c))] [.int (bI (decide (c < 10)))] H _
  refine evd_if_ne (t := 10) i75_4 (by decide) (fun z4 => ?_) (fun z4 => by exfalso; omega)
  refine ev_aload_n i75_10 rfl ?_
  refine ev_get i75_11 ci75 fl7_28 (by assumption) rfl ?_
  refine ev_iload_n i75_14 rfl ?_
  refine ev_callV (vs := [.int (nI c)]) (rest := []) i75_15 ci75 lk7_137 (congrArg (fun q => q + 1) np33) ci33 (by decide) (by decide +kernel) (Nat.le_of_ble_eq_true rfl) ⟨rfl, rfl, Nat.le_of_ble_eq_true rfl⟩ rfl (by assumption) (c33 fM hb ha b6.2.2.1.1 (by omega)) (fun r HH hq => ?_)
  obtain ⟨rfl, rfl⟩ := hq
  show Ev tb 75 18 [some (.ref 0), some (.int (nI c))] [.int (bI (decide (s.2.2.1 c < 9)))] H _
  refine evd_if_ne (t := 24) i75_18 (by decide) (fun z18 => by exfalso; omega) (fun z18 => ?_)
  refine ev_bipush (v := (-4)) i75_21 (by decide) ?_
  refine ev_iret i75_23 (by decide +kernel) ?_
  exact ⟨rfl, hI, Off.rf⟩
theorem x75 {tb : dxT} {H : dxH} {tx : Nat → Nat} {ln n : Nat} {sd kd : Nat → Nat} {s : Sn} {am : Nat} {stk : Nat → Sn} {kp : Nat → Bool} {ks : Nat → Sn} {tm : Nat} {tc th : Nat → Nat} {td : Nat → Bool} {sed : Int64} {c : Nat} (hI : CInv H tx ln n sd kd s am stk kp ks tm tc th td sed) (hS : SpOK tx ln n sd kd s am stk kp ks tm tc th) (hc : c < 10) (h : s.2.2.1 c < 9) : Cl tb 75 [.ref 0, .int (nI c)] H (fun r H' => r = some (.int (nI (s.2.2.1 c + 1))) ∧ CInv H' tx ln n sd kd (s.1, s.2.1, updN s.2.2.1 c (s.2.2.1 c + 1), s.2.2.2) (pushN am) (pushS s stk) kp ks tm tc th td sed ∧ Off xC H H') := by
  obtain ⟨f0, fT, fH, fM, fA, fK, fL, fP⟩ := id hI
  obtain ⟨⟨b1, b2⟩, b3, b4, b5, b6, b7, b8, b9, b10, b11⟩ := id hS
  have g0 := f0
  unfold CC at g0
  obtain ⟨_, _, h16, _⟩ := id fA
  obtain ⟨a16, _⟩ := id h16
  obtain ⟨m0, m1, m2, m3, m4⟩ := id fM
  have hb : HE n < 64 := HE_lt b3
  have ha : 6 ≤ 6 := Nat.le_refl 6
  show Ev tb 75 0 [some (.ref 0), some (.int (nI c))] [] H _
  refine ev_iload_n i75_0 rfl ?_
  refine ev_callS (vs := [.int (nI c)]) (rest := []) i75_1 ci75 lk7_98 (Or.inl rfl) np96 (by decide +kernel) (Nat.le_of_ble_eq_true rfl) ⟨rfl, rfl, Nat.le_of_ble_eq_true rfl⟩ rfl (c96n (by omega)) (fun r HH hq => ?_)
  obtain ⟨rfl, rfl⟩ := hq
  show Ev tb 75 4 [some (.ref 0), some (.int (nI c))] [.int (bI (decide (c < 10)))] H _
  refine evd_if_ne (t := 10) i75_4 (by decide) (fun z4 => ?_) (fun z4 => by exfalso; omega)
  refine ev_aload_n i75_10 rfl ?_
  refine ev_get i75_11 ci75 fl7_28 (by assumption) rfl ?_
  refine ev_iload_n i75_14 rfl ?_
  refine ev_callV (vs := [.int (nI c)]) (rest := []) i75_15 ci75 lk7_137 (congrArg (fun q => q + 1) np33) ci33 (by decide) (by decide +kernel) (Nat.le_of_ble_eq_true rfl) ⟨rfl, rfl, Nat.le_of_ble_eq_true rfl⟩ rfl (by assumption) (c33 fM hb ha b6.2.2.1.1 (by omega)) (fun r HH hq => ?_)
  obtain ⟨rfl, rfl⟩ := hq
  show Ev tb 75 18 [some (.ref 0), some (.int (nI c))] [.int (bI (decide (s.2.2.1 c < 9)))] H _
  refine evd_if_ne (t := 24) i75_18 (by decide) (fun z18 => ?_) (fun z18 => by exfalso; omega)
  refine ev_aload_n i75_24 rfl ?_
  refine ev_get i75_25 ci75 fl7_38 (by assumption) rfl ?_
  refine ev_aload_n i75_28 rfl ?_
  refine ev_get i75_29 ci75 fl7_28 (by assumption) rfl ?_
  refine ev_callV (vs := [.ref 6]) (rest := []) i75_32 ci75 lk7_123 (congrArg (fun q => q + 1) np3) ci3 (by decide) (by decide +kernel) (Nat.le_of_ble_eq_true rfl) ⟨rfl, rfl, Nat.le_of_ble_eq_true rfl⟩ rfl (by assumption) (c3x fA b7.1 fM b6 (by decide)) (fun r H1 hq => ?_)
  obtain ⟨rfl, fA, hO1⟩ := hq
  have f0 := f0.off hO1 (by unfold acC; omega)
  have fH := fH.off hO1 (by unfold acC; omega) (by unfold acC; omega) (by unfold acC; omega)
  have fM := fM.off hO1 (fun j u1 u2 => by unfold acC; omega)
  have g0 := f0
  unfold CC at g0
  obtain ⟨m0, m1, m2, m3, m4⟩ := id fM
  show Ev tb 75 35 [some (.ref 0), some (.int (nI c))] [] H1 _
  refine ev_aload_n i75_35 rfl ?_
  refine ev_get i75_36 ci75 fl7_28 (by assumption) rfl ?_
  refine ev_iload_n i75_39 rfl ?_
  refine ev_callV (vs := [.int (nI c)]) (rest := []) i75_40 ci75 lk7_140 (congrArg (fun q => q + 1) np34) ci34 (by decide) (by decide +kernel) (Nat.le_of_ble_eq_true rfl) ⟨rfl, rfl, Nat.le_of_ble_eq_true rfl⟩ rfl (by assumption) (c34 fM hb ha b6.2.2.1.1 (by omega)) (fun r H2 hq => ?_)
  obtain ⟨rfl, fM, hO2⟩ := hq
  rw [if_pos h] at fM
  obtain ⟨m0, m1, m2, m3, m4⟩ := id fM
  have f0 := f0.off hO2 (by unfold mdC; omega)
  have g0 := f0
  unfold CC at g0
  show Ev tb 75 43 [some (.ref 0), some (.int (nI c))] [] H2 _
  refine ev_aload_n i75_43 rfl ?_
  refine ev_get i75_44 ci75 fl7_28 (by assumption) rfl ?_
  refine ev_iload_n i75_47 rfl ?_
  refine ev_callV (vs := [.int (nI c)]) (rest := []) i75_48 ci75 lk7_101 (congrArg (fun q => q + 1) np31) ci31 (by decide) (by decide +kernel) (Nat.le_of_ble_eq_true rfl) ⟨rfl, rfl, Nat.le_of_ble_eq_true rfl⟩ rfl (by assumption) (c31 (cl := updN s.2.2.1 c (s.2.2.1 c + 1)) fM hb ha (by omega)) (fun r HH hq => ?_)
  obtain ⟨rfl, rfl⟩ := hq
  show Ev tb 75 51 [some (.ref 0), some (.int (nI c))] [.int (nI (updN s.2.2.1 c (s.2.2.1 c + 1) c))] H2 _
  refine ev_iret i75_51 (by decide +kernel) ?_
  have hOO : Off (fun j => acC j ∨ mdC 6 j) H H2 := hO1.trans hO2 (fun _ q => Or.inl q) (fun _ q => Or.inr q)
  have fT := fT.off hOO (by unfold acC mdC; omega) (by unfold acC mdC; omega)
  have fK := fK.off hOO (fun j u1 u2 => by unfold acC mdC; omega)
  have fL := fL.off hOO (fun j u1 u2 => by unfold acC mdC; omega)
  have fP := fP.off hOO (fun j u1 u2 => by unfold acC mdC; omega) (fun j u1 u2 => by unfold acC mdC; omega)
  have fH := fH.off hO2 (by unfold mdC; omega) (by unfold mdC; omega) (by unfold mdC; omega)
  have fA := fA.off hO2 (fun j u1 u2 => by unfold mdC; omega)
  refine ⟨?_, ⟨f0, fT, fH, fM, fA, fK, fL, fP⟩, hOO.weaken (fun j q => by unfold xC; rcases q with ⟨q1, q2⟩ | ⟨q1, q2⟩ <;> omega)⟩
  unfold updN
  rw [if_pos rfl]
theorem x76 {tb : dxT} {H : dxH} {tx : Nat → Nat} {ln n : Nat} {sd kd : Nat → Nat} {s : Sn} {am : Nat} {stk : Nat → Sn} {kp : Nat → Bool} {ks : Nat → Sn} {tm : Nat} {tc th : Nat → Nat} {td : Nat → Bool} {sed : Int64} (hI : CInv H tx ln n sd kd s am stk kp ks tm tc th td sed) (hS : SpOK tx ln n sd kd s am stk kp ks tm tc th) : Cl tb 76 [.ref 0] H (fun r H' => r = some (.int (bI (!s.2.1))) ∧ CInv H' tx ln n sd kd (s.1, !s.2.1, s.2.2) (pushN am) (pushS s stk) kp ks tm tc th td sed ∧ Off xC H H') := by
  obtain ⟨f0, fT, fH, fM, fA, fK, fL, fP⟩ := id hI
  obtain ⟨⟨b1, b2⟩, b3, b4, b5, b6, b7, b8, b9, b10, b11⟩ := id hS
  have g0 := f0
  unfold CC at g0
  obtain ⟨_, _, h16, _⟩ := id fA
  obtain ⟨a16, _⟩ := id h16
  obtain ⟨m0, m1, m2, m3, m4⟩ := id fM
  have hb : HE n < 64 := HE_lt b3
  have ha : 6 ≤ 6 := Nat.le_refl 6
  show Ev tb 76 0 [some (.ref 0)] [] H _
  refine ev_aload_n i76_0 rfl ?_
  refine ev_get i76_1 ci76 fl7_38 (by assumption) rfl ?_
  refine ev_aload_n i76_4 rfl ?_
  refine ev_get i76_5 ci76 fl7_28 (by assumption) rfl ?_
  refine ev_callV (vs := [.ref 6]) (rest := []) i76_8 ci76 lk7_123 (congrArg (fun q => q + 1) np3) ci3 (by decide) (by decide +kernel) (Nat.le_of_ble_eq_true rfl) ⟨rfl, rfl, Nat.le_of_ble_eq_true rfl⟩ rfl (by assumption) (c3x fA b7.1 fM b6 (by decide)) (fun r H1 hq => ?_)
  obtain ⟨rfl, fA, hO1⟩ := hq
  have f0 := f0.off hO1 (by unfold acC; omega)
  have fH := fH.off hO1 (by unfold acC; omega) (by unfold acC; omega) (by unfold acC; omega)
  have fM := fM.off hO1 (fun j u1 u2 => by unfold acC; omega)
  have g0 := f0
  unfold CC at g0
  obtain ⟨m0, m1, m2, m3, m4⟩ := id fM
  show Ev tb 76 11 [some (.ref 0)] [] H1 _
  refine ev_aload_n i76_11 rfl ?_
  refine ev_get i76_12 ci76 fl7_28 (by assumption) rfl ?_
  refine ev_aload_n i76_15 rfl ?_
  refine ev_get i76_16 ci76 fl7_28 (by assumption) rfl ?_
  refine ev_callV (vs := []) (rest := [.ref 6]) i76_19 ci76 lk7_144 (congrArg (fun q => q + 1) np35) ci35 (by decide) (by decide +kernel) (Nat.le_of_ble_eq_true rfl) ⟨rfl, rfl, Nat.le_of_ble_eq_true rfl⟩ rfl (by assumption) (c35 fM) (fun r HH hq => ?_)
  obtain ⟨rfl, rfl⟩ := hq
  show Ev tb 76 22 [some (.ref 0)] [.int (bI s.2.1), .ref 6] H1 _
  refine evb_if_ne (t := 29) i76_22 (by decide) (fun z22 => ?_) (fun z22 => ?_)
  · refine ev_iconst (v := nI 0) i76_29 (by decide) ?_
    refine ev_callV (vs := [.int (nI 0)]) (rest := []) i76_30 ci76 lk7_148 (congrArg (fun q => q + 1) np36) ci36 (by decide) (by decide +kernel) (Nat.le_of_ble_eq_true rfl) ⟨rfl, rfl, Nat.le_of_ble_eq_true rfl⟩ rfl (by assumption) (c36 (b := false) fM ha) (fun r H2 hq => ?_)
    obtain ⟨rfl, fM, hO2⟩ := hq
    obtain ⟨m0, m1, m2, m3, m4⟩ := id fM
    have f0 := f0.off hO2 (by unfold mdC; omega)
    have g0 := f0
    unfold CC at g0
    show Ev tb 76 33 [some (.ref 0)] [] H2 _
    refine ev_aload_n i76_33 rfl ?_
    refine ev_get i76_34 ci76 fl7_28 (by assumption) rfl ?_
    refine ev_callV (vs := []) (rest := []) i76_37 ci76 lk7_144 (congrArg (fun q => q + 1) np35) ci35 (by decide) (by decide +kernel) (Nat.le_of_ble_eq_true rfl) ⟨rfl, rfl, Nat.le_of_ble_eq_true rfl⟩ rfl (by assumption) (c35 fM) (fun r HH hq => ?_)
    obtain ⟨rfl, rfl⟩ := hq
    show Ev tb 76 40 [some (.ref 0)] [.int (bI false)] H2 _
    refine evb_if_eq (t := 47) i76_40 (by decide) (fun z40 => ?_) (fun z40 => by exfalso; cases z40)
    refine ev_iconst (v := nI 0) i76_47 (by decide) ?_
    refine ev_iret i76_48 (by decide +kernel) ?_
    have hOO : Off (fun j => acC j ∨ mdC 6 j) H H2 := hO1.trans hO2 (fun _ q => Or.inl q) (fun _ q => Or.inr q)
    have fT := fT.off hOO (by unfold acC mdC; omega) (by unfold acC mdC; omega)
    have fK := fK.off hOO (fun j u1 u2 => by unfold acC mdC; omega)
    have fL := fL.off hOO (fun j u1 u2 => by unfold acC mdC; omega)
    have fP := fP.off hOO (fun j u1 u2 => by unfold acC mdC; omega) (fun j u1 u2 => by unfold acC mdC; omega)
    have fH := fH.off hO2 (by unfold mdC; omega) (by unfold mdC; omega) (by unfold mdC; omega)
    have fA := fA.off hO2 (fun j u1 u2 => by unfold mdC; omega)
    rw [z22]
    exact ⟨rfl, ⟨f0, fT, fH, fM, fA, fK, fL, fP⟩, hOO.weaken (fun j q => by unfold xC; rcases q with ⟨q1, q2⟩ | ⟨q1, q2⟩ <;> omega)⟩
  · refine ev_iconst (v := nI 1) i76_25 (by decide) ?_
    refine ev_goto (t := 30) i76_26 (by decide) ?_
    refine ev_callV (vs := [.int (nI 1)]) (rest := []) i76_30 ci76 lk7_148 (congrArg (fun q => q + 1) np36) ci36 (by decide) (by decide +kernel) (Nat.le_of_ble_eq_true rfl) ⟨rfl, rfl, Nat.le_of_ble_eq_true rfl⟩ rfl (by assumption) (c36 (b := true) fM ha) (fun r H2 hq => ?_)
    obtain ⟨rfl, fM, hO2⟩ := hq
    obtain ⟨m0, m1, m2, m3, m4⟩ := id fM
    have f0 := f0.off hO2 (by unfold mdC; omega)
    have g0 := f0
    unfold CC at g0
    show Ev tb 76 33 [some (.ref 0)] [] H2 _
    refine ev_aload_n i76_33 rfl ?_
    refine ev_get i76_34 ci76 fl7_28 (by assumption) rfl ?_
    refine ev_callV (vs := []) (rest := []) i76_37 ci76 lk7_144 (congrArg (fun q => q + 1) np35) ci35 (by decide) (by decide +kernel) (Nat.le_of_ble_eq_true rfl) ⟨rfl, rfl, Nat.le_of_ble_eq_true rfl⟩ rfl (by assumption) (c35 fM) (fun r HH hq => ?_)
    obtain ⟨rfl, rfl⟩ := hq
    show Ev tb 76 40 [some (.ref 0)] [.int (bI true)] H2 _
    refine evb_if_eq (t := 47) i76_40 (by decide) (fun z40 => by exfalso; cases z40) (fun z40 => ?_)
    refine ev_iconst (v := nI 1) i76_43 (by decide) ?_
    refine ev_goto (t := 48) i76_44 (by decide) ?_
    refine ev_iret i76_48 (by decide +kernel) ?_
    have hOO : Off (fun j => acC j ∨ mdC 6 j) H H2 := hO1.trans hO2 (fun _ q => Or.inl q) (fun _ q => Or.inr q)
    have fT := fT.off hOO (by unfold acC mdC; omega) (by unfold acC mdC; omega)
    have fK := fK.off hOO (fun j u1 u2 => by unfold acC mdC; omega)
    have fL := fL.off hOO (fun j u1 u2 => by unfold acC mdC; omega)
    have fP := fP.off hOO (fun j u1 u2 => by unfold acC mdC; omega) (fun j u1 u2 => by unfold acC mdC; omega)
    have fH := fH.off hO2 (by unfold mdC; omega) (by unfold mdC; omega) (by unfold mdC; omega)
    have fA := fA.off hO2 (fun j u1 u2 => by unfold mdC; omega)
    rw [z22]
    exact ⟨rfl, ⟨f0, fT, fH, fM, fA, fK, fL, fP⟩, hOO.weaken (fun j q => by unfold xC; rcases q with ⟨q1, q2⟩ | ⟨q1, q2⟩ <;> omega)⟩
theorem x77e {tb : dxT} {H : dxH} {tx : Nat → Nat} {ln n : Nat} {sd kd : Nat → Nat} {s : Sn} {am : Nat} {stk : Nat → Sn} {kp : Nat → Bool} {ks : Nat → Sn} {tm : Nat} {tc th : Nat → Nat} {td : Nat → Bool} {sed : Int64} (hI : CInv H tx ln n sd kd s am stk kp ks tm tc th td sed) (hS : SpOK tx ln n sd kd s am stk kp ks tm tc th) (h : am = 0) : Cl tb 77 [.ref 0] H (fun r H' => r = some (.int (-3)) ∧ CInv H' tx ln n sd kd s am stk kp ks tm tc th td sed ∧ Off xC H H') := by
  obtain ⟨f0, fT, fH, fM, fA, fK, fL, fP⟩ := id hI
  obtain ⟨⟨b1, b2⟩, b3, b4, b5, b6, b7, b8, b9, b10, b11⟩ := id hS
  have g0 := f0
  unfold CC at g0
  obtain ⟨_, _, h16, _⟩ := id fA
  obtain ⟨a16, _⟩ := id h16
  obtain ⟨m0, m1, m2, m3, m4⟩ := id fM
  have hb : HE n < 64 := HE_lt b3
  have ha : 6 ≤ 6 := Nat.le_refl 6
  show Ev tb 77 0 [some (.ref 0)] [] H _
  refine ev_aload_n i77_0 rfl ?_
  refine ev_get i77_1 ci77 fl7_38 (by assumption) rfl ?_
  refine ev_callV (vs := []) (rest := []) i77_4 ci77 lk7_152 (congrArg (fun q => q + 1) np2) ci2 (by decide) (by decide +kernel) (Nat.le_of_ble_eq_true rfl) ⟨rfl, rfl, Nat.le_of_ble_eq_true rfl⟩ rfl (by assumption) (c2 h16) (fun r HH hq => ?_)
  obtain ⟨rfl, rfl⟩ := hq
  show Ev tb 77 7 [some (.ref 0)] [.int (nI am)] H _
  refine evn_if_ne (t := 13) i77_7 (by decide) (by omega) (fun z7 => by exfalso; omega) (fun z7 => ?_)
  refine ev_bipush (v := (-3)) i77_10 (by decide) ?_
  refine ev_iret i77_12 (by decide +kernel) ?_
  exact ⟨rfl, hI, Off.rf⟩
theorem x77 {tb : dxT} {H : dxH} {tx : Nat → Nat} {ln n : Nat} {sd kd : Nat → Nat} {s : Sn} {am : Nat} {stk : Nat → Sn} {kp : Nat → Bool} {ks : Nat → Sn} {tm : Nat} {tc th : Nat → Nat} {td : Nat → Bool} {sed : Int64} (hI : CInv H tx ln n sd kd s am stk kp ks tm tc th td sed) (hS : SpOK tx ln n sd kd s am stk kp ks tm tc th) (h : 0 < am) : Cl tb 77 [.ref 0] H (fun r H' => r = some (.int (nI (am - 1))) ∧ CInv H' tx ln n sd kd (stk 0) (am - 1) (fun i => stk (i + 1)) kp ks tm tc th td sed ∧ Off xC H H') := by
  obtain ⟨f0, fT, fH, fM, fA, fK, fL, fP⟩ := id hI
  obtain ⟨⟨b1, b2⟩, b3, b4, b5, b6, b7, b8, b9, b10, b11⟩ := id hS
  have g0 := f0
  unfold CC at g0
  obtain ⟨_, _, h16, _⟩ := id fA
  obtain ⟨a16, _⟩ := id h16
  obtain ⟨m0, m1, m2, m3, m4⟩ := id fM
  have hb : HE n < 64 := HE_lt b3
  have ha : 6 ≤ 6 := Nat.le_refl 6
  show Ev tb 77 0 [some (.ref 0)] [] H _
  refine ev_aload_n i77_0 rfl ?_
  refine ev_get i77_1 ci77 fl7_38 (by assumption) rfl ?_
  refine ev_callV (vs := []) (rest := []) i77_4 ci77 lk7_152 (congrArg (fun q => q + 1) np2) ci2 (by decide) (by decide +kernel) (Nat.le_of_ble_eq_true rfl) ⟨rfl, rfl, Nat.le_of_ble_eq_true rfl⟩ rfl (by assumption) (c2 h16) (fun r HH hq => ?_)
  obtain ⟨rfl, rfl⟩ := hq
  show Ev tb 77 7 [some (.ref 0)] [.int (nI am)] H _
  refine evn_if_ne (t := 13) i77_7 (by decide) (by omega) (fun z7 => ?_) (fun z7 => by exfalso; omega)
  refine ev_aload_n i77_13 rfl ?_
  refine ev_get i77_14 ci77 fl7_38 (by assumption) rfl ?_
  refine ev_aload_n i77_17 rfl ?_
  refine ev_get i77_18 ci77 fl7_28 (by assumption) rfl ?_
  refine ev_callV (vs := [.ref 6]) (rest := []) i77_21 ci77 lk7_153 (congrArg (fun q => q + 1) np4) ci4 (by decide) (by decide +kernel) (Nat.le_of_ble_eq_true rfl) ⟨rfl, rfl, Nat.le_of_ble_eq_true rfl⟩ rfl (by assumption) (c4x fA b7.1 (by omega) (fM.shp b6) (b7.2 0 (by omega)) (by decide)) (fun r H1 hq => ?_)
  obtain ⟨rfl, fA, fM, hO1⟩ := hq
  have f0 := f0.off hO1 (by unfold mdC; omega)
  have g0 := f0
  unfold CC at g0
  obtain ⟨_, _, h16, _⟩ := id fA
  obtain ⟨a16, _⟩ := id h16
  show Ev tb 77 24 [some (.ref 0)] [] H1 _
  refine ev_aload_n i77_24 rfl ?_
  refine ev_get i77_25 ci77 fl7_38 (by assumption) rfl ?_
  refine ev_callV (vs := []) (rest := []) i77_28 ci77 lk7_152 (congrArg (fun q => q + 1) np2) ci2 (by decide) (by decide +kernel) (Nat.le_of_ble_eq_true rfl) ⟨rfl, rfl, Nat.le_of_ble_eq_true rfl⟩ rfl (by assumption) (c2 h16) (fun r HH hq => ?_)
  obtain ⟨rfl, rfl⟩ := hq
  show Ev tb 77 31 [some (.ref 0)] [.int (nI (am - 1))] H1 _
  refine ev_iret i77_31 (by decide +kernel) ?_
  exact ⟨rfl, ⟨f0, fT.off hO1 (by unfold mdC; omega) (by unfold mdC; omega), fH.off hO1 (by unfold mdC; omega) (by unfold mdC; omega) (by unfold mdC; omega), fM, fA, fK.off hO1 (fun j u1 u2 => by unfold mdC; omega), fL.off hO1 (fun j u1 u2 => by unfold mdC; omega), fP.off hO1 (fun j u1 u2 => by unfold mdC; omega) (fun j u1 u2 => by unfold mdC; omega)⟩, hO1.weaken (fun j q => by unfold xC; rcases q with q | ⟨q1, q2⟩ <;> omega)⟩
theorem x91 {tb : dxT} {H : dxH} {tx : Nat → Nat} {ln n : Nat} {sd kd : Nat → Nat} {s : Sn} {am : Nat} {stk : Nat → Sn} {kp : Nat → Bool} {ks : Nat → Sn} {tm : Nat} {tc th : Nat → Nat} {td : Nat → Bool} {sed : Int64} {v : Int64} (hI : CInv H tx ln n sd kd s am stk kp ks tm tc th td sed) (hS : SpOK tx ln n sd kd s am stk kp ks tm tc th) : Cl tb 91 [.ref 0, .long v] H (fun r H' => r = some (.long sed) ∧ CInv H' tx ln n sd kd s am stk kp ks tm tc th td v ∧ Off xC H H') := by
  obtain ⟨f0, fT, fH, fM, fA, fK, fL, fP⟩ := id hI
  obtain ⟨⟨b1, b2⟩, b3, b4, b5, b6, b7, b8, b9, b10, b11⟩ := id hS
  have g0 := f0
  unfold CC at g0
  have hO : Off (fun j => j = 0) H H := Off.rf
  show Ev tb 91 0 [some (.ref 0), some (.long v), none, none, none] [] H _
  refine ev_aload_n i91_0 rfl ?_
  refine ev_get i91_1 ci91 fl7_237 (by assumption) rfl ?_
  refine ev_lstore_n (L' := [some (.ref 0), some (.long v), none, some (.long sed), none]) i91_4 ⟨Nat.le_of_ble_eq_true rfl, rfl⟩ rfl ?_
  refine ev_aload_n i91_5 rfl ?_
  refine ev_lload_n i91_6 rfl ?_
  refine evs_put (fs' := [.ref 1, .ref 3, .ref 6, .ref 11, .ref 16, .ref 89, .ref 101, .ref 102, .ref 106, .ref 108, .ref 110, .long v]) i91_7 ci91 fl7_237 (by assumption) ⟨Nat.le_of_ble_eq_true rfl, rfl, Or.inl rfl⟩ rfl (fun H1 hH1 => ?_)
  have g0 : H1[0]? = some (.inr (7, [.ref 1, .ref 3, .ref 6, .ref 11, .ref 16, .ref 89, .ref 101, .ref 102, .ref 106, .ref 108, .ref 110, .long v])) := by rw [hH1]; exact set_self g0
  have hO : Off (fun j => j = 0) H H1 := by rw [hH1]; exact hO.set (by rfl)
  refine ev_lload_n i91_10 rfl ?_
  refine ev_lret i91_11 (by decide +kernel) ?_
  exact ⟨rfl, ⟨g0, fT.off hO (by omega) (by omega), fH.off hO (by omega) (by omega) (by omega), fM.off hO (fun j u1 u2 => by omega), fA.off hO (fun j u1 u2 => by omega), fK.off hO (fun j u1 u2 => by omega), fL.off hO (fun j u1 u2 => by omega), fP.off hO (fun j u1 u2 => by omega) (fun j u1 u2 => by omega)⟩, hO.weaken (fun j q => by unfold xC; omega)⟩
theorem x87 {tb : dxT} {H : dxH} {tx : Nat → Nat} {ln n : Nat} {sd kd : Nat → Nat} {s : Sn} {am : Nat} {stk : Nat → Sn} {kp : Nat → Bool} {ks : Nat → Sn} {tm : Nat} {tc th : Nat → Nat} {td : Nat → Bool} {sed : Int64} (hI : CInv H tx ln n sd kd s am stk kp ks tm tc th td sed) (hS : SpOK tx ln n sd kd s am stk kp ks tm tc th) : Cl tb 87 [.ref 0] H (fun r H' => r = some (.int (nI tm)) ∧ CInv H' tx ln n sd kd s am stk kp ks 0 tc th td sed ∧ Off xC H H') := by
  obtain ⟨f0, fT, fH, fM, fA, fK, fL, fP⟩ := id hI
  obtain ⟨⟨b1, b2⟩, b3, b4, b5, b6, b7, b8, b9, b10, b11⟩ := id hS
  have g0 := f0
  unfold CC at g0
  obtain ⟨l0, _⟩ := id fL
  show Ev tb 87 0 [some (.ref 0), none] [] H _
  refine ev_aload_n i87_0 rfl ?_
  refine ev_get i87_1 ci87 fl7_58 (by assumption) rfl ?_
  refine ev_callV (vs := []) (rest := []) i87_4 ci87 lk7_218 (congrArg (fun q => q + 1) np63) ci63 (by decide) (by decide +kernel) (Nat.le_of_ble_eq_true rfl) ⟨rfl, rfl, Nat.le_of_ble_eq_true rfl⟩ rfl (by assumption) (c63 fL b9) (fun r HH hq => ?_)
  obtain ⟨rfl, rfl⟩ := hq
  show Ev tb 87 7 [some (.ref 0), none] [.int (nI tm)] H _
  refine ev_istore_n (L' := [some (.ref 0), some (.int (nI tm))]) i87_7 ⟨Nat.le_of_ble_eq_true rfl, rfl⟩ rfl ?_
  refine ev_aload_n i87_8 rfl ?_
  refine ev_get i87_9 ci87 fl7_58 (by assumption) rfl ?_
  refine ev_callV (vs := []) (rest := []) i87_12 ci87 lk7_219 (congrArg (fun q => q + 1) np62) ci62 (by decide) (by decide +kernel) (Nat.le_of_ble_eq_true rfl) ⟨rfl, rfl, Nat.le_of_ble_eq_true rfl⟩ rfl (by assumption) (c62 fL b9) (fun r H1 hq => ?_)
  obtain ⟨rfl, fL, hO1⟩ := hq
  show Ev tb 87 15 [some (.ref 0), some (.int (nI tm))] [] H1 _
  refine ev_iload_n i87_15 rfl ?_
  refine ev_iret i87_16 (by decide +kernel) ?_
  exact ⟨rfl, ⟨f0.off hO1 (by unfold tlC; omega), fT.off hO1 (by unfold tlC; omega) (by unfold tlC; omega), fH.off hO1 (by unfold tlC; omega) (by unfold tlC; omega) (by unfold tlC; omega), fM.off hO1 (fun j u1 u2 => by unfold tlC; omega), fA.off hO1 (fun j u1 u2 => by unfold tlC; omega), fK.off hO1 (fun j u1 u2 => by unfold tlC; omega), fL, fP.off hO1 (fun j u1 u2 => by unfold tlC; omega) (fun j u1 u2 => by unfold tlC; omega)⟩, hO1.weaken (fun j q => by unfold tlC at q; unfold xC; omega)⟩
theorem x86u {tb : dxT} {H : dxH} {tx : Nat → Nat} {ln n : Nat} {sd kd : Nat → Nat} {s : Sn} {am : Nat} {stk : Nat → Sn} {kp : Nat → Bool} {ks : Nat → Sn} {tm : Nat} {tc th : Nat → Nat} {td : Nat → Bool} {sed : Int64} {x y : Int32} {b : Bool} (hI : CInv H tx ln n sd kd s am stk kp ks tm tc th td sed) (hS : SpOK tx ln n sd kd s am stk kp ks tm tc th) (h : inR x n = false) : Cl tb 86 [.ref 0, .int x, .int y, .int (bI b)] H (fun r H' => r = some (.int (-1)) ∧ CInv H' tx ln n sd kd s am stk kp ks tm tc th td sed ∧ Off xC H H') := by
  obtain ⟨f0, fT, fH, fM, fA, fK, fL, fP⟩ := id hI
  obtain ⟨⟨b1, b2⟩, b3, b4, b5, b6, b7, b8, b9, b10, b11⟩ := id hS
  have g0 := f0
  unfold CC at g0
  obtain ⟨l0, _⟩ := id fL
  obtain ⟨u0, _⟩ := id fH
  show Ev tb 86 0 [some (.ref 0), some (.int x), some (.int y), some (.int (bI b))] [] H _
  refine ev_aload_n i86_0 rfl ?_
  refine ev_get i86_1 ci86 fl7_19 (by assumption) rfl ?_
  refine ev_iload_n i86_4 rfl ?_
  refine ev_callV (vs := [.int x]) (rest := []) i86_5 ci86 lk7_105 (congrArg (fun q => q + 1) np15) ci15 (by decide) (by decide +kernel) (Nat.le_of_ble_eq_true rfl) ⟨rfl, rfl, Nat.le_of_ble_eq_true rfl⟩ rfl (by assumption) (c15 (by assumption) (by omega)) (fun r HH hq => ?_)
  obtain ⟨rfl, rfl⟩ := hq
  show Ev tb 86 8 [some (.ref 0), some (.int x), some (.int y), some (.int (bI b))] [.int (bI (inR x n))] H _
  refine evb_if_ne (t := 13) i86_8 (by decide) (fun z8 => by exfalso; rw [h] at z8; cases z8) (fun z8 => ?_)
  refine ev_iconst (v := (-1)) i86_11 (by decide) ?_
  refine ev_iret i86_12 (by decide +kernel) ?_
  exact ⟨rfl, hI, Off.rf⟩
theorem x86o {tb : dxT} {H : dxH} {tx : Nat → Nat} {ln n : Nat} {sd kd : Nat → Nat} {s : Sn} {am : Nat} {stk : Nat → Sn} {kp : Nat → Bool} {ks : Nat → Sn} {tm : Nat} {tc th : Nat → Nat} {td : Nat → Bool} {sed : Int64} {k : Nat} {y : Int32} {b : Bool} (hI : CInv H tx ln n sd kd s am stk kp ks tm tc th td sed) (hS : SpOK tx ln n sd kd s am stk kp ks tm tc th) (hk : k < n) (h : inR y 8 = false) : Cl tb 86 [.ref 0, .int (nI k), .int y, .int (bI b)] H (fun r H' => r = some (.int (-2)) ∧ CInv H' tx ln n sd kd s am stk kp ks tm tc th td sed ∧ Off xC H H') := by
  obtain ⟨f0, fT, fH, fM, fA, fK, fL, fP⟩ := id hI
  obtain ⟨⟨b1, b2⟩, b3, b4, b5, b6, b7, b8, b9, b10, b11⟩ := id hS
  have g0 := f0
  unfold CC at g0
  obtain ⟨l0, _⟩ := id fL
  obtain ⟨u0, _⟩ := id fH
  have h1 := of_decide_eq_false h
  show Ev tb 86 0 [some (.ref 0), some (.int (nI k)), some (.int y), some (.int (bI b))] [] H _
  refine ev_aload_n i86_0 rfl ?_
  refine ev_get i86_1 ci86 fl7_19 (by assumption) rfl ?_
  refine ev_iload_n i86_4 rfl ?_
  refine ev_callV (vs := [.int (nI k)]) (rest := []) i86_5 ci86 lk7_105 (congrArg (fun q => q + 1) np15) ci15 (by decide) (by decide +kernel) (Nat.le_of_ble_eq_true rfl) ⟨rfl, rfl, Nat.le_of_ble_eq_true rfl⟩ rfl (by assumption) (c15 fH b3) (fun r HH hq => ?_)
  obtain ⟨rfl, rfl⟩ := hq
  have hin : inR (nI k) n = true := by rw [inR_n (by omega) (by omega)]; exact decide_eq_true hk
  rw [hin]
  show Ev tb 86 8 [some (.ref 0), some (.int (nI k)), some (.int y), some (.int (bI b))] [.int (bI true)] H _
  refine evb_if_ne (t := 13) i86_8 (by decide) (fun z8 => ?_) (fun z8 => by exfalso; cases z8)
  refine ev_iload_n i86_13 rfl ?_
  refine ev_if_lt (t := 23) i86_14 (by decide) (fun z14 => ?_) (fun z14 => ?_)
  · refine ev_bipush (v := (-2)) i86_23 (by decide) ?_
    refine ev_iret i86_25 (by decide +kernel) ?_
    exact ⟨rfl, hI, Off.rf⟩
  · refine ev_iload_n i86_17 rfl ?_
    refine ev_bipush (v := nI 8) i86_18 (by decide) ?_
    refine ev_icmp_lt (t := 26) i86_20 (by decide) (fun z20 => by exfalso; exact h1 ⟨z14, z20⟩) (fun z20 => ?_)
    refine ev_bipush (v := (-2)) i86_23 (by decide) ?_
    refine ev_iret i86_25 (by decide +kernel) ?_
    exact ⟨rfl, hI, Off.rf⟩
theorem x86f {tb : dxT} {H : dxH} {tx : Nat → Nat} {ln n : Nat} {sd kd : Nat → Nat} {s : Sn} {am : Nat} {stk : Nat → Sn} {kp : Nat → Bool} {ks : Nat → Sn} {tm : Nat} {tc th : Nat → Nat} {td : Nat → Bool} {sed : Int64} {k h : Nat} {b : Bool} (hI : CInv H tx ln n sd kd s am stk kp ks tm tc th td sed) (hS : SpOK tx ln n sd kd s am stk kp ks tm tc th) (hk : k < n) (hh : h < 8) (hm : ¬ tm < 6) : Cl tb 86 [.ref 0, .int (nI k), .int (nI h), .int (bI b)] H (fun r H' => r = some (.int (-4)) ∧ CInv H' tx ln n sd kd s am stk kp ks tm tc th td sed ∧ Off xC H H') := by
  obtain ⟨f0, fT, fH, fM, fA, fK, fL, fP⟩ := id hI
  obtain ⟨⟨b1, b2⟩, b3, b4, b5, b6, b7, b8, b9, b10, b11⟩ := id hS
  have g0 := f0
  unfold CC at g0
  obtain ⟨l0, _⟩ := id fL
  obtain ⟨u0, _⟩ := id fH
  show Ev tb 86 0 [some (.ref 0), some (.int (nI k)), some (.int (nI h)), some (.int (bI b))] [] H _
  refine ev_aload_n i86_0 rfl ?_
  refine ev_get i86_1 ci86 fl7_19 (by assumption) rfl ?_
  refine ev_iload_n i86_4 rfl ?_
  refine ev_callV (vs := [.int (nI k)]) (rest := []) i86_5 ci86 lk7_105 (congrArg (fun q => q + 1) np15) ci15 (by decide) (by decide +kernel) (Nat.le_of_ble_eq_true rfl) ⟨rfl, rfl, Nat.le_of_ble_eq_true rfl⟩ rfl (by assumption) (c15 fH b3) (fun r HH hq => ?_)
  obtain ⟨rfl, rfl⟩ := hq
  have hin : inR (nI k) n = true := by rw [inR_n (by omega) (by omega)]; exact decide_eq_true hk
  rw [hin]
  show Ev tb 86 8 [some (.ref 0), some (.int (nI k)), some (.int (nI h)), some (.int (bI b))] [.int (bI true)] H _
  refine evb_if_ne (t := 13) i86_8 (by decide) (fun z8 => ?_) (fun z8 => by exfalso; cases z8)
  refine ev_iload_n i86_13 rfl ?_
  refine evn_if_lt (t := 23) i86_14 (by decide) (by omega) ?_
  refine ev_iload_n i86_17 rfl ?_
  refine ev_bipush (v := nI 8) i86_18 (by decide) ?_
  refine evn_icmp_lt (t := 26) i86_20 (by decide) (by omega) (fun z20 => ?_) (fun z20 => by exfalso; omega)
  refine ev_aload_n i86_26 rfl ?_
  refine ev_get i86_27 ci86 fl7_58 (by assumption) rfl ?_
  refine ev_iload_n i86_30 rfl ?_
  refine ev_iload_n i86_31 rfl ?_
  refine ev_iload_n i86_32 rfl ?_
  refine ev_callV (vs := [.int (nI k), .int (nI h), .int (bI b)]) (rest := []) i86_33 ci86 lk7_215 (congrArg (fun q => q + 1) np64) ci64 (by decide) (by decide +kernel) (Nat.le_of_ble_eq_true rfl) ⟨rfl, rfl, Nat.le_of_ble_eq_true rfl⟩ rfl (by assumption) (c64f fL b9 hm) (fun r HH hq => ?_)
  obtain ⟨rfl, rfl⟩ := hq
  show Ev tb 86 36 [some (.ref 0), some (.int (nI k)), some (.int (nI h)), some (.int (bI b))] [.int (bI false)] H _
  refine evb_if_eq (t := 49) i86_36 (by decide) (fun z36 => ?_) (fun z36 => by exfalso; cases z36)
  refine ev_bipush (v := (-4)) i86_49 (by decide) ?_
  refine ev_iret i86_51 (by decide +kernel) ?_
  exact ⟨rfl, hI, Off.rf⟩
theorem x86 {tb : dxT} {H : dxH} {tx : Nat → Nat} {ln n : Nat} {sd kd : Nat → Nat} {s : Sn} {am : Nat} {stk : Nat → Sn} {kp : Nat → Bool} {ks : Nat → Sn} {tm : Nat} {tc th : Nat → Nat} {td : Nat → Bool} {sed : Int64} {k h : Nat} {b : Bool} (hI : CInv H tx ln n sd kd s am stk kp ks tm tc th td sed) (hS : SpOK tx ln n sd kd s am stk kp ks tm tc th) (hk : k < n) (hh : h < 8) (hm : tm < 6) : Cl tb 86 [.ref 0, .int (nI k), .int (nI h), .int (bI b)] H (fun r H' => r = some (.int (nI (tm + 1))) ∧ CInv H' tx ln n sd kd s am stk kp ks (tm + 1) (updN tc tm k) (updN th tm h) (updB td tm b) sed ∧ Off xC H H') := by
  obtain ⟨f0, fT, fH, fM, fA, fK, fL, fP⟩ := id hI
  obtain ⟨⟨b1, b2⟩, b3, b4, b5, b6, b7, b8, b9, b10, b11⟩ := id hS
  have g0 := f0
  unfold CC at g0
  obtain ⟨l0, _⟩ := id fL
  obtain ⟨u0, _⟩ := id fH
  show Ev tb 86 0 [some (.ref 0), some (.int (nI k)), some (.int (nI h)), some (.int (bI b))] [] H _
  refine ev_aload_n i86_0 rfl ?_
  refine ev_get i86_1 ci86 fl7_19 (by assumption) rfl ?_
  refine ev_iload_n i86_4 rfl ?_
  refine ev_callV (vs := [.int (nI k)]) (rest := []) i86_5 ci86 lk7_105 (congrArg (fun q => q + 1) np15) ci15 (by decide) (by decide +kernel) (Nat.le_of_ble_eq_true rfl) ⟨rfl, rfl, Nat.le_of_ble_eq_true rfl⟩ rfl (by assumption) (c15 fH b3) (fun r HH hq => ?_)
  obtain ⟨rfl, rfl⟩ := hq
  have hin : inR (nI k) n = true := by rw [inR_n (by omega) (by omega)]; exact decide_eq_true hk
  rw [hin]
  show Ev tb 86 8 [some (.ref 0), some (.int (nI k)), some (.int (nI h)), some (.int (bI b))] [.int (bI true)] H _
  refine evb_if_ne (t := 13) i86_8 (by decide) (fun z8 => ?_) (fun z8 => by exfalso; cases z8)
  refine ev_iload_n i86_13 rfl ?_
  refine evn_if_lt (t := 23) i86_14 (by decide) (by omega) ?_
  refine ev_iload_n i86_17 rfl ?_
  refine ev_bipush (v := nI 8) i86_18 (by decide) ?_
  refine evn_icmp_lt (t := 26) i86_20 (by decide) (by omega) (fun z20 => ?_) (fun z20 => by exfalso; omega)
  refine ev_aload_n i86_26 rfl ?_
  refine ev_get i86_27 ci86 fl7_58 (by assumption) rfl ?_
  refine ev_iload_n i86_30 rfl ?_
  refine ev_iload_n i86_31 rfl ?_
  refine ev_iload_n i86_32 rfl ?_
  refine ev_callV (vs := [.int (nI k), .int (nI h), .int (bI b)]) (rest := []) i86_33 ci86 lk7_215 (congrArg (fun q => q + 1) np64) ci64 (by decide) (by decide +kernel) (Nat.le_of_ble_eq_true rfl) ⟨rfl, rfl, Nat.le_of_ble_eq_true rfl⟩ rfl (by assumption) (c64t fL b9 hm) (fun r H1 hq => ?_)
  obtain ⟨rfl, fL, hO1⟩ := hq
  have f0 := f0.off hO1 (by unfold tlC; omega)
  have g0 := f0
  unfold CC at g0
  obtain ⟨l0, _⟩ := id fL
  show Ev tb 86 36 [some (.ref 0), some (.int (nI k)), some (.int (nI h)), some (.int (bI b))] [.int (bI true)] H1 _
  refine evb_if_eq (t := 49) i86_36 (by decide) (fun z36 => by exfalso; cases z36) (fun z36 => ?_)
  refine ev_aload_n i86_39 rfl ?_
  refine ev_get i86_40 ci86 fl7_58 (by assumption) rfl ?_
  refine ev_callV (vs := []) (rest := []) i86_43 ci86 lk7_218 (congrArg (fun q => q + 1) np63) ci63 (by decide) (by decide +kernel) (Nat.le_of_ble_eq_true rfl) ⟨rfl, rfl, Nat.le_of_ble_eq_true rfl⟩ rfl (by assumption) (c63 fL (by omega)) (fun r HH hq => ?_)
  obtain ⟨rfl, rfl⟩ := hq
  show Ev tb 86 46 [some (.ref 0), some (.int (nI k)), some (.int (nI h)), some (.int (bI b))] [.int (nI (tm + 1))] H1 _
  refine ev_goto (t := 51) i86_46 (by decide) ?_
  refine ev_iret i86_51 (by decide +kernel) ?_
  exact ⟨rfl, ⟨f0, fT.off hO1 (by unfold tlC; omega) (by unfold tlC; omega), fH.off hO1 (by unfold tlC; omega) (by unfold tlC; omega) (by unfold tlC; omega), fM.off hO1 (fun j u1 u2 => by unfold tlC; omega), fA.off hO1 (fun j u1 u2 => by unfold tlC; omega), fK.off hO1 (fun j u1 u2 => by unfold tlC; omega), fL, fP.off hO1 (fun j u1 u2 => by unfold tlC; omega) (fun j u1 u2 => by unfold tlC; omega)⟩, hO1.weaken (fun j q => by unfold tlC at q; unfold xC; omega)⟩
