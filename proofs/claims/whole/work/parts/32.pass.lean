/-! the class's calls: fault, pass  -/
def telP (tx : Nat → Nat) (ln : Nat) (sd kd : Nat → Nat) (s : Sn) : Tl := telL tx ln 64 1 (0, sd, kd, fun _ => 0, s.1, s.2.2.2.1)
def tlS (t : Tl) : Sn := (t.2.2.2.2.1, false, (t.2.2.2.1, t.2.2.2.2.2, (fun _ => 0), 0, 0))
theorem fplP_ok {tx : Nat → Nat} {ln : Nat} (h : fplP tx ln = -9) : (0 < ln ∧ tx 0 = 77) ∧ fplL tx ln 64 0 0 1 = -9 := by
  unfold fplP at h
  by_cases h1 : 0 < ln
  · rw [if_pos h1] at h
    by_cases h2 : tx 0 = 77
    · rw [if_pos h2] at h
      exact ⟨⟨h1, h2⟩, h⟩
    · rw [if_neg h2] at h
      exact absurd h (m9_ne (by omega))
  · rw [if_neg h1] at h
    exact absurd h (m9_ne (by omega))
theorem ActM.emp {H : dxH} {n n' : Nat} {stk : Nat → Sn} (h : ActM H n 0 stk) : ActM H n' 0 stk := by
  obtain ⟨fi, h1, h2, h3, _⟩ := h
  exact ⟨fi, h1, h2, h3, fun i hi => absurd hi (Nat.not_lt_zero _)⟩
theorem KepM.emp {H H' : dxH} {n n' : Nat} {kp kp' : Nat → Bool} {ks : Nat → Sn} {A : Nat → Prop} (h : KepM H n kp ks) (hO : Off A H H') (hA : ∀ j, 89 ≤ j → j ≤ 100 → ¬ A j) (h1 : H'[101]? = some (ZA 2 kp')) (hk : ∀ i, i < 2 → kp' i = false) : KepM H' n' kp' ks := by
  obtain ⟨a1, _, a3, _⟩ := h
  refine ⟨a1.off hO (hA _ (by decide) (by decide)) (hA _ (by decide) (by decide)), h1, fun i hi => (a3 i hi).off hO (fun j a b => hA j (by omega) (by omega)), fun i hi hq => ?_⟩
  rw [hk i hi] at hq
  cases hq
theorem tel_sp {tx : Nat → Nat} {ln n : Nat} {sd kd : Nat → Nat} {s : Sn} {am : Nat} {stk stk' : Nat → Sn} {kp kp' : Nat → Bool} {ks : Nat → Sn} {tm : Nat} {tc th : Nat → Nat} (hS : SpOK tx ln n sd kd s am stk kp ks tm tc th) (h : fplP tx ln = -9) (hk : ∀ i, i < 2 → kp' i = false) : SpOK tx ln (telP tx ln sd kd s).1 (telP tx ln sd kd s).2.1 (telP tx ln sd kd s).2.2.1 (tlS (telP tx ln sd kd s)) 0 stk' kp' ks tm tc th := by
  obtain ⟨⟨b1, b2⟩, b3, b4, b5, b6, b7, b8, b9, b10, b11⟩ := id hS
  obtain ⟨tk, h1, h2, h3, h4, h5, h6, h7, h8, h9⟩ := tel_ok b1 64 0 0 1 (0, sd, kd, fun _ => 0, s.1, s.2.2.2.1) (fplP_ok h).2 (by decide) ⟨(show (0 : Nat) = popN 0 by decide), Nat.zero_le _, b4, b5, ⟨fun _ => (show (0 : Nat) < 10 by decide), fun _ _ => rfl⟩, ⟨b6.1, b6.2.1⟩, ⟨b6.2.2.1.2.1, b6.2.2.1.2.2.2.1⟩, fun i hi => absurd hi (Nat.not_lt_zero _), fun i j hi => absurd hi (Nat.not_lt_zero _)⟩
  exact ⟨⟨b1, b2⟩, h2, h3, h4, ⟨h6.1, h6.2, ⟨h5.1, h7.1, h5.2, h7.2, fun _ _ => rfl⟩, h9⟩, ⟨by decide, fun i hi => absurd hi (Nat.not_lt_zero _)⟩, fun i hi hq => (by rw [hk i hi] at hq; cases hq), b9, b10, b11⟩
theorem x69 {tb : dxT} {H : dxH} {tx : Nat → Nat} {ln n : Nat} {sd kd : Nat → Nat} {s : Sn} {am : Nat} {stk : Nat → Sn} {kp : Nat → Bool} {ks : Nat → Sn} {tm : Nat} {tc th : Nat → Nat} {td : Nat → Bool} {sed : Int64} (hI : CInv H tx ln n sd kd s am stk kp ks tm tc th td sed) (hS : SpOK tx ln n sd kd s am stk kp ks tm tc th) (hTb : tbOK tb) : Cl tb 69 [.ref 0] H (fun r H' => r = some (.int (fplP tx ln)) ∧ CInv H' tx ln n sd kd s am stk kp ks tm tc th td sed ∧ Off xC H H') := by
  obtain ⟨f0, fT, fH, fM, fA, fK, fL, fP⟩ := id hI
  obtain ⟨⟨b1, b2⟩, b3, b4, b5, b6, b7, b8, b9, b10, b11⟩ := id hS
  have g0 := f0
  unfold CC at g0
  obtain ⟨x0, _⟩ := id fT
  show Ev tb 69 0 [some (.ref 0)] [] H _
  refine ev_aload_n i69_0 rfl ?_
  refine ev_get i69_1 ci69 fl7_10 (by assumption) rfl ?_
  refine ev_callV (vs := []) (rest := []) i69_4 ci69 lk7_87 (congrArg (fun q => q + 1) np54) ci54 (by decide) (by decide +kernel) (Nat.le_of_ble_eq_true rfl) ⟨rfl, rfl, Nat.le_of_ble_eq_true rfl⟩ rfl (by assumption) (c54 hTb fT b1 b2) (fun r HH hq => ?_)
  obtain ⟨rfl, rfl⟩ := hq
  show Ev tb 69 7 [some (.ref 0)] [.int (fplP tx ln)] H _
  refine ev_iret i69_7 (by decide +kernel) ?_
  exact ⟨rfl, hI, Off.rf⟩
theorem x70f {tb : dxT} {H : dxH} {tx : Nat → Nat} {ln n : Nat} {sd kd : Nat → Nat} {s : Sn} {am : Nat} {stk : Nat → Sn} {kp : Nat → Bool} {ks : Nat → Sn} {tm : Nat} {tc th : Nat → Nat} {td : Nat → Bool} {sed : Int64} (hI : CInv H tx ln n sd kd s am stk kp ks tm tc th td sed) (hS : SpOK tx ln n sd kd s am stk kp ks tm tc th) (hTb : tbOK tb) (h : ¬ fplP tx ln = -9) : Cl tb 70 [.ref 0] H (fun r H' => r = some (.int (-3)) ∧ CInv H' tx ln n sd kd s am stk kp ks tm tc th td sed ∧ Off xC H H') := by
  obtain ⟨f0, fT, fH, fM, fA, fK, fL, fP⟩ := id hI
  obtain ⟨⟨b1, b2⟩, b3, b4, b5, b6, b7, b8, b9, b10, b11⟩ := id hS
  have g0 := f0
  unfold CC at g0
  obtain ⟨x0, _⟩ := id fT
  show Ev tb 70 0 [some (.ref 0), none] [] H _
  refine ev_aload_n i70_0 rfl ?_
  refine ev_get i70_1 ci70 fl7_10 (by assumption) rfl ?_
  refine ev_callV (vs := []) (rest := []) i70_4 ci70 lk7_87 (congrArg (fun q => q + 1) np54) ci54 (by decide) (by decide +kernel) (Nat.le_of_ble_eq_true rfl) ⟨rfl, rfl, Nat.le_of_ble_eq_true rfl⟩ rfl (by assumption) (c54 hTb fT b1 b2) (fun r HH hq => ?_)
  obtain ⟨rfl, rfl⟩ := hq
  show Ev tb 70 7 [some (.ref 0), none] [.int (fplP tx ln)] H _
  refine ev_bipush (v := (-9)) i70_7 (by decide) ?_
  refine ev_icmp_eq (t := 15) i70_9 (by decide) (fun z9 => by exfalso; exact absurd z9 h) (fun z9 => ?_)
  refine ev_bipush (v := (-3)) i70_12 (by decide) ?_
  refine ev_iret i70_14 (by decide +kernel) ?_
  exact ⟨rfl, hI, Off.rf⟩
def nkC : Nat → Prop := fun j => (3 ≤ j ∧ j ≤ 10) ∨ j = 16
theorem x70 {tb : dxT} {H : dxH} {tx : Nat → Nat} {ln n : Nat} {sd kd : Nat → Nat} {s : Sn} {am : Nat} {stk : Nat → Sn} {kp : Nat → Bool} {ks : Nat → Sn} {tm : Nat} {tc th : Nat → Nat} {td : Nat → Bool} {sed : Int64} (hI : CInv H tx ln n sd kd s am stk kp ks tm tc th td sed) (hS : SpOK tx ln n sd kd s am stk kp ks tm tc th) (hTb : tbOK tb) (h : fplP tx ln = -9) : Cl tb 70 [.ref 0] H (fun r H' => r = some (.int (nI (telP tx ln sd kd s).1)) ∧ CInv H' tx ln ((telP tx ln sd kd s).1) ((telP tx ln sd kd s).2.1) ((telP tx ln sd kd s).2.2.1) (tlS (telP tx ln sd kd s)) 0 stk (updB (updB kp 0 false) 1 false) ks tm tc th td sed ∧ Off xC H H') := by
  obtain ⟨f0, fT, fH, fM, fA, fK, fL, fP⟩ := id hI
  obtain ⟨⟨b1, b2⟩, b3, b4, b5, b6, b7, b8, b9, b10, b11⟩ := id hS
  obtain ⟨_, k0, _, _⟩ := id fK
  have g0 := f0
  unfold CC at g0
  obtain ⟨x0, _⟩ := id fT
  obtain ⟨u0, _⟩ := id fH
  obtain ⟨m0, _⟩ := id fM
  obtain ⟨_, _, ⟨y0, _⟩, _⟩ := id fA
  show Ev tb 70 0 [some (.ref 0), none] [] H _
  refine ev_aload_n i70_0 rfl ?_
  refine ev_get i70_1 ci70 fl7_10 (by assumption) rfl ?_
  refine ev_callV (vs := []) (rest := []) i70_4 ci70 lk7_87 (congrArg (fun q => q + 1) np54) ci54 (by decide) (by decide +kernel) (Nat.le_of_ble_eq_true rfl) ⟨rfl, rfl, Nat.le_of_ble_eq_true rfl⟩ rfl (by assumption) (c54 hTb fT b1 b2) (fun r HH hq => ?_)
  obtain ⟨rfl, rfl⟩ := hq
  show Ev tb 70 7 [some (.ref 0), none] [.int (fplP tx ln)] H _
  refine ev_bipush (v := (-9)) i70_7 (by decide) ?_
  refine ev_icmp_eq (t := 15) i70_9 (by decide) (fun z9 => ?_) (fun z9 => by exfalso; exact absurd h z9)
  refine ev_aload_n i70_15 rfl ?_
  refine ev_get i70_16 ci70 fl7_19 (by assumption) rfl ?_
  refine ev_callV (vs := []) (rest := []) i70_19 ci70 lk7_90 (congrArg (fun q => q + 1) np12) ci12 (by decide) (by decide +kernel) (Nat.le_of_ble_eq_true rfl) ⟨rfl, rfl, Nat.le_of_ble_eq_true rfl⟩ rfl (by assumption) (c12 fH) (fun r H1 hq => ?_)
  obtain ⟨rfl, fH, hO1⟩ := hq
  have f0 := f0.off hO1 (by unfold hdC; omega)
  have fT := fT.off hO1 (by unfold hdC; omega) (by unfold hdC; omega)
  have fM := fM.off hO1 (fun j u1 u2 => (by unfold hdC; omega))
  have fA := fA.off hO1 (fun j u1 u2 => (by unfold hdC; omega))
  have fL := fL.off hO1 (fun j u1 u2 => (by unfold hdC; omega))
  have fP := fP.off hO1 (fun j u1 u2 => (by unfold hdC; omega)) (fun j u1 u2 => (by unfold hdC; omega))
  have hN1 : Off nkC H H1 := hO1.weaken (fun j q => by unfold hdC at q; unfold nkC; omega)
  have g0 := f0
  unfold CC at g0
  obtain ⟨x0, _⟩ := id fT
  obtain ⟨u0, _⟩ := id fH
  obtain ⟨m0, _⟩ := id fM
  obtain ⟨_, _, ⟨y0, _⟩, _⟩ := id fA
  have k1 := hN1.at k0 (by unfold nkC; omega)
  show Ev tb 70 22 [some (.ref 0), none] [] H1 _
  refine ev_aload_n i70_22 rfl ?_
  refine ev_get i70_23 ci70 fl7_28 (by assumption) rfl ?_
  refine ev_callV (vs := []) (rest := []) i70_26 ci70 lk7_91 (congrArg (fun q => q + 1) np19) ci19 (by decide) (by decide +kernel) (Nat.le_of_ble_eq_true rfl) ⟨rfl, rfl, Nat.le_of_ble_eq_true rfl⟩ rfl (by assumption) (c19 (by decide) fM b6.2.2.1.2.2.1 b6.2.2.1.2.2.2.2) (fun r H2 hq => ?_)
  obtain ⟨rfl, fM, hO2⟩ := hq
  have f0 := f0.off hO2 (by unfold mdC; omega)
  have fT := fT.off hO2 (by unfold mdC; omega) (by unfold mdC; omega)
  have fH := fH.off hO2 (by unfold mdC; omega) (by unfold mdC; omega) (by unfold mdC; omega)
  have fA := fA.off hO2 (fun j u1 u2 => (by unfold mdC; omega))
  have fL := fL.off hO2 (fun j u1 u2 => (by unfold mdC; omega))
  have fP := fP.off hO2 (fun j u1 u2 => (by unfold mdC; omega)) (fun j u1 u2 => (by unfold mdC; omega))
  have hN2 : Off nkC H H2 := hN1.trans (hO2.weaken (fun j q => by unfold mdC at q; unfold nkC; omega)) (fun _ q => q) (fun _ q => q)
  have g0 := f0
  unfold CC at g0
  obtain ⟨x0, _⟩ := id fT
  obtain ⟨u0, _⟩ := id fH
  obtain ⟨m0, _⟩ := id fM
  obtain ⟨_, _, ⟨y0, _⟩, _⟩ := id fA
  have k1 := hN2.at k0 (by unfold nkC; omega)
  show Ev tb 70 29 [some (.ref 0), none] [] H2 _
  refine ev_aload_n i70_29 rfl ?_
  refine ev_get i70_30 ci70 fl7_10 (by assumption) rfl ?_
  refine ev_aload_n i70_33 rfl ?_
  refine ev_get i70_34 ci70 fl7_28 (by assumption) rfl ?_
  refine ev_callV (vs := [.ref 6]) (rest := []) i70_37 ci70 lk7_92 (congrArg (fun q => q + 1) np56) ci56 (by decide) (by decide +kernel) (Nat.le_of_ble_eq_true rfl) ⟨rfl, rfl, Nat.le_of_ble_eq_true rfl⟩ rfl (by assumption) (c56 (t := (0, sd, kd, fun _ => 0, s.1, s.2.2.2.1)) b1 b2 (fplP_ok h).2 rfl fT fH fM) (fun r H3 hq => ?_)
  obtain ⟨rfl, fH, fM, hO3⟩ := hq
  have f0 := f0.off hO3 (by unfold adC hdC mdC; omega)
  have fT := fT.off hO3 (by unfold adC hdC mdC; omega) (by unfold adC hdC mdC; omega)
  have fA := fA.off hO3 (fun j u1 u2 => (by unfold adC hdC mdC; omega))
  have fL := fL.off hO3 (fun j u1 u2 => (by unfold adC hdC mdC; omega))
  have fP := fP.off hO3 (fun j u1 u2 => (by unfold adC hdC mdC; omega)) (fun j u1 u2 => (by unfold adC hdC mdC; omega))
  have hN3 : Off nkC H H3 := hN2.trans (hO3.weaken (fun j q => by unfold adC hdC mdC at q; unfold nkC; omega)) (fun _ q => q) (fun _ q => q)
  have g0 := f0
  unfold CC at g0
  obtain ⟨x0, _⟩ := id fT
  obtain ⟨u0, _⟩ := id fH
  obtain ⟨m0, _⟩ := id fM
  obtain ⟨_, _, ⟨y0, _⟩, _⟩ := id fA
  have k1 := hN3.at k0 (by unfold nkC; omega)
  show Ev tb 70 40 [some (.ref 0), none] [] H3 _
  refine ev_aload_n i70_40 rfl ?_
  refine ev_get i70_41 ci70 fl7_38 (by assumption) rfl ?_
  refine ev_callV (vs := []) (rest := []) i70_44 ci70 lk7_96 (congrArg (fun q => q + 1) np1) ci1 (by decide) (by decide +kernel) (Nat.le_of_ble_eq_true rfl) ⟨rfl, rfl, Nat.le_of_ble_eq_true rfl⟩ rfl (by assumption) (c1x fA) (fun r H4 hq => ?_)
  obtain ⟨rfl, fA, hO4⟩ := hq
  have f0 := f0.off hO4 (by unfold actC; omega)
  have fT := fT.off hO4 (by unfold actC; omega) (by unfold actC; omega)
  have fH := fH.off hO4 (by unfold actC; omega) (by unfold actC; omega) (by unfold actC; omega)
  have fM := fM.off hO4 (fun j u1 u2 => (by unfold actC; omega))
  have fL := fL.off hO4 (fun j u1 u2 => (by unfold actC; omega))
  have fP := fP.off hO4 (fun j u1 u2 => (by unfold actC; omega)) (fun j u1 u2 => (by unfold actC; omega))
  have hN4 : Off nkC H H4 := hN3.trans (hO4.weaken (fun j q => by unfold actC at q; unfold nkC; omega)) (fun _ q => q) (fun _ q => q)
  have g0 := f0
  unfold CC at g0
  obtain ⟨x0, _⟩ := id fT
  obtain ⟨u0, _⟩ := id fH
  obtain ⟨m0, _⟩ := id fM
  obtain ⟨_, _, ⟨y0, _⟩, _⟩ := id fA
  have k1 := hN4.at k0 (by unfold nkC; omega)
  show Ev tb 70 47 [some (.ref 0), none] [] H4 _
  refine ev_iconst (v := nI 0) i70_47 (by decide) ?_
  refine ev_istore_n (L' := [some (.ref 0), some (.int (nI 0))]) i70_48 ⟨Nat.le_of_ble_eq_true rfl, rfl⟩ rfl ?_
  refine ev_iload_n i70_49 rfl ?_
  refine ev_iconst (v := nI 2) i70_50 (by decide) ?_
  refine evn_icmp_ge (t := 67) i70_51 (by decide) (by omega) (fun z51 => by exfalso; omega) (fun z51 => ?_)
  refine ev_aload_n i70_54 rfl ?_
  refine ev_get i70_55 ci70 fl7_51 (by assumption) rfl ?_
  refine ev_iload_n i70_58 rfl ?_
  refine ev_iconst (v := nI 0) i70_59 (by decide) ?_
  refine evz_bastf i70_60 (by assumption) (by omega) (fun H5 hH5 => ?_)
  have k1 : H5[101]? = some (ZA 2 (updB kp 0 false)) := by rw [hH5]; exact set_self k1
  have g0 : H5[0]? = some (.inr (7, [.ref 1, .ref 3, .ref 6, .ref 11, .ref 16, .ref 89, .ref 101, .ref 102, .ref 106, .ref 108, .ref 110, .long sed])) := by rw [hH5]; exact set_ne g0 (by omega)
  refine evn_iinc (d := 1) (L' := [some (.ref 0), some (.int (nI 1))]) i70_61 rfl rfl (by decide) rfl ?_
  refine ev_goto (t := 49) i70_64 (by decide) ?_
  refine ev_iload_n i70_49 rfl ?_
  refine ev_iconst (v := nI 2) i70_50 (by decide) ?_
  refine evn_icmp_ge (t := 67) i70_51 (by decide) (by omega) (fun z51 => by exfalso; omega) (fun z51 => ?_)
  refine ev_aload_n i70_54 rfl ?_
  refine ev_get i70_55 ci70 fl7_51 (by assumption) rfl ?_
  refine ev_iload_n i70_58 rfl ?_
  refine ev_iconst (v := nI 0) i70_59 (by decide) ?_
  refine evz_bastf i70_60 (by assumption) (by omega) (fun H6 hH6 => ?_)
  have k1 : H6[101]? = some (ZA 2 (updB (updB kp 0 false) 1 false)) := by rw [hH6]; exact set_self k1
  have g0 : H6[0]? = some (.inr (7, [.ref 1, .ref 3, .ref 6, .ref 11, .ref 16, .ref 89, .ref 101, .ref 102, .ref 106, .ref 108, .ref 110, .long sed])) := by rw [hH6]; exact set_ne g0 (by omega)
  refine evn_iinc (d := 1) (L' := [some (.ref 0), some (.int (nI 2))]) i70_61 rfl rfl (by decide) rfl ?_
  refine ev_goto (t := 49) i70_64 (by decide) ?_
  refine ev_iload_n i70_49 rfl ?_
  refine ev_iconst (v := nI 2) i70_50 (by decide) ?_
  refine evn_icmp_ge (t := 67) i70_51 (by decide) (by omega) (fun z51 => ?_) (fun z51 => by exfalso; omega)
  refine ev_aload_n i70_67 rfl ?_
  refine ev_get i70_68 ci70 fl7_19 (by assumption) rfl ?_
  have fHe := fH.off (H' := H6) (A := fun j => j = 101) (by rw [hH6, hH5]; exact Off.set (A := fun j => j = 101) (Off.set (A := fun j => j = 101) Off.rf rfl) rfl) (by omega) (by omega) (by omega)
  obtain ⟨u0, _⟩ := id fHe
  refine ev_callV (vs := []) (rest := []) i70_71 ci70 lk7_97 (congrArg (fun q => q + 1) np14) ci14 (by decide) (by decide +kernel) (Nat.le_of_ble_eq_true rfl) ⟨rfl, rfl, Nat.le_of_ble_eq_true rfl⟩ rfl (by assumption) (c14 fHe) (fun r HH hq => ?_)
  obtain ⟨rfl, rfl⟩ := hq
  show Ev tb 70 74 [some (.ref 0), some (.int (nI 2))] [.int (nI ((telP tx ln sd kd s).1))] H6 _
  refine ev_iret i70_74 (by decide +kernel) ?_
  have hX : Off (fun j => j = 101) H4 H6 := by rw [hH6, hH5]; exact Off.set (A := fun j => j = 101) (Off.set (A := fun j => j = 101) Off.rf rfl) rfl
  have hW : Off (fun j => nkC j ∨ j = 101) H H6 := hN4.trans hX (fun _ q => Or.inl q) (fun _ q => Or.inr q)
  exact ⟨rfl, ⟨f0.off hX (by omega), fT.off hX (by omega) (by omega), fH.off hX (by omega) (by omega) (by omega), MdwAt.off fM hX (fun j u1 u2 => by omega), (fA.off hX (fun j u1 u2 => by omega)).emp, fK.emp hW (fun j u1 u2 => by unfold nkC; omega) k1 (fun i hi => by rcases (show i = 0 ∨ i = 1 by omega) with rfl | rfl <;> rfl), fL.off hX (fun j u1 u2 => by omega), fP.off hX (fun j u1 u2 => by omega) (fun j u1 u2 => by omega)⟩, hW.weaken (fun j q => by unfold nkC at q; unfold xC; omega)⟩
