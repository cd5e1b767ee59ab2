/-! the class as a whole: what holds of its cells (0 to 110) -/
abbrev Sn : Type := (Nat → Nat) × Bool × Hs
def HE (n : Nat) : Nat := 2 ^ n - 1
def CC (H : dxH) (sed : Int64) : Prop := H[0]? = some (.inr (7, [.ref 1, .ref 3, .ref 6, .ref 11, .ref 16, .ref 89, .ref 101, .ref 102, .ref 106, .ref 108, .ref 110, .long sed]))
def MdX (H : dxH) (a n : Nat) (s : Sn) : Prop := MdS H a s.1 (HE n) s.2.1 s.2.2
def SnOK (n : Nat) (s : Sn) : Prop := (∀ j, s.1 j < 10) ∧ Vn 6 s.1 ∧ SOK s.2.2 ∧ ∀ i j, i < n → j < n → s.1 i = s.1 j → i = j
def ActM (H : dxH) (n am : Nat) (stk : Nat → Sn) : Prop := ∃ fi, fi < 14 ∧ ActAt H fi am ∧ (∀ i, i < 14 → ShpM H (19 + 5 * i)) ∧ ∀ i, i < am → MdX H (19 + 5 * ((fi + (am - 1 - i)) % 14)) n (stk i)
def KepM (H : dxH) (n : Nat) (kp : Nat → Bool) (ks : Nat → Sn) : Prop := ShfAt H 89 2 91 ∧ H[101]? = some (ZA 2 kp) ∧ (∀ i, i < 2 → ShpM H (91 + 5 * i)) ∧ ∀ i, i < 2 → kp i = true → MdX H (91 + 5 * i) n (ks i)
def TmpM (H : dxH) : Prop := ShpM H 11 ∧ (∃ l, ChAt H 106 l) ∧ (∃ l, ChAt H 108 l) ∧ ∃ f : Nat → Int32, H[110]? = some (.inl (0, 176, .inl f))
/-- what must hold of the numbers -/
def SpOK (tx : Nat → Nat) (ln n : Nat) (sd kd : Nat → Nat) (s : Sn) (am : Nat) (stk : Nat → Sn) (kp : Nat → Bool) (ks : Nat → Sn) (tm : Nat) (tc th : Nat → Nat) : Prop :=
  (ln ≤ 64 ∧ ∀ j, tx j < 256) ∧ n ≤ 6 ∧ (∀ j, sd j < 2) ∧ (∀ j, kd j < 4) ∧ SnOK n s ∧ (am ≤ 14 ∧ ∀ i, i < am → SnOK n (stk i)) ∧ (∀ i, i < 2 → kp i = true → SnOK n (ks i)) ∧ tm ≤ 6 ∧ (∀ j, tc j < 6) ∧ ∀ j, th j < 8
def CInv (H : dxH) (tx : Nat → Nat) (ln n : Nat) (sd kd : Nat → Nat) (s : Sn) (am : Nat) (stk : Nat → Sn) (kp : Nat → Bool) (ks : Nat → Sn) (tm : Nat) (tc th : Nat → Nat) (td : Nat → Bool) (sed : Int64) : Prop :=
  CC H sed ∧ TxtAt H tx ln ∧ HrdAt H n sd kd ∧ MdX H 6 n s ∧ ActM H n am stk ∧ KepM H n kp ks ∧ TelAt H tc th td tm ∧ TmpM H
theorem MdX.off {H H' : dxH} {a n : Nat} {s : Sn} {A : Nat → Prop} (h : MdX H a n s) (hO : Off A H H') (hA : ∀ j, a ≤ j → j ≤ a + 4 → ¬ A j) : MdX H' a n s := MdwAt.off h hO hA
theorem MdX.shp {H : dxH} {a n : Nat} {s : Sn} (h : MdX H a n s) (hs : SnOK n s) : ShpM H a := ⟨_, _, _, _, _, _, _, _, h, hs.2.2.1.2.2.1, hs.2.1, hs.2.2.1.2.2.2.1, hs.2.2.1.2.2.2.2⟩
theorem ActM.off {H H' : dxH} {n am : Nat} {stk : Nat → Sn} {A : Nat → Prop} (h : ActM H n am stk) (hO : Off A H H') (hA : ∀ j, 16 ≤ j → j ≤ 88 → ¬ A j) : ActM H' n am stk := by
  obtain ⟨fi, h1, h2, h3, h4⟩ := h
  refine ⟨fi, h1, h2.off hO (hA _ (by decide) (by decide)) (hA _ (by decide) (by decide)) (hA _ (by decide) (by decide)), fun i hi => (h3 i hi).off hO (fun j a b => hA j (by omega) (by omega)), fun i hi => (h4 i hi).off hO (fun j a b => hA j (by omega) (by omega))⟩
theorem KepM.off {H H' : dxH} {n : Nat} {kp : Nat → Bool} {ks : Nat → Sn} {A : Nat → Prop} (h : KepM H n kp ks) (hO : Off A H H') (hA : ∀ j, 89 ≤ j → j ≤ 101 → ¬ A j) : KepM H' n kp ks := by
  obtain ⟨h1, h2, h3, h4⟩ := h
  exact ⟨h1.off hO (hA _ (by decide) (by decide)) (hA _ (by decide) (by decide)), hO.at h2 (hA _ (by decide) (by decide)), fun i hi => (h3 i hi).off hO (fun j a b => hA j (by omega) (by omega)), fun i hi hk => (h4 i hi hk).off hO (fun j a b => hA j (by omega) (by omega))⟩
theorem TmpM.off {H H' : dxH} {A : Nat → Prop} (h : TmpM H) (hO : Off A H H') (h1 : ∀ j, 11 ≤ j → j ≤ 15 → ¬ A j) (h2 : ∀ j, 106 ≤ j → j ≤ 110 → ¬ A j) : TmpM H' := by
  obtain ⟨a1, ⟨l, a2⟩, ⟨l', a3⟩, f, a4⟩ := h
  exact ⟨a1.off hO h1, ⟨l, a2.off hO (h2 _ (by decide) (by decide)) (h2 _ (by decide) (by decide))⟩, ⟨l', a3.off hO (h2 _ (by decide) (by decide)) (h2 _ (by decide) (by decide))⟩, f, hO.at a4 (h2 _ (by decide) (by decide))⟩
theorem CC.off {H H' : dxH} {sed : Int64} {A : Nat → Prop} (h : CC H sed) (hO : Off A H H') (h0 : ¬ A 0) : CC H' sed := hO.at h h0
/-- the cells of hours tried out -/
def tmC : Nat → Prop := fun j => (11 ≤ j ∧ j ≤ 15) ∨ (106 ≤ j ∧ j ≤ 110)
/-- all of the class -/
def xC : Nat → Prop := fun j => j ≤ 110
theorem CInv.tmp {H H' : dxH} {tx : Nat → Nat} {ln n : Nat} {sd kd : Nat → Nat} {s : Sn} {am : Nat} {stk : Nat → Sn} {kp : Nat → Bool} {ks : Nat → Sn} {tm : Nat} {tc th : Nat → Nat} {td : Nat → Bool} {sed : Int64} (h : CInv H tx ln n sd kd s am stk kp ks tm tc th td sed) (hO : Off tmC H H') (hT : TmpM H') : CInv H' tx ln n sd kd s am stk kp ks tm tc th td sed := by
  obtain ⟨h1, h2, h3, h4, h5, h6, h7, h8⟩ := h
  have no : ∀ j, ¬ (11 ≤ j ∧ j ≤ 15) → ¬ (106 ≤ j ∧ j ≤ 110) → ¬ tmC j := fun j a b q => q.elim a b
  exact ⟨h1.off hO (no _ (by omega) (by omega)), h2.off hO (no _ (by omega) (by omega)) (no _ (by omega) (by omega)), h3.off hO (no _ (by omega) (by omega)) (no _ (by omega) (by omega)) (no _ (by omega) (by omega)), h4.off hO (fun j a b => no _ (by omega) (by omega)), h5.off hO (fun j a b => no _ (by omega) (by omega)), h6.off hO (fun j a b => no _ (by omega) (by omega)), h7.off hO (fun j a b => no _ (by omega) (by omega)), hT⟩
def ahdB (x : Int32) : Bool := decide (1 ≤ x ∧ x ≤ 8)
theorem ahd_of {x : Int32} (h : ahdB x = true) : ∃ m : Nat, 1 ≤ m ∧ m ≤ 8 ∧ x = nI m := by
  have h1 := of_decide_eq_true h
  obtain ⟨j, hj, rfl⟩ := nI_of (x := x) (fun q => absurd (Int32.le_trans h1.1 (Int32.le_of_lt q)) (by decide))
  have e1 : (1 : Int32) = nI 1 := by decide
  have e8 : (8 : Int32) = nI 8 := by decide
  rw [e1, e8, nI_leI (by decide) hj, nI_leI hj (by decide)] at h1
  exact ⟨j, h1.1, h1.2, rfl⟩
theorem ahd_n {m : Nat} (h1 : 1 ≤ m) (h2 : m ≤ 8) : ahdB (nI m) = true := by
  have e1 : (1 : Int32) = nI 1 := by decide
  have e8 : (8 : Int32) = nI 8 := by decide
  refine decide_eq_true ?_
  rw [e1, e8, nI_leI (by decide) (by omega), nI_leI (by omega) (by decide)]
  exact ⟨h1, h2⟩
theorem bI_tr : bI true = 1 := rfl
theorem c99t {tb : dxT} {H : dxH} {m : Nat} (h1 : 1 ≤ m) (h2 : m ≤ 8) : Cl tb 99 [.int (nI m)] H (Rt (.int (bI true)) H) := by
  show Ev tb 99 0 [some (.int (nI m))] [] H _
  refine ev_iload_n i99_0 rfl ?_
  refine ev_iconst (v := nI 1) i99_1 (by decide) ?_
  refine evn_icmp_lt (t := 15) i99_2 (by decide) (by omega) (fun z2 => ?_) (fun z2 => ?_)
  · refine ev_iconst (v := nI 0) i99_15 (by decide) ?_
    refine ev_zret i99_16 (by decide +kernel) (by decide) ?_
    exfalso; omega
  · refine ev_iload_n i99_5 rfl ?_
    refine ev_bipush (v := nI 8) i99_6 (by decide) ?_
    refine evn_icmp_gt (t := 15) i99_8 (by decide) (by omega) (fun z8 => ?_) (fun z8 => ?_)
    · refine ev_iconst (v := nI 0) i99_15 (by decide) ?_
      refine ev_zret i99_16 (by decide +kernel) (by decide) ?_
      exfalso; omega
    · refine ev_iconst (v := nI 1) i99_11 (by decide) ?_
      refine ev_goto (t := 16) i99_12 (by decide) ?_
      refine ev_zret i99_16 (by decide +kernel) (by decide) ?_
      exact ⟨zt rfl, rfl⟩
theorem c99f {tb : dxT} {H : dxH} {x : Int32} (h : ahdB x = false) : Cl tb 99 [.int x] H (Rt (.int (bI false)) H) := by
  have h1 := of_decide_eq_false h
  have e1 : (1 : Int32) = nI 1 := by decide
  have e8 : (8 : Int32) = nI 8 := by decide
  rw [e1, e8] at h1
  show Ev tb 99 0 [some (.int x)] [] H _
  refine ev_iload_n i99_0 rfl ?_
  refine ev_iconst (v := nI 1) i99_1 (by decide) ?_
  refine ev_icmp_lt (t := 15) i99_2 (by decide) (fun z2 => ?_) (fun z2 => ?_)
  · refine ev_iconst (v := nI 0) i99_15 (by decide) ?_
    refine ev_zret i99_16 (by decide +kernel) (by decide) ?_
    exact ⟨zf rfl, rfl⟩
  · refine ev_iload_n i99_5 rfl ?_
    refine ev_bipush (v := nI 8) i99_6 (by decide) ?_
    refine ev_icmp_gt (t := 15) i99_8 (by decide) (fun z8 => ?_) (fun z8 => ?_)
    · refine ev_iconst (v := nI 0) i99_15 (by decide) ?_
      refine ev_zret i99_16 (by decide +kernel) (by decide) ?_
      exact ⟨zf rfl, rfl⟩
    · refine ev_iconst (v := nI 1) i99_11 (by decide) ?_
      refine ev_goto (t := 16) i99_12 (by decide) ?_
      refine ev_zret i99_16 (by decide +kernel) (by decide) ?_
      exact absurd ⟨k2_le (by assumption), k2_le (by assumption)⟩ h1
theorem x67t {tb : dxT} {H : dxH} {tx : Nat → Nat} {ln n : Nat} {sd kd : Nat → Nat} {s : Sn} {am : Nat} {stk : Nat → Sn} {kp : Nat → Bool} {ks : Nat → Sn} {tm : Nat} {tc th : Nat → Nat} {td : Nat → Bool} {sed : Int64} {c : Nat} (hI : CInv H tx ln n sd kd s am stk kp ks tm tc th td sed) (hS : SpOK tx ln n sd kd s am stk kp ks tm tc th) (hc : c < 256) (h : ln < 64) : Cl tb 67 [.ref 0, .int (nI c)] H (fun r H' => r = some (.int (nI (ln + 1))) ∧ CInv H' (updN tx ln c) (ln + 1) n sd kd s am stk kp ks tm tc th td sed ∧ Off xC H H') := by
  obtain ⟨f0, fT, fH, fM, fA, fK, fL, fP⟩ := id hI
  obtain ⟨⟨b1, b2⟩, b3, b4, b5, b6, b7, b8, b9, b10, b11⟩ := id hS
  have g0 := f0
  unfold CC at g0
  obtain ⟨x0, x1⟩ := id fT
  show Ev tb 67 0 [some (.ref 0), some (.int (nI c))] [] H _
  refine ev_iload_n i67_0 rfl ?_
  refine evn_if_lt (t := 11) i67_1 (by decide) (by omega) ?_
  refine ev_iload_n i67_4 rfl ?_
  refine ev_sipush (v := nI 255) i67_5 (by decide) ?_
  refine evn_icmp_le (t := 14) i67_8 (by decide) (by omega) (fun z8 => ?_) (fun z8 => by exfalso; omega)
  refine ev_aload_n i67_14 rfl ?_
  refine ev_get i67_15 ci67 fl7_10 (by assumption) rfl ?_
  refine ev_iload_n i67_18 rfl ?_
  refine ev_callV (vs := [.int (nI c)]) (rest := []) i67_19 ci67 lk7_76 (congrArg (fun q => q + 1) np51) ci51 (by decide) (by decide +kernel) (Nat.le_of_ble_eq_true rfl) ⟨rfl, rfl, Nat.le_of_ble_eq_true rfl⟩ rfl (by assumption) (c51t fT b1 (by omega) (by omega)) (fun r H1 hq => ?_)
  obtain ⟨rfl, fT, hO1⟩ := hq
  have f0 := f0.off hO1 (by unfold txC; decide)
  show Ev tb 67 22 [some (.ref 0), some (.int (nI c))] [.int (bI true)] H1 _
  refine evb_if_eq (t := 35) i67_22 (by decide) (fun z22 => by exfalso; cases z22) (fun z22 => ?_)
  have g0 := f0
  unfold CC at g0
  obtain ⟨x0, x1⟩ := id fT
  refine ev_aload_n i67_25 rfl ?_
  refine ev_get i67_26 ci67 fl7_10 (by assumption) rfl ?_
  refine ev_callV (vs := []) (rest := []) i67_29 ci67 lk7_80 (congrArg (fun q => q + 1) np49) ci49 (by decide) (by decide +kernel) (Nat.le_of_ble_eq_true rfl) ⟨rfl, rfl, Nat.le_of_ble_eq_true rfl⟩ rfl (by assumption) (c49 fT (by omega)) (fun r HH hq => ?_)
  obtain ⟨rfl, rfl⟩ := hq
  show Ev tb 67 32 [some (.ref 0), some (.int (nI c))] [.int (nI (ln + 1))] H1 _
  refine ev_goto (t := 37) i67_32 (by decide) ?_
  refine ev_iret i67_37 (by decide +kernel) ?_
  exact ⟨rfl, ⟨f0, fT, fH.off hO1 (by unfold txC; omega) (by unfold txC; omega) (by unfold txC; omega), fM.off hO1 (fun j u1 u2 => by unfold txC; omega), fA.off hO1 (fun j u1 u2 => by unfold txC; omega), fK.off hO1 (fun j u1 u2 => by unfold txC; omega), fL.off hO1 (fun j u1 u2 => by unfold txC; omega), fP.off hO1 (fun j u1 u2 => by unfold txC; omega) (fun j u1 u2 => by unfold txC; omega)⟩, hO1.weaken (fun j q => by unfold txC at q; unfold xC; omega)⟩
theorem x67f {tb : dxT} {H : dxH} {tx : Nat → Nat} {ln n : Nat} {sd kd : Nat → Nat} {s : Sn} {am : Nat} {stk : Nat → Sn} {kp : Nat → Bool} {ks : Nat → Sn} {tm : Nat} {tc th : Nat → Nat} {td : Nat → Bool} {sed : Int64} {c : Nat} (hI : CInv H tx ln n sd kd s am stk kp ks tm tc th td sed) (hS : SpOK tx ln n sd kd s am stk kp ks tm tc th) (hc : c < 256) (h : ¬ ln < 64) : Cl tb 67 [.ref 0, .int (nI c)] H (fun r H' => r = some (.int (-4)) ∧ CInv H' tx ln n sd kd s am stk kp ks tm tc th td sed ∧ Off xC H H') := by
  obtain ⟨f0, fT, fH, fM, fA, fK, fL, fP⟩ := id hI
  obtain ⟨⟨b1, b2⟩, b3, b4, b5, b6, b7, b8, b9, b10, b11⟩ := id hS
  have g0 := f0
  unfold CC at g0
  obtain ⟨x0, x1⟩ := id fT
  show Ev tb 67 0 [some (.ref 0), some (.int (nI c))] [] H _
  refine ev_iload_n i67_0 rfl ?_
  refine evn_if_lt (t := 11) i67_1 (by decide) (by omega) ?_
  refine ev_iload_n i67_4 rfl ?_
  refine ev_sipush (v := nI 255) i67_5 (by decide) ?_
  refine evn_icmp_le (t := 14) i67_8 (by decide) (by omega) (fun z8 => ?_) (fun z8 => by exfalso; omega)
  refine ev_aload_n i67_14 rfl ?_
  refine ev_get i67_15 ci67 fl7_10 (by assumption) rfl ?_
  refine ev_iload_n i67_18 rfl ?_
  refine ev_callV (vs := [.int (nI c)]) (rest := []) i67_19 ci67 lk7_76 (congrArg (fun q => q + 1) np51) ci51 (by decide) (by decide +kernel) (Nat.le_of_ble_eq_true rfl) ⟨rfl, rfl, Nat.le_of_ble_eq_true rfl⟩ rfl (by assumption) (c51f fT b1 (by omega)) (fun r HH hq => ?_)
  obtain ⟨rfl, rfl⟩ := hq
  show Ev tb 67 22 [some (.ref 0), some (.int (nI c))] [.int (bI false)] H _
  refine evb_if_eq (t := 35) i67_22 (by decide) (fun z22 => ?_) (fun z22 => by exfalso; cases z22)
  refine ev_bipush (v := (-4)) i67_35 (by decide) ?_
  refine ev_iret i67_37 (by decide +kernel) ?_
  exact ⟨rfl, hI, Off.rf⟩
theorem x67o {tb : dxT} {H : dxH} {tx : Nat → Nat} {ln n : Nat} {sd kd : Nat → Nat} {s : Sn} {am : Nat} {stk : Nat → Sn} {kp : Nat → Bool} {ks : Nat → Sn} {tm : Nat} {tc th : Nat → Nat} {td : Nat → Bool} {sed : Int64} {c : Int32} (hI : CInv H tx ln n sd kd s am stk kp ks tm tc th td sed) (hS : SpOK tx ln n sd kd s am stk kp ks tm tc th) (h : inR c 256 = false) : Cl tb 67 [.ref 0, .int c] H (fun r H' => r = some (.int (-2)) ∧ CInv H' tx ln n sd kd s am stk kp ks tm tc th td sed ∧ Off xC H H') := by
  obtain ⟨f0, fT, fH, fM, fA, fK, fL, fP⟩ := id hI
  obtain ⟨⟨b1, b2⟩, b3, b4, b5, b6, b7, b8, b9, b10, b11⟩ := id hS
  have h1 := of_decide_eq_false h
  show Ev tb 67 0 [some (.ref 0), some (.int c)] [] H _
  refine ev_iload_n i67_0 rfl ?_
  refine ev_if_lt (t := 11) i67_1 (by decide) (fun z1 => ?_) (fun z1 => ?_)
  · refine ev_bipush (v := (-2)) i67_11 (by decide) ?_
    refine ev_iret i67_13 (by decide +kernel) ?_
    exact ⟨rfl, hI, Off.rf⟩
  · refine ev_iload_n i67_4 rfl ?_
    refine ev_sipush (v := nI 255) i67_5 (by decide) ?_
    refine ev_icmp_le (t := 14) i67_8 (by decide) (fun z8 => ?_) (fun z8 => ?_)
    · exfalso
      exact h1 ⟨z1, by have e5 : nI 255 < nI 256 := by decide
                       exact Int32.lt_of_le_of_lt z8 e5⟩
    · refine ev_bipush (v := (-2)) i67_11 (by decide) ?_
      refine ev_iret i67_13 (by decide +kernel) ?_
      exact ⟨rfl, hI, Off.rf⟩
theorem x68 {tb : dxT} {H : dxH} {tx : Nat → Nat} {ln n : Nat} {sd kd : Nat → Nat} {s : Sn} {am : Nat} {stk : Nat → Sn} {kp : Nat → Bool} {ks : Nat → Sn} {tm : Nat} {tc th : Nat → Nat} {td : Nat → Bool} {sed : Int64} (hI : CInv H tx ln n sd kd s am stk kp ks tm tc th td sed) (hS : SpOK tx ln n sd kd s am stk kp ks tm tc th) : Cl tb 68 [.ref 0] H (fun r H' => r = some (.int (nI ln)) ∧ CInv H' tx 0 n sd kd s am stk kp ks tm tc th td sed ∧ Off xC H H') := by
  obtain ⟨f0, fT, fH, fM, fA, fK, fL, fP⟩ := id hI
  obtain ⟨⟨b1, b2⟩, b3, b4, b5, b6, b7, b8, b9, b10, b11⟩ := id hS
  have g0 := f0
  unfold CC at g0
  obtain ⟨x0, x1⟩ := id fT
  show Ev tb 68 0 [some (.ref 0), none] [] H _
  refine ev_aload_n i68_0 rfl ?_
  refine ev_get i68_1 ci68 fl7_10 (by assumption) rfl ?_
  refine ev_callV (vs := []) (rest := []) i68_4 ci68 lk7_80 (congrArg (fun q => q + 1) np49) ci49 (by decide) (by decide +kernel) (Nat.le_of_ble_eq_true rfl) ⟨rfl, rfl, Nat.le_of_ble_eq_true rfl⟩ rfl (by assumption) (c49 (by assumption) (by omega)) (fun r HH hq => ?_)
  obtain ⟨rfl, rfl⟩ := hq
  show Ev tb 68 7 [some (.ref 0), none] [.int (nI ln)] H _
  refine ev_istore_n (L' := [some (.ref 0), some (.int (nI ln))]) i68_7 ⟨Nat.le_of_ble_eq_true rfl, rfl⟩ rfl ?_
  refine ev_aload_n i68_8 rfl ?_
  refine ev_get i68_9 ci68 fl7_10 (by assumption) rfl ?_
  refine ev_callV (vs := []) (rest := []) i68_12 ci68 lk7_84 (congrArg (fun q => q + 1) np50) ci50 (by decide) (by decide +kernel) (Nat.le_of_ble_eq_true rfl) ⟨rfl, rfl, Nat.le_of_ble_eq_true rfl⟩ rfl (by assumption) (c50 fT b1) (fun r H1 hq => ?_)
  obtain ⟨rfl, fT, hO1⟩ := hq
  show Ev tb 68 15 [some (.ref 0), some (.int (nI ln))] [] H1 _
  refine ev_iload_n i68_15 rfl ?_
  refine ev_iret i68_16 (by decide +kernel) ?_
  exact ⟨rfl, ⟨f0.off hO1 (by unfold txC; omega), fT, fH.off hO1 (by unfold txC; omega) (by unfold txC; omega) (by unfold txC; omega), fM.off hO1 (fun j u1 u2 => by unfold txC; omega), fA.off hO1 (fun j u1 u2 => by unfold txC; omega), fK.off hO1 (fun j u1 u2 => by unfold txC; omega), fL.off hO1 (fun j u1 u2 => by unfold txC; omega), fP.off hO1 (fun j u1 u2 => by unfold txC; omega) (fun j u1 u2 => by unfold txC; omega)⟩, hO1.weaken (fun j q => by unfold txC at q; unfold xC; omega)⟩
theorem HE_lt {n : Nat} (h : n ≤ 6) : HE n < 64 := by
  unfold HE
  have : 2 ^ n ≤ 2 ^ 6 := Nat.pow_le_pow_right (by decide) h
  omega
theorem HE_bit {n k : Nat} : (HE n).testBit k = decide (k < n) := Nat.testBit_two_pow_sub_one n k
theorem x71t {tb : dxT} {H : dxH} {tx : Nat → Nat} {ln n : Nat} {sd kd : Nat → Nat} {s : Sn} {am : Nat} {stk : Nat → Sn} {kp : Nat → Bool} {ks : Nat → Sn} {tm : Nat} {tc th : Nat → Nat} {td : Nat → Bool} {sed : Int64} {c : Nat} (hI : CInv H tx ln n sd kd s am stk kp ks tm tc th td sed) (hS : SpOK tx ln n sd kd s am stk kp ks tm tc th) (hc : c < 10) : Cl tb 71 [.ref 0, .int (nI c)] H (fun r H' => r = some (.int (nI (s.2.2.1 c))) ∧ CInv H' tx ln n sd kd s am stk kp ks tm tc th td sed ∧ Off xC H H') := by
  obtain ⟨f0, fT, fH, fM, fA, fK, fL, fP⟩ := id hI
  obtain ⟨⟨b1, b2⟩, b3, b4, b5, b6, b7, b8, b9, b10, b11⟩ := id hS
  obtain ⟨m0, m1, m2, m3, m4⟩ := id fM
  have g0 := f0
  unfold CC at g0
  have hb : HE n < 64 := HE_lt b3
  have ha : 6 ≤ 6 := Nat.le_refl 6
  show Ev tb 71 0 [some (.ref 0), some (.int (nI c))] [] H _
  refine ev_iload_n i71_0 rfl ?_
  refine ev_callS (vs := [.int (nI c)]) (rest := []) i71_1 ci71 lk7_98 (Or.inl rfl) np96 (by decide +kernel) (Nat.le_of_ble_eq_true rfl) ⟨rfl, rfl, Nat.le_of_ble_eq_true rfl⟩ rfl (c96n (by omega)) (fun r HH hq => ?_)
  obtain ⟨rfl, rfl⟩ := hq
  show Ev tb 71 4 [some (.ref 0), some (.int (nI c))] [.int (bI (decide (c < 10)))] H _
  refine evd_if_eq (t := 18) i71_4 (by decide) (fun z4 => by exfalso; omega) (fun z4 => ?_)
  refine ev_aload_n i71_7 rfl ?_
  refine ev_get i71_8 ci71 fl7_28 (by assumption) rfl ?_
  refine ev_iload_n i71_11 rfl ?_
  refine ev_callV (vs := [.int (nI c)]) (rest := []) i71_12 ci71 lk7_101 (congrArg (fun q => q + 1) np31) ci31 (by decide) (by decide +kernel) (Nat.le_of_ble_eq_true rfl) ⟨rfl, rfl, Nat.le_of_ble_eq_true rfl⟩ rfl (by assumption) (c31 fM hb ha (by omega)) (fun r HH hq => ?_)
  obtain ⟨rfl, rfl⟩ := hq
  show Ev tb 71 15 [some (.ref 0), some (.int (nI c))] [.int (nI (s.2.2.1 c))] H _
  refine ev_goto (t := 20) i71_15 (by decide) ?_
  refine ev_iret i71_20 (by decide +kernel) ?_
  exact ⟨rfl, hI, Off.rf⟩
theorem x71f {tb : dxT} {H : dxH} {tx : Nat → Nat} {ln n : Nat} {sd kd : Nat → Nat} {s : Sn} {am : Nat} {stk : Nat → Sn} {kp : Nat → Bool} {ks : Nat → Sn} {tm : Nat} {tc th : Nat → Nat} {td : Nat → Bool} {sed : Int64} {c : Int32} (hI : CInv H tx ln n sd kd s am stk kp ks tm tc th td sed) (hS : SpOK tx ln n sd kd s am stk kp ks tm tc th) (h : inR c 10 = false) : Cl tb 71 [.ref 0, .int c] H (fun r H' => r = some (.int (-2)) ∧ CInv H' tx ln n sd kd s am stk kp ks tm tc th td sed ∧ Off xC H H') := by
  obtain ⟨f0, fT, fH, fM, fA, fK, fL, fP⟩ := id hI
  obtain ⟨⟨b1, b2⟩, b3, b4, b5, b6, b7, b8, b9, b10, b11⟩ := id hS
  obtain ⟨m0, m1, m2, m3, m4⟩ := id fM
  have g0 := f0
  unfold CC at g0
  show Ev tb 71 0 [some (.ref 0), some (.int c)] [] H _
  refine ev_iload_n i71_0 rfl ?_
  refine ev_callS (vs := [.int c]) (rest := []) i71_1 ci71 lk7_98 (Or.inl rfl) np96 (by decide +kernel) (Nat.le_of_ble_eq_true rfl) ⟨rfl, rfl, Nat.le_of_ble_eq_true rfl⟩ rfl (c96) (fun r HH hq => ?_)
  obtain ⟨rfl, rfl⟩ := hq
  show Ev tb 71 4 [some (.ref 0), some (.int c)] [.int (bI (inR c 10))] H _
  refine evb_if_eq (t := 18) i71_4 (by decide) (fun z4 => ?_) (fun z4 => by exfalso; rw [h] at z4; cases z4)
  refine ev_bipush (v := (-2)) i71_18 (by decide) ?_
  refine ev_iret i71_20 (by decide +kernel) ?_
  exact ⟨rfl, hI, Off.rf⟩
