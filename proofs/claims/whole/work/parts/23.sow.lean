/-! the class's calls: sowing, fewest, summers  -/
/-- clover sown on cells told as figures: d figures are left -/
def swnL (fg : Nat) : Nat → Nat → (Nat → Nat) → Option (Nat → Nat)
  | 0, _, cl => some cl
  | d + 1, l, cl => if fg / 10 ^ d % 10 < l ∨ ¬ cl (fg / 10 ^ d % 10) < 9 then none else swnL fg d (fg / 10 ^ d % 10) (updN cl (fg / 10 ^ d % 10) (cl (fg / 10 ^ d % 10) + 1))
theorem swnL_ok {fg : Nat} : ∀ {d l : Nat} {cl cl' : Nat → Nat}, swnL fg d l cl = some cl' → (∀ j, cl j < 10) → Vn 10 cl → (∀ j, cl' j < 10) ∧ Vn 10 cl'
  | 0, _, _, _, h, h1, h2 => by cases h; exact ⟨h1, h2⟩
  | d + 1, l, cl, cl', h, h1, h2 => by
    unfold swnL at h
    split at h
    · cases h
    · rename_i hc
      have hlt : fg / 10 ^ d % 10 < 10 := Nat.mod_lt _ (by decide)
      exact swnL_ok h (updN_lt h1 (by omega)) (h2.up hlt)
def sowB (n : Nat) (sd kd : Nat → Nat) (s : Sn) (q fg m : Nat) : Bool := match swnL fg q 0 s.2.2.1 with
  | none => false
  | some cl => decide (lstL (HE n) sd kd s.1 s.2.1 m (cl, s.2.2.2) (-9) = nI 1)
def sowO (n : Nat) (sd kd : Nat → Nat) (s : Sn) (m : Nat) (x : Hs) (o : Option (Nat → Nat)) : Bool := match o with
  | none => false
  | some cl => decide (lstL (HE n) sd kd s.1 s.2.1 m (cl, x.2) (-9) = nI 1)
theorem lq105 {tb : dxT} {n : Nat} {sd kd : Nat → Nat} {s : Sn} {sed : Int64} {m fg q : Nat} (b3 : n ≤ 6) (b4 : ∀ j, sd j < 2) (b5 : ∀ j, kd j < 4) (b6 : SnOK n s) (hm : m ≤ 8) (hq : q ≤ 3) (hfg : fg < 1000000) : ∀ (d k l wt : Nat) (H : dxH) (x : Hs), k + d = q → l < 10 → wt = 10 ^ d → CC H sed → HrdAt H n sd kd → MdS H 11 s.1 (HE n) s.2.1 x → SOK x → ∀ v7, Ev tb 105 23 [some (.ref 0), some (.int (nI q)), some (.int (nI fg)), some (.int (nI m)), some (.int (nI wt)), some (.int (nI l)), some (.int (nI k)), v7] [] H (fun r H' => r = some (.int (bI (sowO n sd kd s m x (swnL fg d l x.1)))) ∧ ShpM H' 11 ∧ Off (mdC 11) H H')
  | 0, k, l, wt, H, x, hk, hl, hw, f0, fH, hN, hx, v7 => by
    obtain rfl : k = q := by omega
    subst hw
    have hb : HE n < 64 := HE_lt b3
    have g0 := f0
    unfold CC at g0
    obtain ⟨t0, _⟩ := id hN
    refine ev_iload i105_23 rfl ?_
    refine ev_iload_n i105_25 rfl ?_
    refine evn_icmp_ge (t := 92) i105_26 (by decide) (by omega) (fun z26 => ?_) (fun z26 => by exfalso; omega)
    refine ev_aload_n i105_92 rfl ?_
    refine ev_get i105_93 ci105 fl7_32 (by assumption) rfl ?_
    refine ev_iload_n i105_96 rfl ?_
    refine ev_callV (vs := [.int (nI m)]) (rest := []) i105_97 ci105 lk7_169 (congrArg (fun q => q + 1) np45) ci45 (by decide) (by decide +kernel) (Nat.le_of_ble_eq_true rfl) ⟨rfl, rfl, Nat.le_of_ble_eq_true rfl⟩ rfl (by assumption) (c45 hb (by decide) b6.1 b5 b4 (by omega) hN fH hx) (fun r H1 hq => ?_)
    obtain ⟨rfl, hN, hO1⟩ := hq
    show Ev tb 105 100 [some (.ref 0), some (.int (nI k)), some (.int (nI fg)), some (.int (nI m)), some (.int (nI (10 ^ 0))), some (.int (nI l)), some (.int (nI k)), v7] [.int (lstL (HE n) sd kd s.1 s.2.1 m x (-9))] H1 _
    refine ev_iconst (v := nI 1) i105_100 (by decide) ?_
    refine ev_icmp_ne (t := 108) i105_101 (by decide) (fun z101 => ?_) (fun z101 => ?_)
    · refine ev_iconst (v := nI 0) i105_108 (by decide) ?_
      refine ev_zret i105_109 (by decide +kernel) (by decide) ?_
      exact ⟨zf (decide_eq_false z101), hN.shp b6.2.1 (hrs_ok b6.1 b4 hx), hO1⟩
    · refine ev_iconst (v := nI 1) i105_104 (by decide) ?_
      refine ev_goto (t := 109) i105_105 (by decide) ?_
      refine ev_zret i105_109 (by decide +kernel) (by decide) ?_
      exact ⟨zt (decide_eq_true z101), hN.shp b6.2.1 (hrs_ok b6.1 b4 hx), hO1⟩
  | d + 1, k, l, wt, H, x, hk, hl, hw, f0, fH, hN, hx, v7 => by
    subst hw
    have hp := Nat.pow_pos (n := d) (show 0 < 10 by decide)
    have hpd : 10 ^ (d + 1) = 10 ^ d * 10 := Nat.pow_succ 10 d
    have hdv : 10 ^ (d + 1) / 10 = 10 ^ d := by rw [hpd]; exact Nat.mul_div_cancel _ (by decide)
    have hp8 : 10 ^ (d + 1) ≤ 10 ^ 3 := Nat.pow_le_pow_right (by decide) (by omega)
    have hdl := Nat.div_le_self fg (10 ^ d)
    have hcl : fg / 10 ^ d % 10 < 10 := Nat.mod_lt _ (by decide)
    have hb : HE n < 64 := HE_lt b3
    have g0 := f0
    unfold CC at g0
    obtain ⟨t0, _⟩ := id hN
    refine ev_iload i105_23 rfl ?_
    refine ev_iload_n i105_25 rfl ?_
    refine evn_icmp_ge (t := 92) i105_26 (by decide) (by omega) (fun z26 => by exfalso; omega) (fun z26 => ?_)
    refine ev_iload i105_29 rfl ?_
    refine ev_bipush (v := nI 10) i105_31 (by decide) ?_
    refine evn_icmp_lt (t := 92) i105_33 (by decide) (by omega) (fun z33 => by exfalso; omega) (fun z33 => ?_)
    refine ev_iload i105_36 rfl ?_
    refine ev_bipush (v := nI 10) i105_38 (by decide) ?_
    refine evn_idiv i105_40 (by omega) ?_
    rw [hdv]
    refine ev_istore (L' := [some (.ref 0), some (.int (nI q)), some (.int (nI fg)), some (.int (nI m)), some (.int (nI (10 ^ d))), some (.int (nI l)), some (.int (nI k)), v7]) i105_41 ⟨Nat.le_of_ble_eq_true rfl, rfl⟩ rfl ?_
    refine ev_iload_n i105_43 rfl ?_
    refine ev_iload i105_44 rfl ?_
    refine evn_idiv i105_46 (by omega) ?_
    refine ev_bipush (v := nI 10) i105_47 (by decide) ?_
    refine evn_irem i105_49 (by first | omega | exact ⟨Nat.lt_of_le_of_lt (Nat.div_le_self _ _) (by omega), by decide, by decide⟩) ?_
    refine ev_istore (L' := [some (.ref 0), some (.int (nI q)), some (.int (nI fg)), some (.int (nI m)), some (.int (nI (10 ^ d))), some (.int (nI l)), some (.int (nI k)), some (.int (nI ((fg / (10 ^ d)) % 10)))]) i105_50 ⟨Nat.le_of_ble_eq_true rfl, rfl⟩ rfl ?_
    refine ev_iload i105_52 rfl ?_
    refine ev_iload i105_54 rfl ?_
    refine evn_icmp_lt (t := 71) i105_56 (by decide) (by omega) (fun z56 => ?_) (fun z56 => ?_)
    · refine ev_iconst (v := nI 0) i105_71 (by decide) ?_
      refine ev_zret i105_72 (by decide +kernel) (by decide) ?_
      unfold swnL
      rw [if_pos (by first | exact Or.inl (by assumption) | exact Or.inr (by assumption))]
      exact ⟨zf rfl, hN.shp b6.2.1 hx, Off.rf⟩
    · refine ev_aload_n i105_59 rfl ?_
      refine ev_get i105_60 ci105 fl7_32 (by assumption) rfl ?_
      refine ev_iload i105_63 rfl ?_
      refine ev_callV (vs := [.int (nI ((fg / (10 ^ d)) % 10))]) (rest := []) i105_65 ci105 lk7_137 (congrArg (fun q => q + 1) np33) ci33 (by decide) (by decide +kernel) (Nat.le_of_ble_eq_true rfl) ⟨rfl, rfl, Nat.le_of_ble_eq_true rfl⟩ rfl (by assumption) (c33 hN hb (by decide) hx.1 hcl) (fun r HH hq => ?_)
      obtain ⟨rfl, rfl⟩ := hq
      show Ev tb 105 68 [some (.ref 0), some (.int (nI q)), some (.int (nI fg)), some (.int (nI m)), some (.int (nI (10 ^ d))), some (.int (nI l)), some (.int (nI k)), some (.int (nI ((fg / (10 ^ d)) % 10)))] [.int (bI (decide (x.1 (fg / 10 ^ d % 10) < 9)))] H _
      refine evd_if_ne (t := 73) i105_68 (by decide) (fun z68 => ?_) (fun z68 => ?_)
      · refine ev_aload_n i105_73 rfl ?_
        refine ev_get i105_74 ci105 fl7_32 (by assumption) rfl ?_
        refine ev_iload i105_77 rfl ?_
        refine ev_callV (vs := [.int (nI ((fg / (10 ^ d)) % 10))]) (rest := []) i105_79 ci105 lk7_140 (congrArg (fun q => q + 1) np34) ci34 (by decide) (by decide +kernel) (Nat.le_of_ble_eq_true rfl) ⟨rfl, rfl, Nat.le_of_ble_eq_true rfl⟩ rfl (by assumption) (c34 hN hb (by decide) hx.1 hcl) (fun r H1 hq => ?_)
        obtain ⟨rfl, hN, hO1⟩ := hq
        rw [if_pos z68] at hN
        show Ev tb 105 82 [some (.ref 0), some (.int (nI q)), some (.int (nI fg)), some (.int (nI m)), some (.int (nI (10 ^ d))), some (.int (nI l)), some (.int (nI k)), some (.int (nI ((fg / (10 ^ d)) % 10)))] [] H1 _
        refine ev_iload i105_82 rfl ?_
        refine ev_istore (L' := [some (.ref 0), some (.int (nI q)), some (.int (nI fg)), some (.int (nI m)), some (.int (nI (10 ^ d))), some (.int (nI ((fg / (10 ^ d)) % 10))), some (.int (nI k)), some (.int (nI ((fg / (10 ^ d)) % 10)))]) i105_84 ⟨Nat.le_of_ble_eq_true rfl, rfl⟩ rfl ?_
        refine evn_iinc (d := 1) (L' := [some (.ref 0), some (.int (nI q)), some (.int (nI fg)), some (.int (nI m)), some (.int (nI (10 ^ d))), some (.int (nI ((fg / (10 ^ d)) % 10))), some (.int (nI (k + 1))), some (.int (nI ((fg / (10 ^ d)) % 10)))]) i105_86 rfl rfl (by decide) rfl ?_
        refine ev_goto (t := 23) i105_89 (by decide) ?_
        refine (lq105 b3 b4 b5 b6 hm hq hfg d (k + 1) _ _ H1 (updN x.1 (fg / 10 ^ d % 10) (x.1 (fg / 10 ^ d % 10) + 1), x.2) (by omega) hcl rfl (f0.off hO1 (by unfold mdC; omega)) (fH.off hO1 (by unfold mdC; omega) (by unfold mdC; omega) (by unfold mdC; omega)) hN ⟨updN_lt hx.1 (by omega), hx.2.1, hx.2.2.1.up hcl, hx.2.2.2⟩ _).post (fun r H' hq => ?_)
        unfold swnL
        rw [if_neg (by intro q; rcases q with q | q; exact z56 q; exact q z68)]
        exact ⟨hq.1, hq.2.1, hO1.trans hq.2.2 (fun _ q => q) (fun _ q => q)⟩
      · refine ev_iconst (v := nI 0) i105_71 (by decide) ?_
        refine ev_zret i105_72 (by decide +kernel) (by decide) ?_
        unfold swnL
        rw [if_pos (by first | exact Or.inl (by assumption) | exact Or.inr (by assumption))]
        exact ⟨zf rfl, hN.shp b6.2.1 hx, Off.rf⟩
theorem c105 {tb : dxT} {H : dxH} {n : Nat} {sd kd : Nat → Nat} {s : Sn} {sed : Int64} {q fg m : Nat} (f0 : CC H sed) (fH : HrdAt H n sd kd) (fM : MdX H 6 n s) (hT : ShpM H 11) (b3 : n ≤ 6) (b4 : ∀ j, sd j < 2) (b5 : ∀ j, kd j < 4) (b6 : SnOK n s) (hm : m ≤ 8) (hq : q ≤ 3) (hfg : fg < 1000000) : Cl tb 105 [.ref 0, .int (nI q), .int (nI fg), .int (nI m)] H (fun r H' => r = some (.int (bI (sowB n sd kd s q fg m))) ∧ ShpM H' 11 ∧ Off (mdC 11) H H') := by
  have g0 := f0
  unfold CC at g0
  obtain ⟨m0, m1, m2, m3, m4⟩ := id fM
  obtain ⟨_, _, _, _, _, _, _, _, ⟨t0, _⟩, _⟩ := id hT
  have hb : HE n < 64 := HE_lt b3
  have ha : 6 ≤ 6 := Nat.le_refl 6
  show Ev tb 105 0 [some (.ref 0), some (.int (nI q)), some (.int (nI fg)), some (.int (nI m)), none, none, none, none] [] H _
  refine ev_aload_n i105_0 rfl ?_
  refine ev_get i105_1 ci105 fl7_32 (by assumption) rfl ?_
  refine ev_aload_n i105_4 rfl ?_
  refine ev_get i105_5 ci105 fl7_28 (by assumption) rfl ?_
  refine ev_callV (vs := [.ref 6]) (rest := []) i105_8 ci105 lk7_159 (congrArg (fun q => q + 1) np20) ci20 (by decide) (by decide +kernel) (Nat.le_of_ble_eq_true rfl) ⟨rfl, rfl, Nat.le_of_ble_eq_true rfl⟩ rfl (by assumption) (c20 hT fM b6.2.2.1.2.2.1 b6.2.1 b6.2.2.1.2.2.2.1 b6.2.2.1.2.2.2.2 (by decide)) (fun r H1 hq => ?_)
  obtain ⟨rfl, hN, hO1⟩ := hq
  have f0 := f0.off hO1 (by unfold mdC; omega)
  have fH := fH.off hO1 (by unfold mdC; omega) (by unfold mdC; omega) (by unfold mdC; omega)
  have fM := fM.off hO1 (fun j u1 u2 => by unfold mdC; omega)
  have g0 := f0
  unfold CC at g0
  obtain ⟨t0, t1, t2, t3, t4⟩ := id hN
  obtain ⟨m0, m1, m2, m3, m4⟩ := id fM
  have hOO : Off (mdC 11) H H1 := hO1
  show Ev tb 105 11 [some (.ref 0), some (.int (nI q)), some (.int (nI fg)), some (.int (nI m)), none, none, none, none] [] H1 _
  refine ev_iload_n i105_11 rfl ?_
  refine ev_callS (vs := [.int (nI q)]) (rest := []) i105_12 ci105 lk7_193 (Or.inl rfl) np113 (by decide +kernel) (Nat.le_of_ble_eq_true rfl) ⟨rfl, rfl, Nat.le_of_ble_eq_true rfl⟩ rfl (c113 (by omega)) (fun r HH hq => ?_)
  obtain ⟨rfl, rfl⟩ := hq
  show Ev tb 105 15 [some (.ref 0), some (.int (nI q)), some (.int (nI fg)), some (.int (nI m)), none, none, none, none] [.int (nI (10 ^ q))] H1 _
  refine ev_istore (L' := [some (.ref 0), some (.int (nI q)), some (.int (nI fg)), some (.int (nI m)), some (.int (nI (10 ^ q))), none, none, none]) i105_15 ⟨Nat.le_of_ble_eq_true rfl, rfl⟩ rfl ?_
  refine ev_iconst (v := nI 0) i105_17 (by decide) ?_
  refine ev_istore (L' := [some (.ref 0), some (.int (nI q)), some (.int (nI fg)), some (.int (nI m)), some (.int (nI (10 ^ q))), some (.int (nI 0)), none, none]) i105_18 ⟨Nat.le_of_ble_eq_true rfl, rfl⟩ rfl ?_
  refine ev_iconst (v := nI 0) i105_20 (by decide) ?_
  refine ev_istore (L' := [some (.ref 0), some (.int (nI q)), some (.int (nI fg)), some (.int (nI m)), some (.int (nI (10 ^ q))), some (.int (nI 0)), some (.int (nI 0)), none]) i105_21 ⟨Nat.le_of_ble_eq_true rfl, rfl⟩ rfl ?_
  refine (lq105 b3 b4 b5 b6 hm hq hfg q 0 0 _ H1 _ (Nat.zero_add q) (by decide) rfl f0 fH hN b6.x _).post (fun r H' hq => ?_)
  exact ⟨hq.1, hq.2.1, hOO.trans hq.2.2 (fun _ q => q) (fun _ q => q)⟩
/-- the first row of q cells that does, from fg on; then with more cells -/
def fewL (n : Nat) (sd kd : Nat → Nat) (s : Sn) (m q : Nat) : Nat → Nat → Option Nat
  | 0, _ => none
  | d + 1, fg => if sowB n sd kd s q fg m = true then some fg else fewL n sd kd s m q d (fg + 1)
def fewQ (n : Nat) (sd kd : Nat → Nat) (s : Sn) (m : Nat) (u : Bool) : Nat → Nat → Int32
  | 0, _ => -9
  | d + 1, q => match fewL n sd kd s m q (10 ^ q) 0 with
    | some fg => if u = true then nI (10 ^ q + fg) else nI q
    | none => fewQ n sd kd s m u d (q + 1)
theorem lq82a {tb : dxT} {H : dxH} {n : Nat} {sd kd : Nat → Nat} {s : Sn} {sed : Int64} {m q : Nat} {u : Bool} (b3 : n ≤ 6) (b4 : ∀ j, sd j < 2) (b5 : ∀ j, kd j < 4) (b6 : SnOK n s) (hm : m ≤ 8) (hq : q ≤ 3) (F0 : CC H sed) (FH : HrdAt H n sd kd) (FM : MdX H 6 n s) {Q : Option Value → dxH → Prop} : ∀ (d fg : Nat) (H2 : dxH), fg + d = 10 ^ q → Off (mdC 11) H H2 → ShpM H2 11 → (∀ H3, Off (mdC 11) H H3 → ShpM H3 11 → match fewL n sd kd s m q d fg with | some g => Q (some (.int (if u = true then nI (10 ^ q + g) else nI q))) H3 | none => Ev tb 82 62 [some (.ref 0), some (.int (nI m)), some (.int (bI u)), some (.int (nI (10 ^ q))), some (.int (nI q)), some (.int (nI (10 ^ q)))] [] H3 Q) → Ev tb 82 24 [some (.ref 0), some (.int (nI m)), some (.int (bI u)), some (.int (nI (10 ^ q))), some (.int (nI q)), some (.int (nI fg))] [] H2 Q
  | 0, fg, H2, hd, hOO, hT, hQ => by
    obtain rfl : fg = 10 ^ q := by omega
    have hp8 : 10 ^ q ≤ 10 ^ 3 := Nat.pow_le_pow_right (by decide) hq
    refine ev_iload i82_24 rfl ?_
    refine ev_iload_n i82_26 rfl ?_
    refine evn_icmp_ge (t := 62) i82_27 (by decide) (by omega) (fun z27 => ?_) (fun z27 => by exfalso; omega)
    exact hQ H2 hOO hT
  | d + 1, fg, H2, hd, hOO, hT, hQ => by
    have hp8 : 10 ^ q ≤ 10 ^ 3 := Nat.pow_le_pow_right (by decide) hq
    have f0 := F0.off hOO (by unfold mdC; omega)
    have fH := FH.off hOO (by unfold mdC; omega) (by unfold mdC; omega) (by unfold mdC; omega)
    have fM := FM.off hOO (fun j u1 u2 => by unfold mdC; omega)
    have g0 := f0
    unfold CC at g0
    obtain ⟨m0, m1, m2, m3, m4⟩ := id fM
    obtain ⟨_, _, _, _, _, _, _, _, ⟨t0, _⟩, _⟩ := id hT
    have hb : HE n < 64 := HE_lt b3
    refine ev_iload i82_24 rfl ?_
    refine ev_iload_n i82_26 rfl ?_
    refine evn_icmp_ge (t := 62) i82_27 (by decide) (by omega) (fun z27 => by exfalso; omega) (fun z27 => ?_)
    refine ev_aload_n i82_30 rfl ?_
    refine ev_iload i82_31 rfl ?_
    refine ev_iload i82_33 rfl ?_
    refine ev_iload_n i82_35 rfl ?_
    refine ev_callV (vs := [.int (nI q), .int (nI fg), .int (nI m)]) (rest := []) i82_36 ci82 lk7_189 (congrArg (fun q => q + 1) np105) ci105 (by decide) (by decide +kernel) (Nat.le_of_ble_eq_true rfl) ⟨rfl, rfl, Nat.le_of_ble_eq_true rfl⟩ rfl (by assumption) (c105 f0 fH fM hT b3 b4 b5 b6 hm hq (by omega)) (fun r H3 hq0 => ?_)
    obtain ⟨rfl, hT, hO3⟩ := hq0
    have hOO := hOO.trans hO3 (C := mdC 11) (fun _ q => q) (fun _ q => q)
    show Ev tb 82 39 [some (.ref 0), some (.int (nI m)), some (.int (bI u)), some (.int (nI (10 ^ q))), some (.int (nI q)), some (.int (nI fg))] [.int (bI (sowB n sd kd s q fg m))] H3 _
    refine evb_if_eq (t := 56) i82_39 (by decide) (fun z39 => ?_) (fun z39 => ?_)
    · refine evn_iinc (d := 1) (L' := [some (.ref 0), some (.int (nI m)), some (.int (bI u)), some (.int (nI (10 ^ q))), some (.int (nI q)), some (.int (nI (fg + 1)))]) i82_56 rfl rfl (by decide) rfl ?_
      refine ev_goto (t := 24) i82_59 (by decide) ?_
      refine lq82a b3 b4 b5 b6 hm hq F0 FH FM d (fg + 1) H3 (by omega) hOO hT (fun H4 h1 h2 => ?_)
      have h9 := hQ H4 h1 h2
      unfold fewL at h9
      rw [if_neg (by simp [z39])] at h9
      exact h9
    · refine ev_iload_n i82_42 rfl ?_
      refine evb_if_eq (t := 53) i82_43 (by decide) (fun z43 => ?_) (fun z43 => ?_)
      · refine ev_iload i82_53 rfl ?_
        refine ev_iret i82_55 (by decide +kernel) ?_
        have h9 := hQ H3 hOO hT
        unfold fewL at h9
        rw [if_pos z39] at h9
        simp only [z43, if_true, if_false, Bool.false_eq_true] at h9
        exact h9
      · refine ev_iload_n i82_46 rfl ?_
        refine ev_iload i82_47 rfl ?_
        refine evn_iadd i82_49 ?_
        refine ev_goto (t := 55) i82_50 (by decide) ?_
        refine ev_iret i82_55 (by decide +kernel) ?_
        have h9 := hQ H3 hOO hT
        unfold fewL at h9
        rw [if_pos z39] at h9
        simp only [z43, if_true, if_false, Bool.false_eq_true] at h9
        exact h9
theorem lq82 {tb : dxT} {H : dxH} {n : Nat} {sd kd : Nat → Nat} {s : Sn} {sed : Int64} {m : Nat} {u : Bool} (b3 : n ≤ 6) (b4 : ∀ j, sd j < 2) (b5 : ∀ j, kd j < 4) (b6 : SnOK n s) (hm : m ≤ 8) (F0 : CC H sed) (FH : HrdAt H n sd kd) (FM : MdX H 6 n s) : ∀ (d q : Nat) (H2 : dxH), q + d = 4 → Off (mdC 11) H H2 → ShpM H2 11 → ∀ v5, Ev tb 82 15 [some (.ref 0), some (.int (nI m)), some (.int (bI u)), some (.int (nI (10 ^ q))), some (.int (nI q)), v5] [] H2 (fun r H' => r = some (.int (fewQ n sd kd s m u d q)) ∧ ShpM H' 11 ∧ Off (mdC 11) H H')
  | 0, q, H2, hd, hOO, hT, v5 => by
    obtain rfl : q = 4 := by omega
    refine ev_iload i82_15 rfl ?_
    refine ev_iconst (v := nI 3) i82_17 (by decide) ?_
    refine evn_icmp_gt (t := 73) i82_18 (by decide) (by omega) (fun z18 => ?_) (fun z18 => by exfalso; omega)
    refine ev_bipush (v := (-9)) i82_73 (by decide) ?_
    refine ev_iret i82_75 (by decide +kernel) ?_
    exact ⟨rfl, hT, hOO⟩
  | d + 1, q, H2, hd, hOO, hT, v5 => by
    refine ev_iload i82_15 rfl ?_
    refine ev_iconst (v := nI 3) i82_17 (by decide) ?_
    refine evn_icmp_gt (t := 73) i82_18 (by decide) (by omega) (fun z18 => by exfalso; omega) (fun z18 => ?_)
    refine ev_iconst (v := nI 0) i82_21 (by decide) ?_
    refine ev_istore (L' := [some (.ref 0), some (.int (nI m)), some (.int (bI u)), some (.int (nI (10 ^ q))), some (.int (nI q)), some (.int (nI 0))]) i82_22 ⟨Nat.le_of_ble_eq_true rfl, rfl⟩ rfl ?_
    refine lq82a b3 b4 b5 b6 hm (by omega) F0 FH FM (10 ^ q) 0 H2 (Nat.zero_add _) hOO hT (fun H3 h1 h2 => ?_)
    cases he : fewL n sd kd s m q (10 ^ q) 0 with
    | some g =>
      show some _ = some _ ∧ _
      unfold fewQ
      rw [he]
      exact ⟨rfl, h2, h1⟩
    | none =>
      show Ev tb 82 62 _ _ H3 _
      refine ev_iload_n i82_62 rfl ?_
      refine ev_bipush (v := nI 10) i82_63 (by decide) ?_
      refine evn_imul i82_65 ?_
      refine ev_istore_n (L' := [some (.ref 0), some (.int (nI m)), some (.int (bI u)), some (.int (nI ((10 ^ q) * 10))), some (.int (nI q)), some (.int (nI (10 ^ q)))]) i82_66 ⟨Nat.le_of_ble_eq_true rfl, rfl⟩ rfl ?_
      refine evn_iinc (d := 1) (L' := [some (.ref 0), some (.int (nI m)), some (.int (bI u)), some (.int (nI ((10 ^ q) * 10))), some (.int (nI (q + 1))), some (.int (nI (10 ^ q)))]) i82_67 rfl rfl (by decide) rfl ?_
      refine ev_goto (t := 15) i82_70 (by decide) ?_
      have e2 : 10 ^ q * 10 = 10 ^ (q + 1) := (Nat.pow_succ 10 q).symm
      rw [e2]
      refine (lq82 b3 b4 b5 b6 hm F0 FH FM d (q + 1) H3 (by omega) h1 h2 _).post (fun r H' hq => ?_)
      unfold fewQ
      rw [he]
      exact hq
theorem x82 {tb : dxT} {H : dxH} {tx : Nat → Nat} {ln n : Nat} {sd kd : Nat → Nat} {s : Sn} {am : Nat} {stk : Nat → Sn} {kp : Nat → Bool} {ks : Nat → Sn} {tm : Nat} {tc th : Nat → Nat} {td : Nat → Bool} {sed : Int64} {m : Nat} {u : Bool} (hI : CInv H tx ln n sd kd s am stk kp ks tm tc th td sed) (hS : SpOK tx ln n sd kd s am stk kp ks tm tc th) (hm1 : 1 ≤ m) (hm : m ≤ 8) : Cl tb 82 [.ref 0, .int (nI m), .int (bI u)] H (fun r H' => r = some (.int (fewQ n sd kd s m u 4 0)) ∧ CInv H' tx ln n sd kd s am stk kp ks tm tc th td sed ∧ Off xC H H') := by
  obtain ⟨f0, fT, fH, fM, fA, fK, fL, fP⟩ := id hI
  obtain ⟨⟨b1, b2⟩, b3, b4, b5, b6, b7, b8, b9, b10, b11⟩ := id hS
  have hT := fP.1
  have g0 := f0
  unfold CC at g0
  obtain ⟨m0, m1, m2, m3, m4⟩ := id fM
  obtain ⟨_, _, _, _, _, _, _, _, ⟨t0, _⟩, _⟩ := id hT
  have hb : HE n < 64 := HE_lt b3
  have ha : 6 ≤ 6 := Nat.le_refl 6
  show Ev tb 82 0 [some (.ref 0), some (.int (nI m)), some (.int (bI u)), none, none, none] [] H _
  refine ev_iload_n i82_0 rfl ?_
  refine ev_callS (vs := [.int (nI m)]) (rest := []) i82_1 ci82 lk7_156 (Or.inl rfl) np99 (by decide +kernel) (Nat.le_of_ble_eq_true rfl) ⟨rfl, rfl, Nat.le_of_ble_eq_true rfl⟩ rfl (c99t (by omega) (by omega)) (fun r HH hq => ?_)
  obtain ⟨rfl, rfl⟩ := hq
  show Ev tb 82 4 [some (.ref 0), some (.int (nI m)), some (.int (bI u)), none, none, none] [.int (bI true)] H _
  refine evb_if_ne (t := 10) i82_4 (by decide) (fun z4 => ?_) (fun z4 => by exfalso; cases z4)
  refine ev_iconst (v := nI 1) i82_10 (by decide) ?_
  refine ev_istore_n (L' := [some (.ref 0), some (.int (nI m)), some (.int (bI u)), some (.int (nI 1)), none, none]) i82_11 ⟨Nat.le_of_ble_eq_true rfl, rfl⟩ rfl ?_
  refine ev_iconst (v := nI 0) i82_12 (by decide) ?_
  refine ev_istore (L' := [some (.ref 0), some (.int (nI m)), some (.int (bI u)), some (.int (nI 1)), some (.int (nI 0)), none]) i82_13 ⟨Nat.le_of_ble_eq_true rfl, rfl⟩ rfl ?_
  refine (lq82 b3 b4 b5 b6 hm f0 fH fM 4 0 H rfl Off.rf hT _).post (fun r H' hq => ?_)
  exact ⟨hq.1, hI.tr hq.2.2 hq.2.1⟩
theorem x82f {tb : dxT} {H : dxH} {tx : Nat → Nat} {ln n : Nat} {sd kd : Nat → Nat} {s : Sn} {am : Nat} {stk : Nat → Sn} {kp : Nat → Bool} {ks : Nat → Sn} {tm : Nat} {tc th : Nat → Nat} {td : Nat → Bool} {sed : Int64} {x : Int32} {u : Bool} (hI : CInv H tx ln n sd kd s am stk kp ks tm tc th td sed) (hS : SpOK tx ln n sd kd s am stk kp ks tm tc th) (h : ahdB x = false) : Cl tb 82 [.ref 0, .int x, .int (bI u)] H (fun r H' => r = some (.int (-2)) ∧ CInv H' tx ln n sd kd s am stk kp ks tm tc th td sed ∧ Off xC H H') := by
  obtain ⟨f0, fT, fH, fM, fA, fK, fL, fP⟩ := id hI
  obtain ⟨⟨b1, b2⟩, b3, b4, b5, b6, b7, b8, b9, b10, b11⟩ := id hS
  have hT := fP.1
  have g0 := f0
  unfold CC at g0
  obtain ⟨m0, m1, m2, m3, m4⟩ := id fM
  obtain ⟨_, _, _, _, _, _, _, _, ⟨t0, _⟩, _⟩ := id hT
  have hb : HE n < 64 := HE_lt b3
  have ha : 6 ≤ 6 := Nat.le_refl 6
  show Ev tb 82 0 [some (.ref 0), some (.int x), some (.int (bI u)), none, none, none] [] H _
  refine ev_iload_n i82_0 rfl ?_
  refine ev_callS (vs := [.int x]) (rest := []) i82_1 ci82 lk7_156 (Or.inl rfl) np99 (by decide +kernel) (Nat.le_of_ble_eq_true rfl) ⟨rfl, rfl, Nat.le_of_ble_eq_true rfl⟩ rfl (c99f (by assumption)) (fun r HH hq => ?_)
  obtain ⟨rfl, rfl⟩ := hq
  show Ev tb 82 4 [some (.ref 0), some (.int x), some (.int (bI u)), none, none, none] [.int (bI false)] H _
  refine evb_if_ne (t := 10) i82_4 (by decide) (fun z4 => by exfalso; cases z4) (fun z4 => ?_)
  refine ev_bipush (v := (-2)) i82_7 (by decide) ?_
  refine ev_iret i82_9 (by decide +kernel) ?_
  exact ⟨rfl, hI, Off.rf⟩
