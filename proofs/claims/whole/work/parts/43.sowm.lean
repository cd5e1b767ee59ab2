/-! the model's fewest, judge  -/
theorem lq151b {tb : dxT} {H : dxH} {n : Nat} {f : Nat → Int32} {sed : Int64} {sd kd : Nat → Nat} {s : Sn} {m fg q : Nat} {w4 w6 : Int32} (b3 : n ≤ 6) (b4 : ∀ j, sd j < 2) (b5 : ∀ j, kd j < 4) (b6 : SnOK n s) (hm : m ≤ 8) : ∀ (d k : Nat) (v : Int32) (x : Hs) (H1 : dxH) (g : Nat → Int32), k + d = m → MC H1 n f sed sd kd g → LvS g 0 n s → Lv g (27 * 1) n s.1 s.2.1 x → SOK x → Off (fun j => j = 114) H H1 → Ev tb 151 124 [some (.ref 111), some (.int (nI m)), some (.int (nI fg)), some (.int (nI q)), some (.int w4), some (.int (nI fg)), some (.int w6), some (.int v), some (.int (nI k))] [] H1 (fun r H' => r = some (.int (bI (decide (lstL (HE n) sd kd s.1 s.2.1 d x v = nI 1)))) ∧ ∃ g', MC H' n f sed sd kd g' ∧ LvS g' 0 n s ∧ Off (fun j => j = 114) H H')
  | 0, k, v, x, H1, g, hk, hC, hL, hT, hx, hOO => by
    obtain rfl : k = m := by omega
    obtain ⟨c0, ⟨ms, mk, c1, c2, c3, c4⟩, c5⟩ := id hC
    unfold mOb at c0
    refine ev_iload i151_124 rfl ?_
    refine ev_iload_n i151_126 rfl ?_
    refine evn_icmp_ge (t := 146) i151_127 (by decide) (by omega) (fun z127 => ?_) (fun z127 => by exfalso; omega)
    refine ev_iload i151_146 rfl ?_
    refine ev_iconst (v := nI 1) i151_148 (by decide) ?_
    refine ev_icmp_ne (t := 156) i151_149 (by decide) (fun z149 => ?_) (fun z149 => ?_)
    · refine ev_iconst (v := nI 0) i151_156 (by decide) ?_
      refine ev_zret i151_157 (by decide +kernel) (by decide) ?_
      exact ⟨zf (decide_eq_false z149), g, hC, hL, hOO⟩
    · refine ev_iconst (v := nI 1) i151_152 (by decide) ?_
      refine ev_goto (t := 157) i151_153 (by decide) ?_
      refine ev_zret i151_157 (by decide +kernel) (by decide) ?_
      exact ⟨zt (decide_eq_true z149), g, hC, hL, hOO⟩
  | d + 1, k, v, x, H1, g, hk, hC, hL, hT, hx, hOO => by
    have h4 := srtF_lt (he := HE n) (kd := kd) (fu := x.2.1) (sn := s.2.1) (rg := false)
    obtain ⟨c0, ⟨ms, mk, c1, c2, c3, c4⟩, c5⟩ := id hC
    unfold mOb at c0
    refine ev_iload i151_124 rfl ?_
    refine ev_iload_n i151_126 rfl ?_
    refine evn_icmp_ge (t := 146) i151_127 (by decide) (by omega) (fun z127 => by exfalso; omega) (fun z127 => ?_)
    refine ev_aload_n i151_130 rfl ?_
    refine ev_iconst (v := nI 1) i151_131 (by decide) ?_
    refine ev_bipush (v := nI 63) i151_132 (by decide) ?_
    refine ev_iconst (v := nI 0) i151_134 (by decide) ?_
    refine ev_callV (vs := [.int (nI 1), .int (nI 63), .int (nI 0)]) (rest := []) i151_135 ci151 lk8_132 (congrArg (fun q => q + 1) np135) ci135 (by decide) (by decide +kernel) (Nat.le_of_ble_eq_true rfl) ⟨rfl, rfl, Nat.le_of_ble_eq_true rfl⟩ rfl (by assumption) (c135 (rg := false) b3 b4 b5 b6.1 (by decide) (by decide) hC hT hx) (fun r H2 hq => ?_)
    obtain ⟨rfl, g2, hC, hT, hG2, hO2⟩ := hq
    rw [and63 n (by omega)] at hT
    rw [and63 n (by omega)]
    have hL := hL.of0 b3 hG2
    obtain ⟨c0, ⟨ms, mk, c1, c2, c3, c4⟩, c5⟩ := id hC
    unfold mOb at c0
    have hOO := hOO.trans hO2 (C := fun j => j = 114) (fun _ q => q) (fun _ q => q)
    have hx3 := hrF_ok (he := HE n) (sd := sd) (kd := kd) (ce := s.1) (sn := s.2.1) (rg := false) b6.1 b4 hx
    show Ev tb 151 138 [some (.ref 111), some (.int (nI m)), some (.int (nI fg)), some (.int (nI q)), some (.int w4), some (.int (nI fg)), some (.int w6), some (.int v), some (.int (nI k))] [.int (nI (srtF (HE n) kd x.2.1 s.2.1 false))] H2 _
    refine ev_istore (L' := [some (.ref 111), some (.int (nI m)), some (.int (nI fg)), some (.int (nI q)), some (.int w4), some (.int (nI fg)), some (.int w6), some (.int (nI (srtF (HE n) kd x.2.1 s.2.1 false))), some (.int (nI k))]) i151_138 ⟨Nat.le_of_ble_eq_true rfl, rfl⟩ rfl ?_
    refine evn_iinc (d := 1) (L' := [some (.ref 111), some (.int (nI m)), some (.int (nI fg)), some (.int (nI q)), some (.int w4), some (.int (nI fg)), some (.int w6), some (.int (nI (srtF (HE n) kd x.2.1 s.2.1 false))), some (.int (nI (k + 1)))]) i151_140 rfl rfl (by decide) rfl ?_
    refine ev_goto (t := 124) i151_143 (by decide) ?_
    exact lq151b b3 b4 b5 b6 hm d (k + 1) _ _ H2 g2 (by omega) hC hL hT hx3 hOO
theorem clup {cl : Nat → Nat} {y : (Nat → Nat) × (Nat → Int32) × Int32 × Int32} {c v : Nat} (h : SOK (cl, y)) (hc : c < 10) (hv : v < 10) : SOK (updN cl c v, y) := ⟨updN_lt h.1 hv, h.2.1, h.2.2.1.up hc, h.2.2.2⟩
theorem lq151a {tb : dxT} {H : dxH} {n : Nat} {f : Nat → Int32} {sed : Int64} {sd kd : Nat → Nat} {s : Sn} {m fg q : Nat} {Q : Option Value → dxH → Prop} (b3 : n ≤ 6) (b4 : ∀ j, sd j < 2) (b5 : ∀ j, kd j < 4) (b6 : SnOK n s) (hfg : fg < 1000) (hq3 : q ≤ 3) : ∀ (d j la : Nat) (cl : Nat → Nat) (H1 : dxH) (g : Nat → Int32), j + d = q → la < 10 → MC H1 n f sed sd kd g → LvS g 0 n s → Lv g (27 * 1) n s.1 s.2.1 (cl, s.2.2.2) → SOK (cl, s.2.2.2) → Off (fun j => j = 114) H H1 → (∀ H3 g3, MC H3 n f sed sd kd g3 → LvS g3 0 n s → Off (fun j => j = 114) H H3 → swnL fg d la cl = none → Q (some (.int (bI false))) H3) → (∀ cl3 H3 g3 (w4 w6 : Int32) w8, MC H3 n f sed sd kd g3 → LvS g3 0 n s → Lv g3 (27 * 1) n s.1 s.2.1 (cl3, s.2.2.2) → SOK (cl3, s.2.2.2) → Off (fun j => j = 114) H H3 → swnL fg d la cl = some cl3 → Ev tb 151 117 [some (.ref 111), some (.int (nI m)), some (.int (nI fg)), some (.int (nI q)), some (.int w4), some (.int (nI fg)), some (.int w6), some (.int (nI q)), w8] [] H3 Q) → ∀ w8, Ev tb 151 36 [some (.ref 111), some (.int (nI m)), some (.int (nI fg)), some (.int (nI q)), some (.int (nI la)), some (.int (nI fg)), some (.int (nI (10 ^ (d - 1)))), some (.int (nI j)), w8] [] H1 Q
  | 0, j, la, cl, H1, g, hj, hla, hC, hL, hT, hx, hOO, hN, hS, w8 => by
    obtain rfl : j = q := by omega
    obtain ⟨c0, ⟨ms, mk, c1, c2, c3, c4⟩, c5⟩ := id hC
    unfold mOb at c0
    refine ev_iload i151_36 rfl ?_
    refine ev_iload_n i151_38 rfl ?_
    refine evn_icmp_ge (t := 117) i151_39 (by decide) (by omega) (fun z39 => ?_) (fun z39 => by exfalso; omega)
    exact hS cl H1 g _ _ _ hC hL hT hx hOO rfl
  | 1, j, la, cl, H1, g, hj, hla, hC, hL, hT, hx, hOO, hN, hS, w8 => by
    have hx9 : cl (fg / 1 % 10) < 10 := hx.1 _
    have hO := hOO
    obtain ⟨c0, ⟨ms, mk, c1, c2, c3, c4⟩, c5⟩ := id hC
    unfold mOb at c0
    show Ev tb 151 36 [some (.ref 111), some (.int (nI m)), some (.int (nI fg)), some (.int (nI q)), some (.int (nI la)), some (.int (nI fg)), some (.int (nI 1)), some (.int (nI j)), w8] [] H1 Q
    refine ev_iload i151_36 rfl ?_
    refine ev_iload_n i151_38 rfl ?_
    refine evn_icmp_ge (t := 117) i151_39 (by decide) (by omega) (fun z39 => by exfalso; omega) (fun z39 => ?_)
    refine ev_iload i151_42 rfl ?_
    refine ev_iload i151_44 rfl ?_
    refine evn_idiv i151_46 (by omega) ?_
    refine ev_bipush (v := nI 10) i151_47 (by decide) ?_
    refine evn_irem i151_49 (by first | omega | exact ⟨Nat.lt_of_le_of_lt (Nat.div_le_self _ _) (by omega), by decide, by decide⟩) ?_
    refine ev_istore (L' := [some (.ref 111), some (.int (nI m)), some (.int (nI fg)), some (.int (nI q)), some (.int (nI la)), some (.int (nI fg)), some (.int (nI 1)), some (.int (nI j)), some (.int (nI ((fg / 1) % 10)))]) i151_50 ⟨Nat.le_of_ble_eq_true rfl, rfl⟩ rfl ?_
    refine ev_iload i151_52 rfl ?_
    refine ev_iconst (v := nI 1) i151_54 (by decide) ?_
    refine evn_icmp_le (t := 66) i151_55 (by decide) (by omega) (fun z55 => ?_) (fun z55 => by exfalso; omega)
    refine ev_iconst (v := nI 1) i151_66 (by decide) ?_
    refine ev_istore (L' := [some (.ref 111), some (.int (nI m)), some (.int (nI fg)), some (.int (nI q)), some (.int (nI la)), some (.int (nI fg)), some (.int (nI 1)), some (.int (nI j)), some (.int (nI ((fg / 1) % 10)))]) i151_67 ⟨Nat.le_of_ble_eq_true rfl, rfl⟩ rfl ?_
    refine ev_iload i151_69 rfl ?_
    refine ev_iload i151_71 rfl ?_
    refine evn_icmp_lt (t := 91) i151_73 (by decide) (by omega) (fun z73 => ?_) (fun z73 => ?_)
    · refine ev_iconst (v := nI 0) i151_91 (by decide) ?_
      refine ev_zret i151_92 (by decide +kernel) (by decide) ?_
      exact hN H1 g hC hL hOO (by
        unfold swnL
        exact if_pos (Or.inl (by rw [Nat.pow_zero]; exact z73)))
    · refine ev_aload_n i151_76 rfl ?_
      refine ev_get i151_77 ci151 fl8_16 (by assumption) rfl ?_
      refine ev_bipush (v := nI 27) i151_80 (by decide) ?_
      refine ev_iload i151_82 rfl ?_
      refine evn_iadd i151_84 ?_
      refine ev_iald_n i151_85 (by assumption) (by omega) ?_
      have hcl : g (27 + (fg / 1 % 10)) = nI (cl (fg / 1 % 10)) := hT.1 (fg / 1 % 10) (by omega)
      rw [hcl]
      refine ev_bipush (v := nI 9) i151_86 (by decide) ?_
      refine evn_icmp_ne (t := 93) i151_88 (by decide) (by omega) (fun z88 => ?_) (fun z88 => ?_)
      · refine ev_aload_n i151_93 rfl ?_
        refine ev_get i151_94 ci151 fl8_16 (by assumption) rfl ?_
        refine ev_bipush (v := nI 27) i151_97 (by decide) ?_
        refine ev_iload i151_99 rfl ?_
        refine evn_iadd i151_101 ?_
        refine ev_dup2 i151_102 rfl rfl ?_
        refine ev_iald_n i151_103 (by assumption) (by omega) ?_
        have hcl : g (27 + (fg / 1 % 10)) = nI (cl (fg / 1 % 10)) := hT.1 (fg / 1 % 10) (by omega)
        rw [hcl]
        refine ev_iconst (v := nI 1) i151_104 (by decide) ?_
        refine evn_iadd i151_105 ?_
        refine evs_iastw i151_106 (by assumption) (by omega) (fun H2 hH2 => ?_)
        have c0 : H2[111]? = some (.inr (8, [.int (nI n), .ref 112, .ref 113, .ref 114, .ref 115, .ref 116, .ref 117, .int (f 0), .int (f 1), .int (f 2), .ref 118, .int (f 3), .int (f 4), .int (f 5), .int (f 6), .int (f 7), .ref 119, .ref 120, .int (f 8), .ref 121, .ref 122, .ref 123, .ref 124, .long sed, .ref 125, .ref 126])) := by rw [hH2]; exact set_ne c0 (by omega)
        have c1 : H2[112]? = some (.inl (0, 6, .inl ms)) := by rw [hH2]; exact set_ne c1 (by omega)
        have c3 : H2[113]? = some (.inl (0, 6, .inl mk)) := by rw [hH2]; exact set_ne c3 (by omega)
        have c5 : H2[114]? = some (.inl (0, 54, .inl (upd g (27 + ((fg / 1) % 10)) (nI ((cl (fg / 1 % 10)) + 1))))) := by rw [hH2]; exact set_self c5
        have hO : Off (fun j => j = 114) H H2 := by rw [hH2]; exact hO.set (by rfl)
        refine ev_iload i151_107 rfl ?_
        refine ev_istore (L' := [some (.ref 111), some (.int (nI m)), some (.int (nI fg)), some (.int (nI q)), some (.int (nI ((fg / 1) % 10))), some (.int (nI fg)), some (.int (nI 1)), some (.int (nI j)), some (.int (nI ((fg / 1) % 10)))]) i151_109 ⟨Nat.le_of_ble_eq_true rfl, rfl⟩ rfl ?_
        refine evn_iinc (d := 1) (L' := [some (.ref 111), some (.int (nI m)), some (.int (nI fg)), some (.int (nI q)), some (.int (nI ((fg / 1) % 10))), some (.int (nI fg)), some (.int (nI 1)), some (.int (nI (j + 1))), some (.int (nI ((fg / 1) % 10)))]) i151_111 rfl rfl (by decide) rfl ?_
        refine ev_goto (t := 36) i151_114 (by decide) ?_
        have ed : fg / 10 ^ 0 % 10 = fg / 1 % 10 := by rw [Nat.pow_zero]
        have es : swnL fg (0 + 1) la cl = swnL fg 0 (fg / 1 % 10) (updN cl (fg / 1 % 10) (cl (fg / 1 % 10) + 1)) := by
          conv => lhs; unfold swnL
          rw [ed]
          exact if_neg (fun h => by rcases h with h | h <;> omega)
        rw [es] at hN hS
        have hT3 := hT.cl (v := cl (fg / 1 % 10) + 1) b3 (show fg / 1 % 10 < 10 by omega)
        refine lq151a b3 b4 b5 b6 hfg hq3 0 (j + 1) (fg / 1 % 10) (updN cl (fg / 1 % 10) (cl (fg / 1 % 10) + 1)) H2 _ (by omega) (by omega) ⟨c0, ⟨ms, mk, c1, c2, c3, c4⟩, c5⟩ (hL.of0 b3 (ofL.rf.up (by omega))) hT3 (clup hx (by omega) (by omega)) hO hN hS _
      · refine ev_iconst (v := nI 0) i151_91 (by decide) ?_
        refine ev_zret i151_92 (by decide +kernel) (by decide) ?_
        exact hN H1 g hC hL hOO (by
          unfold swnL
          exact if_pos (Or.inr (by rw [show fg / 10 ^ 0 % 10 = fg / 1 % 10 from by rw [Nat.pow_zero]]; omega)))
  | e + 1 + 1, j, la, cl, H1, g, hj, hla, hC, hL, hT, hx, hOO, hN, hS, w8 => by
    have hx9 : cl (fg / 10 ^ (e + 1) % 10) < 10 := hx.1 _
    have hp1 : 10 ^ 1 ≤ 10 ^ (e + 1) := Nat.pow_le_pow_right (by decide) (by omega)
    have hp2 : 10 ^ (e + 1) ≤ 10 ^ 2 := Nat.pow_le_pow_right (by decide) (by omega)
    obtain ⟨c0, ⟨ms, mk, c1, c2, c3, c4⟩, c5⟩ := id hC
    unfold mOb at c0
    have hO := hOO
    show Ev tb 151 36 [some (.ref 111), some (.int (nI m)), some (.int (nI fg)), some (.int (nI q)), some (.int (nI la)), some (.int (nI fg)), some (.int (nI (10 ^ (e + 1)))), some (.int (nI j)), w8] [] H1 Q
    refine ev_iload i151_36 rfl ?_
    refine ev_iload_n i151_38 rfl ?_
    refine evn_icmp_ge (t := 117) i151_39 (by decide) (by omega) (fun z39 => by exfalso; omega) (fun z39 => ?_)
    refine ev_iload i151_42 rfl ?_
    refine ev_iload i151_44 rfl ?_
    refine evn_idiv i151_46 (by omega) ?_
    refine ev_bipush (v := nI 10) i151_47 (by decide) ?_
    refine evn_irem i151_49 (by first | omega | exact ⟨Nat.lt_of_le_of_lt (Nat.div_le_self _ _) (by omega), by decide, by decide⟩) ?_
    refine ev_istore (L' := [some (.ref 111), some (.int (nI m)), some (.int (nI fg)), some (.int (nI q)), some (.int (nI la)), some (.int (nI fg)), some (.int (nI (10 ^ (e + 1)))), some (.int (nI j)), some (.int (nI ((fg / (10 ^ (e + 1))) % 10)))]) i151_50 ⟨Nat.le_of_ble_eq_true rfl, rfl⟩ rfl ?_
    refine ev_iload i151_52 rfl ?_
    refine ev_iconst (v := nI 1) i151_54 (by decide) ?_
    refine evn_icmp_le (t := 66) i151_55 (by decide) (by omega) (fun z55 => by exfalso; omega) (fun z55 => ?_)
    refine ev_iload i151_58 rfl ?_
    refine ev_bipush (v := nI 10) i151_60 (by decide) ?_
    refine evn_idiv i151_62 (by omega) ?_
    rw [show 10 ^ (e + 1) / 10 = 10 ^ e by rw [Nat.pow_succ]; exact Nat.mul_div_cancel _ (by decide)]
    refine ev_goto (t := 67) i151_63 (by decide) ?_
    refine ev_istore (L' := [some (.ref 111), some (.int (nI m)), some (.int (nI fg)), some (.int (nI q)), some (.int (nI la)), some (.int (nI fg)), some (.int (nI (10 ^ e))), some (.int (nI j)), some (.int (nI ((fg / (10 ^ (e + 1))) % 10)))]) i151_67 ⟨Nat.le_of_ble_eq_true rfl, rfl⟩ rfl ?_
    refine ev_iload i151_69 rfl ?_
    refine ev_iload i151_71 rfl ?_
    refine evn_icmp_lt (t := 91) i151_73 (by decide) (by omega) (fun z73 => ?_) (fun z73 => ?_)
    · refine ev_iconst (v := nI 0) i151_91 (by decide) ?_
      refine ev_zret i151_92 (by decide +kernel) (by decide) ?_
      exact hN H1 g hC hL hOO (by
        unfold swnL
        exact if_pos (Or.inl z73))
    · refine ev_aload_n i151_76 rfl ?_
      refine ev_get i151_77 ci151 fl8_16 (by assumption) rfl ?_
      refine ev_bipush (v := nI 27) i151_80 (by decide) ?_
      refine ev_iload i151_82 rfl ?_
      refine evn_iadd i151_84 ?_
      refine ev_iald_n i151_85 (by assumption) (by omega) ?_
      have hcl : g (27 + (fg / (10 ^ (e + 1)) % 10)) = nI (cl (fg / (10 ^ (e + 1)) % 10)) := hT.1 (fg / (10 ^ (e + 1)) % 10) (by omega)
      rw [hcl]
      refine ev_bipush (v := nI 9) i151_86 (by decide) ?_
      refine evn_icmp_ne (t := 93) i151_88 (by decide) (by omega) (fun z88 => ?_) (fun z88 => ?_)
      · refine ev_aload_n i151_93 rfl ?_
        refine ev_get i151_94 ci151 fl8_16 (by assumption) rfl ?_
        refine ev_bipush (v := nI 27) i151_97 (by decide) ?_
        refine ev_iload i151_99 rfl ?_
        refine evn_iadd i151_101 ?_
        refine ev_dup2 i151_102 rfl rfl ?_
        refine ev_iald_n i151_103 (by assumption) (by omega) ?_
        have hcl : g (27 + (fg / (10 ^ (e + 1)) % 10)) = nI (cl (fg / (10 ^ (e + 1)) % 10)) := hT.1 (fg / (10 ^ (e + 1)) % 10) (by omega)
        rw [hcl]
        refine ev_iconst (v := nI 1) i151_104 (by decide) ?_
        refine evn_iadd i151_105 ?_
        refine evs_iastw i151_106 (by assumption) (by omega) (fun H2 hH2 => ?_)
        have c0 : H2[111]? = some (.inr (8, [.int (nI n), .ref 112, .ref 113, .ref 114, .ref 115, .ref 116, .ref 117, .int (f 0), .int (f 1), .int (f 2), .ref 118, .int (f 3), .int (f 4), .int (f 5), .int (f 6), .int (f 7), .ref 119, .ref 120, .int (f 8), .ref 121, .ref 122, .ref 123, .ref 124, .long sed, .ref 125, .ref 126])) := by rw [hH2]; exact set_ne c0 (by omega)
        have c1 : H2[112]? = some (.inl (0, 6, .inl ms)) := by rw [hH2]; exact set_ne c1 (by omega)
        have c3 : H2[113]? = some (.inl (0, 6, .inl mk)) := by rw [hH2]; exact set_ne c3 (by omega)
        have c5 : H2[114]? = some (.inl (0, 54, .inl (upd g (27 + ((fg / (10 ^ (e + 1))) % 10)) (nI ((cl (fg / (10 ^ (e + 1)) % 10)) + 1))))) := by rw [hH2]; exact set_self c5
        have hO : Off (fun j => j = 114) H H2 := by rw [hH2]; exact hO.set (by rfl)
        refine ev_iload i151_107 rfl ?_
        refine ev_istore (L' := [some (.ref 111), some (.int (nI m)), some (.int (nI fg)), some (.int (nI q)), some (.int (nI ((fg / (10 ^ (e + 1))) % 10))), some (.int (nI fg)), some (.int (nI (10 ^ e))), some (.int (nI j)), some (.int (nI ((fg / (10 ^ (e + 1))) % 10)))]) i151_109 ⟨Nat.le_of_ble_eq_true rfl, rfl⟩ rfl ?_
        refine evn_iinc (d := 1) (L' := [some (.ref 111), some (.int (nI m)), some (.int (nI fg)), some (.int (nI q)), some (.int (nI ((fg / (10 ^ (e + 1))) % 10))), some (.int (nI fg)), some (.int (nI (10 ^ e))), some (.int (nI (j + 1))), some (.int (nI ((fg / (10 ^ (e + 1))) % 10)))]) i151_111 rfl rfl (by decide) rfl ?_
        refine ev_goto (t := 36) i151_114 (by decide) ?_
        have ed : fg / 10 ^ (e + 1) % 10 = fg / (10 ^ (e + 1)) % 10 := by rfl
        have es : swnL fg ((e + 1) + 1) la cl = swnL fg (e + 1) (fg / (10 ^ (e + 1)) % 10) (updN cl (fg / (10 ^ (e + 1)) % 10) (cl (fg / (10 ^ (e + 1)) % 10) + 1)) := by
          conv => lhs; unfold swnL
          rw [ed]
          exact if_neg (fun h => by rcases h with h | h <;> omega)
        rw [es] at hN hS
        have hT3 := hT.cl (v := cl (fg / (10 ^ (e + 1)) % 10) + 1) b3 (show fg / (10 ^ (e + 1)) % 10 < 10 by omega)
        refine lq151a b3 b4 b5 b6 hfg hq3 (e + 1) (j + 1) (fg / (10 ^ (e + 1)) % 10) (updN cl (fg / (10 ^ (e + 1)) % 10) (cl (fg / (10 ^ (e + 1)) % 10) + 1)) H2 _ (by omega) (by omega) ⟨c0, ⟨ms, mk, c1, c2, c3, c4⟩, c5⟩ (hL.of0 b3 (ofL.rf.up (by omega))) hT3 (clup hx (by omega) (by omega)) hO hN hS _
      · refine ev_iconst (v := nI 0) i151_91 (by decide) ?_
        refine ev_zret i151_92 (by decide +kernel) (by decide) ?_
        exact hN H1 g hC hL hOO (by
          unfold swnL
          exact if_pos (Or.inr (by rw [show fg / 10 ^ (e + 1) % 10 = fg / (10 ^ (e + 1)) % 10 from rfl]; omega)))
theorem c151 {tb : dxT} {H : dxH} {n : Nat} {f : Nat → Int32} {sed : Int64} {sd kd : Nat → Nat} {s : Sn} {g : Nat → Int32} {m fg q : Nat} (b3 : n ≤ 6) (b4 : ∀ j, sd j < 2) (b5 : ∀ j, kd j < 4) (b6 : SnOK n s) (hm : m ≤ 8) (hfg : fg < 1000) (hq3 : q ≤ 3) (hC : MC H n f sed sd kd g) (hL : LvS g 0 n s) : Cl tb 151 [.ref 111, .int (nI m), .int (nI fg), .int (nI q)] H (fun r H' => r = some (.int (bI ((sowB n sd kd s q fg m)))) ∧ ∃ g', MC H' n f sed sd kd g' ∧ LvS g' 0 n s ∧ Off (fun j => j = 114) H H') := by
  have hOO : Off (fun j => j = 114) H H := Off.rf
  obtain ⟨c0, ⟨ms, mk, c1, c2, c3, c4⟩, c5⟩ := id hC
  unfold mOb at c0
  rcases (show q = 3 ∨ q = 2 ∨ q < 2 by omega) with hq3e | hq2e | hq1e

  · subst hq3e
    show Ev tb 151 0 [some (.ref 111), some (.int (nI m)), some (.int (nI fg)), some (.int (nI 3)), none, none, none, none, none] [] H _
    refine ev_aload_n i151_0 rfl ?_
    refine ev_callV (vs := []) (rest := []) i151_1 ci151 lk8_140 (congrArg (fun q => q + 1) np143) ci143 (by decide) (by decide +kernel) (Nat.le_of_ble_eq_true rfl) ⟨rfl, rfl, Nat.le_of_ble_eq_true rfl⟩ rfl (by assumption) (c143 b3 hC hL) (fun r H1 hq => ?_)
    obtain ⟨rfl, g1, hC, hL, hT, hO1⟩ := hq
    obtain ⟨c0, ⟨ms, mk, c1, c2, c3, c4⟩, c5⟩ := id hC
    unfold mOb at c0
    have hOO := hOO.trans hO1 (C := fun j => j = 114) (fun _ q => q) (fun _ q => q)
    show Ev tb 151 4 [some (.ref 111), some (.int (nI m)), some (.int (nI fg)), some (.int (nI 3)), none, none, none, none, none] [] H1 _
    refine ev_iconst (v := nI 0) i151_4 (by decide) ?_
    refine ev_istore (L' := [some (.ref 111), some (.int (nI m)), some (.int (nI fg)), some (.int (nI 3)), some (.int (nI 0)), none, none, none, none]) i151_5 ⟨Nat.le_of_ble_eq_true rfl, rfl⟩ rfl ?_
    refine ev_iload_n i151_7 rfl ?_
    refine ev_istore (L' := [some (.ref 111), some (.int (nI m)), some (.int (nI fg)), some (.int (nI 3)), some (.int (nI 0)), some (.int (nI fg)), none, none, none]) i151_8 ⟨Nat.le_of_ble_eq_true rfl, rfl⟩ rfl ?_
    refine ev_iload_n i151_10 rfl ?_
    refine ev_iconst (v := nI 3) i151_11 (by decide) ?_
    refine evn_icmp_ne (t := 20) i151_12 (by decide) (by omega) (fun z12 => by exfalso; omega) (fun z12 => ?_)
    refine ev_bipush (v := nI 100) i151_15 (by decide) ?_
    refine ev_goto (t := 31) i151_17 (by decide) ?_
    refine ev_istore (L' := [some (.ref 111), some (.int (nI m)), some (.int (nI fg)), some (.int (nI 3)), some (.int (nI 0)), some (.int (nI fg)), some (.int (nI 100)), none, none]) i151_31 ⟨Nat.le_of_ble_eq_true rfl, rfl⟩ rfl ?_
    refine ev_iconst (v := nI 0) i151_33 (by decide) ?_
    refine ev_istore (L' := [some (.ref 111), some (.int (nI m)), some (.int (nI fg)), some (.int (nI 3)), some (.int (nI 0)), some (.int (nI fg)), some (.int (nI 100)), some (.int (nI 0)), none]) i151_34 ⟨Nat.le_of_ble_eq_true rfl, rfl⟩ rfl ?_
    refine (congrArg (fun z => Ev tb 151 36 [some (.ref 111), some (.int (nI m)), some (.int (nI fg)), some (.int (nI 3)), some (.int (nI 0)), some (.int (nI fg)), some (.int (nI z)), some (.int (nI 0)), none] [] H1 _) (show 10 ^ (3 - 1) = 100 from rfl)).mp ?_
    refine lq151a b3 b4 b5 b6 hfg (by omega) 3 0 0 s.2.2.1 H1 g1 (by omega) (by omega) hC hL hT b6.2.2.1 hOO (fun H3 g3 hC3 hL3 hO3 hs => ?_) (fun cl3 H3 g3 w4 w6 w8 hC3 hL3 hT3 hx3 hO3 hs => ?_) _
    · refine ⟨?_, g3, hC3, hL3, hO3⟩
      unfold sowB
      rw [hs]
    · refine ev_bipush (v := (-9)) i151_117 (by decide) ?_
      refine ev_istore (L' := [some (.ref 111), some (.int (nI m)), some (.int (nI fg)), some (.int (nI 3)), some (.int w4), some (.int (nI fg)), some (.int w6), some (.int (-9)), w8]) i151_119 ⟨Nat.le_of_ble_eq_true rfl, rfl⟩ rfl ?_
      refine ev_iconst (v := nI 0) i151_121 (by decide) ?_
      refine ev_istore (L' := [some (.ref 111), some (.int (nI m)), some (.int (nI fg)), some (.int (nI 3)), some (.int w4), some (.int (nI fg)), some (.int w6), some (.int (-9)), some (.int (nI 0))]) i151_122 ⟨Nat.le_of_ble_eq_true rfl, rfl⟩ rfl ?_
      refine (lq151b b3 b4 b5 b6 hm m 0 (-9) _ H3 g3 (by omega) hC3 hL3 hT3 hx3 hO3).post (fun r H' hq2 => ?_)
      unfold sowB
      rw [hs]
      exact hq2
  · subst hq2e
    show Ev tb 151 0 [some (.ref 111), some (.int (nI m)), some (.int (nI fg)), some (.int (nI 2)), none, none, none, none, none] [] H _
    refine ev_aload_n i151_0 rfl ?_
    refine ev_callV (vs := []) (rest := []) i151_1 ci151 lk8_140 (congrArg (fun q => q + 1) np143) ci143 (by decide) (by decide +kernel) (Nat.le_of_ble_eq_true rfl) ⟨rfl, rfl, Nat.le_of_ble_eq_true rfl⟩ rfl (by assumption) (c143 b3 hC hL) (fun r H1 hq => ?_)
    obtain ⟨rfl, g1, hC, hL, hT, hO1⟩ := hq
    obtain ⟨c0, ⟨ms, mk, c1, c2, c3, c4⟩, c5⟩ := id hC
    unfold mOb at c0
    have hOO := hOO.trans hO1 (C := fun j => j = 114) (fun _ q => q) (fun _ q => q)
    show Ev tb 151 4 [some (.ref 111), some (.int (nI m)), some (.int (nI fg)), some (.int (nI 2)), none, none, none, none, none] [] H1 _
    refine ev_iconst (v := nI 0) i151_4 (by decide) ?_
    refine ev_istore (L' := [some (.ref 111), some (.int (nI m)), some (.int (nI fg)), some (.int (nI 2)), some (.int (nI 0)), none, none, none, none]) i151_5 ⟨Nat.le_of_ble_eq_true rfl, rfl⟩ rfl ?_
    refine ev_iload_n i151_7 rfl ?_
    refine ev_istore (L' := [some (.ref 111), some (.int (nI m)), some (.int (nI fg)), some (.int (nI 2)), some (.int (nI 0)), some (.int (nI fg)), none, none, none]) i151_8 ⟨Nat.le_of_ble_eq_true rfl, rfl⟩ rfl ?_
    refine ev_iload_n i151_10 rfl ?_
    refine ev_iconst (v := nI 3) i151_11 (by decide) ?_
    refine evn_icmp_ne (t := 20) i151_12 (by decide) (by omega) (fun z12 => ?_) (fun z12 => by exfalso; omega)
    refine ev_iload_n i151_20 rfl ?_
    refine ev_iconst (v := nI 2) i151_21 (by decide) ?_
    refine evn_icmp_ne (t := 30) i151_22 (by decide) (by omega) (fun z22 => by exfalso; omega) (fun z22 => ?_)
    refine ev_bipush (v := nI 10) i151_25 (by decide) ?_
    refine ev_goto (t := 31) i151_27 (by decide) ?_
    refine ev_istore (L' := [some (.ref 111), some (.int (nI m)), some (.int (nI fg)), some (.int (nI 2)), some (.int (nI 0)), some (.int (nI fg)), some (.int (nI 10)), none, none]) i151_31 ⟨Nat.le_of_ble_eq_true rfl, rfl⟩ rfl ?_
    refine ev_iconst (v := nI 0) i151_33 (by decide) ?_
    refine ev_istore (L' := [some (.ref 111), some (.int (nI m)), some (.int (nI fg)), some (.int (nI 2)), some (.int (nI 0)), some (.int (nI fg)), some (.int (nI 10)), some (.int (nI 0)), none]) i151_34 ⟨Nat.le_of_ble_eq_true rfl, rfl⟩ rfl ?_
    refine (congrArg (fun z => Ev tb 151 36 [some (.ref 111), some (.int (nI m)), some (.int (nI fg)), some (.int (nI 2)), some (.int (nI 0)), some (.int (nI fg)), some (.int (nI z)), some (.int (nI 0)), none] [] H1 _) (show 10 ^ (2 - 1) = 10 from rfl)).mp ?_
    refine lq151a b3 b4 b5 b6 hfg (by omega) 2 0 0 s.2.2.1 H1 g1 (by omega) (by omega) hC hL hT b6.2.2.1 hOO (fun H3 g3 hC3 hL3 hO3 hs => ?_) (fun cl3 H3 g3 w4 w6 w8 hC3 hL3 hT3 hx3 hO3 hs => ?_) _
    · refine ⟨?_, g3, hC3, hL3, hO3⟩
      unfold sowB
      rw [hs]
    · refine ev_bipush (v := (-9)) i151_117 (by decide) ?_
      refine ev_istore (L' := [some (.ref 111), some (.int (nI m)), some (.int (nI fg)), some (.int (nI 2)), some (.int w4), some (.int (nI fg)), some (.int w6), some (.int (-9)), w8]) i151_119 ⟨Nat.le_of_ble_eq_true rfl, rfl⟩ rfl ?_
      refine ev_iconst (v := nI 0) i151_121 (by decide) ?_
      refine ev_istore (L' := [some (.ref 111), some (.int (nI m)), some (.int (nI fg)), some (.int (nI 2)), some (.int w4), some (.int (nI fg)), some (.int w6), some (.int (-9)), some (.int (nI 0))]) i151_122 ⟨Nat.le_of_ble_eq_true rfl, rfl⟩ rfl ?_
      refine (lq151b b3 b4 b5 b6 hm m 0 (-9) _ H3 g3 (by omega) hC3 hL3 hT3 hx3 hO3).post (fun r H' hq2 => ?_)
      unfold sowB
      rw [hs]
      exact hq2
  · skip
    show Ev tb 151 0 [some (.ref 111), some (.int (nI m)), some (.int (nI fg)), some (.int (nI q)), none, none, none, none, none] [] H _
    refine ev_aload_n i151_0 rfl ?_
    refine ev_callV (vs := []) (rest := []) i151_1 ci151 lk8_140 (congrArg (fun q => q + 1) np143) ci143 (by decide) (by decide +kernel) (Nat.le_of_ble_eq_true rfl) ⟨rfl, rfl, Nat.le_of_ble_eq_true rfl⟩ rfl (by assumption) (c143 b3 hC hL) (fun r H1 hq => ?_)
    obtain ⟨rfl, g1, hC, hL, hT, hO1⟩ := hq
    obtain ⟨c0, ⟨ms, mk, c1, c2, c3, c4⟩, c5⟩ := id hC
    unfold mOb at c0
    have hOO := hOO.trans hO1 (C := fun j => j = 114) (fun _ q => q) (fun _ q => q)
    show Ev tb 151 4 [some (.ref 111), some (.int (nI m)), some (.int (nI fg)), some (.int (nI q)), none, none, none, none, none] [] H1 _
    refine ev_iconst (v := nI 0) i151_4 (by decide) ?_
    refine ev_istore (L' := [some (.ref 111), some (.int (nI m)), some (.int (nI fg)), some (.int (nI q)), some (.int (nI 0)), none, none, none, none]) i151_5 ⟨Nat.le_of_ble_eq_true rfl, rfl⟩ rfl ?_
    refine ev_iload_n i151_7 rfl ?_
    refine ev_istore (L' := [some (.ref 111), some (.int (nI m)), some (.int (nI fg)), some (.int (nI q)), some (.int (nI 0)), some (.int (nI fg)), none, none, none]) i151_8 ⟨Nat.le_of_ble_eq_true rfl, rfl⟩ rfl ?_
    refine ev_iload_n i151_10 rfl ?_
    refine ev_iconst (v := nI 3) i151_11 (by decide) ?_
    refine evn_icmp_ne (t := 20) i151_12 (by decide) (by omega) (fun z12 => ?_) (fun z12 => by exfalso; omega)
    refine ev_iload_n i151_20 rfl ?_
    refine ev_iconst (v := nI 2) i151_21 (by decide) ?_
    refine evn_icmp_ne (t := 30) i151_22 (by decide) (by omega) (fun z22 => ?_) (fun z22 => by exfalso; omega)
    refine ev_iconst (v := nI 1) i151_30 (by decide) ?_
    refine ev_istore (L' := [some (.ref 111), some (.int (nI m)), some (.int (nI fg)), some (.int (nI q)), some (.int (nI 0)), some (.int (nI fg)), some (.int (nI 1)), none, none]) i151_31 ⟨Nat.le_of_ble_eq_true rfl, rfl⟩ rfl ?_
    refine ev_iconst (v := nI 0) i151_33 (by decide) ?_
    refine ev_istore (L' := [some (.ref 111), some (.int (nI m)), some (.int (nI fg)), some (.int (nI q)), some (.int (nI 0)), some (.int (nI fg)), some (.int (nI 1)), some (.int (nI 0)), none]) i151_34 ⟨Nat.le_of_ble_eq_true rfl, rfl⟩ rfl ?_
    refine (congrArg (fun z => Ev tb 151 36 [some (.ref 111), some (.int (nI m)), some (.int (nI fg)), some (.int (nI q)), some (.int (nI 0)), some (.int (nI fg)), some (.int (nI z)), some (.int (nI 0)), none] [] H1 _) (show 10 ^ (q - 1) = 1 from by rw [show q - 1 = 0 by omega, Nat.pow_zero])).mp ?_
    refine lq151a b3 b4 b5 b6 hfg (by omega) q 0 0 s.2.2.1 H1 g1 (by omega) (by omega) hC hL hT b6.2.2.1 hOO (fun H3 g3 hC3 hL3 hO3 hs => ?_) (fun cl3 H3 g3 w4 w6 w8 hC3 hL3 hT3 hx3 hO3 hs => ?_) _
    · refine ⟨?_, g3, hC3, hL3, hO3⟩
      unfold sowB
      rw [hs]
    · refine ev_bipush (v := (-9)) i151_117 (by decide) ?_
      refine ev_istore (L' := [some (.ref 111), some (.int (nI m)), some (.int (nI fg)), some (.int (nI q)), some (.int w4), some (.int (nI fg)), some (.int w6), some (.int (-9)), w8]) i151_119 ⟨Nat.le_of_ble_eq_true rfl, rfl⟩ rfl ?_
      refine ev_iconst (v := nI 0) i151_121 (by decide) ?_
      refine ev_istore (L' := [some (.ref 111), some (.int (nI m)), some (.int (nI fg)), some (.int (nI q)), some (.int w4), some (.int (nI fg)), some (.int w6), some (.int (-9)), some (.int (nI 0))]) i151_122 ⟨Nat.le_of_ble_eq_true rfl, rfl⟩ rfl ?_
      refine (lq151b b3 b4 b5 b6 hm m 0 (-9) _ H3 g3 (by omega) hC3 hL3 hT3 hx3 hO3).post (fun r H' hq2 => ?_)
      unfold sowB
      rw [hs]
      exact hq2
theorem lq152a {tb : dxT} {H : dxH} {n : Nat} {f : Nat → Int32} {sed : Int64} {sd kd : Nat → Nat} {s : Sn} {m q : Nat} {u : Bool} {Q : Option Value → dxH → Prop} (b3 : n ≤ 6) (b4 : ∀ j, sd j < 2) (b5 : ∀ j, kd j < 4) (b6 : SnOK n s) (hm : m ≤ 8) (hq3 : q ≤ 3) : ∀ (d fg : Nat) (H1 : dxH) (g : Nat → Int32), fg + d = 10 ^ q → MC H1 n f sed sd kd g → LvS g 0 n s → Off (fun j => j = 114) H H1 → (∀ H3 g3 fg3, MC H3 n f sed sd kd g3 → LvS g3 0 n s → Off (fun j => j = 114) H H3 → fewL n sd kd s m q d fg = some fg3 → Q (some (.int (if u = true then nI (10 ^ q + fg3) else nI q))) H3) → (∀ H3 g3, MC H3 n f sed sd kd g3 → LvS g3 0 n s → Off (fun j => j = 114) H H3 → fewL n sd kd s m q d fg = none → Ev tb 152 67 [some (.ref 111), some (.int (nI m)), some (.int (bI u)), some (.int (nI (10 ^ q))), some (.int (nI q)), some (.int (nI (10 ^ q)))] [] H3 Q) → Ev tb 152 29 [some (.ref 111), some (.int (nI m)), some (.int (bI u)), some (.int (nI (10 ^ q))), some (.int (nI q)), some (.int (nI fg))] [] H1 Q
  | 0, fg, H1, g, hd, hC, hL, hOO, hS, hN => by
    obtain rfl : fg = 10 ^ q := by omega
    have hp8 : 10 ^ q ≤ 10 ^ 3 := Nat.pow_le_pow_right (by decide) hq3
    refine ev_iload i152_29 rfl ?_
    refine ev_iload_n i152_31 rfl ?_
    refine evn_icmp_ge (t := 67) i152_32 (by decide) (by omega) (fun z32 => ?_) (fun z32 => by exfalso; omega)
    exact hN H1 g hC hL hOO rfl
  | d + 1, fg, H1, g, hd, hC, hL, hOO, hS, hN => by
    have hp8 : 10 ^ q ≤ 10 ^ 3 := Nat.pow_le_pow_right (by decide) hq3
    obtain ⟨c0, ⟨ms, mk, c1, c2, c3, c4⟩, c5⟩ := id hC
    unfold mOb at c0
    refine ev_iload i152_29 rfl ?_
    refine ev_iload_n i152_31 rfl ?_
    refine evn_icmp_ge (t := 67) i152_32 (by decide) (by omega) (fun z32 => by exfalso; omega) (fun z32 => ?_)
    refine ev_aload_n i152_35 rfl ?_
    refine ev_iload_n i152_36 rfl ?_
    refine ev_iload i152_37 rfl ?_
    refine ev_iload i152_39 rfl ?_
    refine ev_callV (vs := [.int (nI m), .int (nI fg), .int (nI q)]) (rest := []) i152_41 ci152 lk8_156 (congrArg (fun q => q + 1) np151) ci151 (by decide) (by decide +kernel) (Nat.le_of_ble_eq_true rfl) ⟨rfl, rfl, Nat.le_of_ble_eq_true rfl⟩ rfl (by assumption) (c151 b3 b4 b5 b6 hm (by omega) hq3 hC hL) (fun r H2 hq => ?_)
    obtain ⟨rfl, g2, hC, hL, hO2⟩ := hq
    obtain ⟨c0, ⟨ms, mk, c1, c2, c3, c4⟩, c5⟩ := id hC
    unfold mOb at c0
    have hOO := hOO.trans hO2 (C := fun j => j = 114) (fun _ q => q) (fun _ q => q)
    show Ev tb 152 44 [some (.ref 111), some (.int (nI m)), some (.int (bI u)), some (.int (nI (10 ^ q))), some (.int (nI q)), some (.int (nI fg))] [.int (bI (sowB n sd kd s q fg m))] H2 _
    refine evb_if_eq (t := 61) i152_44 (by decide) (fun z44 => ?_) (fun z44 => ?_)
    · refine evn_iinc (d := 1) (L' := [some (.ref 111), some (.int (nI m)), some (.int (bI u)), some (.int (nI (10 ^ q))), some (.int (nI q)), some (.int (nI (fg + 1)))]) i152_61 rfl rfl (by decide) rfl ?_
      refine ev_goto (t := 29) i152_64 (by decide) ?_
      have es : fewL n sd kd s m q (d + 1) fg = fewL n sd kd s m q d (fg + 1) := by
        conv => lhs; unfold fewL
        exact if_neg (by simp [z44])
      rw [es] at hS hN
      exact lq152a b3 b4 b5 b6 hm hq3 d (fg + 1) _ _ (by omega) hC hL hOO hS hN
    · refine ev_iload_n i152_47 rfl ?_
      refine evb_if_eq (t := 58) i152_48 (by decide) (fun z48 => ?_) (fun z48 => ?_)
      · refine ev_iload i152_58 rfl ?_
        refine ev_iret i152_60 (by decide +kernel) ?_
        have h9 := hS _ _ fg hC hL hOO (by unfold fewL; exact if_pos z44)
        rw [if_neg (by simp [z48])] at h9
        exact h9
      · refine ev_iload_n i152_51 rfl ?_
        refine ev_iload i152_52 rfl ?_
        refine evn_iadd i152_54 ?_
        refine ev_goto (t := 60) i152_55 (by decide) ?_
        refine ev_iret i152_60 (by decide +kernel) ?_
        have h9 := hS _ _ fg hC hL hOO (by unfold fewL; exact if_pos z44)
        rw [if_pos z48] at h9
        exact h9
theorem lq152 {tb : dxT} {H : dxH} {n : Nat} {f : Nat → Int32} {sed : Int64} {sd kd : Nat → Nat} {s : Sn} {m : Nat} {u : Bool} (b3 : n ≤ 6) (b4 : ∀ j, sd j < 2) (b5 : ∀ j, kd j < 4) (b6 : SnOK n s) (hm : m ≤ 8) : ∀ (d q : Nat) (H1 : dxH) (g : Nat → Int32), q + d = 4 → MC H1 n f sed sd kd g → LvS g 0 n s → Off (fun j => j = 114) H H1 → ∀ w5, Ev tb 152 20 [some (.ref 111), some (.int (nI m)), some (.int (bI u)), some (.int (nI (10 ^ q))), some (.int (nI q)), w5] [] H1 (fun r H' => r = some (.int (fewQ n sd kd s m u d q)) ∧ ∃ g', MC H' n f sed sd kd g' ∧ LvS g' 0 n s ∧ Off (fun j => j = 114) H H')
  | 0, q, H1, g, hd, hC, hL, hOO, w5 => by
    obtain rfl : q = 4 := by omega
    refine ev_iload i152_20 rfl ?_
    refine ev_iconst (v := nI 4) i152_22 (by decide) ?_
    refine evn_icmp_ge (t := 78) i152_23 (by decide) (by omega) (fun z23 => ?_) (fun z23 => by exfalso; omega)
    refine ev_bipush (v := (-9)) i152_78 (by decide) ?_
    refine ev_iret i152_80 (by decide +kernel) ?_
    exact ⟨rfl, g, hC, hL, hOO⟩
  | d + 1, q, H1, g, hd, hC, hL, hOO, w5 => by
    have hp8 : 10 ^ q ≤ 10 ^ 3 := Nat.pow_le_pow_right (by decide) (show q ≤ 3 by omega)
    refine ev_iload i152_20 rfl ?_
    refine ev_iconst (v := nI 4) i152_22 (by decide) ?_
    refine evn_icmp_ge (t := 78) i152_23 (by decide) (by omega) (fun z23 => by exfalso; omega) (fun z23 => ?_)
    refine ev_iconst (v := nI 0) i152_26 (by decide) ?_
    refine ev_istore (L' := [some (.ref 111), some (.int (nI m)), some (.int (bI u)), some (.int (nI (10 ^ q))), some (.int (nI q)), some (.int (nI 0))]) i152_27 ⟨Nat.le_of_ble_eq_true rfl, rfl⟩ rfl ?_
    refine lq152a b3 b4 b5 b6 hm (by omega) (10 ^ q) 0 H1 g (by omega) hC hL hOO (fun H3 g3 fg3 hC3 hL3 hO3 hs => ?_) (fun H3 g3 hC3 hL3 hO3 hs => ?_)
    · refine ⟨?_, g3, hC3, hL3, hO3⟩
      unfold fewQ
      rw [hs]
    · refine ev_iload_n i152_67 rfl ?_
      refine ev_bipush (v := nI 10) i152_68 (by decide) ?_
      refine evn_imul i152_70 ?_
      refine ev_istore_n (L' := [some (.ref 111), some (.int (nI m)), some (.int (bI u)), some (.int (nI ((10 ^ q) * 10))), some (.int (nI q)), some (.int (nI (10 ^ q)))]) i152_71 ⟨Nat.le_of_ble_eq_true rfl, rfl⟩ rfl ?_
      refine evn_iinc (d := 1) (L' := [some (.ref 111), some (.int (nI m)), some (.int (bI u)), some (.int (nI ((10 ^ q) * 10))), some (.int (nI (q + 1))), some (.int (nI (10 ^ q)))]) i152_72 rfl rfl (by decide) rfl ?_
      refine ev_goto (t := 20) i152_75 (by decide) ?_
      rw [show 10 ^ q * 10 = 10 ^ (q + 1) from (Nat.pow_succ 10 q).symm]
      refine (lq152 b3 b4 b5 b6 hm d (q + 1) H3 g3 (by omega) hC3 hL3 hO3 _).post (fun r H' hq2 => ?_)
      unfold fewQ
      rw [hs]
      exact hq2
theorem y152 {tb : dxT} {H : dxH} {tx : Nat → Nat} {ln n : Nat} {sd kd : Nat → Nat} {s : Sn} {am : Nat} {stk : Nat → Sn} {kp : Nat → Bool} {ks : Nat → Sn} {tm : Nat} {tc th : Nat → Nat} {td : Nat → Bool} {sed : Int64} {m : Nat} {u : Bool} (hI : MInv H tx ln n sd kd s am stk kp ks tm tc th td sed) (hS : SpOK tx ln n sd kd s am stk kp ks tm tc th) (hm1 : 1 ≤ m) (hm : m ≤ 8) : Cl tb 152 [.ref 111, .int (nI m), .int (bI u)] H (fun r H' => r = some (.int (fewQ n sd kd s m u 4 0)) ∧ MInv H' tx ln n sd kd s am stk kp ks tm tc th td sed ∧ Off mC H H') := by
  obtain ⟨f, g, nx, ⟨hC, hL, e3, e6, e7, e8, hnx⟩, hR⟩ := id hI
  obtain ⟨⟨b1, b2⟩, b3, b4, b5, b6, b7, b8, b9, b10, b11⟩ := id hS
  obtain ⟨c0, ⟨ms, mk, c1, c2, c3, c4⟩, c5⟩ := id hC
  unfold mOb at c0
  show Ev tb 152 0 [some (.ref 111), some (.int (nI m)), some (.int (bI u)), none, none, none] [] H _
  refine ev_iload_n i152_0 rfl ?_
  refine ev_i2l i152_1 ?_
  refine ev_lconst (v := 1) i152_2 (by decide) ?_
  refine ev_ldc2 i152_3 ci152 ks8_138 ?_
  refine ev_callS (vs := [.long ((nI m).toInt64), .long 1, .long 8]) (rest := []) i152_6 ci152 lk8_62 (Or.inl rfl) np117 (by decide +kernel) (Nat.le_of_ble_eq_true rfl) ⟨rfl, rfl, Nat.le_of_ble_eq_true rfl⟩ rfl (c117) (fun r HH hq => ?_)
  obtain ⟨rfl, rfl⟩ := hq
  rw [inJ_M (x := (nI m)) (a := 1) (b := 8) (by decide) (by decide) (by decide) (by decide), show inM (nI m) 1 8 = true from ahd_n hm1 hm]
  show Ev tb 152 9 [some (.ref 111), some (.int (nI m)), some (.int (bI u)), none, none, none] [.int (bI true)] H _
  refine evb_if_ne (t := 15) i152_9 (by decide) (fun z9 => ?_) (fun z9 => by exfalso; cases z9)
  refine ev_iconst (v := nI 1) i152_15 (by decide) ?_
  refine ev_istore_n (L' := [some (.ref 111), some (.int (nI m)), some (.int (bI u)), some (.int (nI 1)), none, none]) i152_16 ⟨Nat.le_of_ble_eq_true rfl, rfl⟩ rfl ?_
  refine ev_iconst (v := nI 0) i152_17 (by decide) ?_
  refine ev_istore (L' := [some (.ref 111), some (.int (nI m)), some (.int (bI u)), some (.int (nI 1)), some (.int (nI 0)), none]) i152_18 ⟨Nat.le_of_ble_eq_true rfl, rfl⟩ rfl ?_
  refine (lq152 b3 b4 b5 b6 hm 4 0 H g (by omega) hC hL Off.rf _).post (fun r H' hq2 => ?_)
  obtain ⟨h1, g2, hC2, hL2, hO2⟩ := hq2
  exact ⟨h1, MInv.tr (H := H) hC2 hL2 ⟨e3, e6, e7, e8, hnx⟩ hR hO2⟩
theorem y152f {tb : dxT} {H : dxH} {tx : Nat → Nat} {ln n : Nat} {sd kd : Nat → Nat} {s : Sn} {am : Nat} {stk : Nat → Sn} {kp : Nat → Bool} {ks : Nat → Sn} {tm : Nat} {tc th : Nat → Nat} {td : Nat → Bool} {sed : Int64} {x : Int32} {u : Bool} (hI : MInv H tx ln n sd kd s am stk kp ks tm tc th td sed) (hS : SpOK tx ln n sd kd s am stk kp ks tm tc th) (h : ahdB x = false) : Cl tb 152 [.ref 111, .int x, .int (bI u)] H (fun r H' => r = some (.int (-2)) ∧ MInv H' tx ln n sd kd s am stk kp ks tm tc th td sed ∧ Off mC H H') := by
  obtain ⟨f, g, nx, ⟨hC, hL, e3, e6, e7, e8, hnx⟩, hR⟩ := id hI
  obtain ⟨⟨b1, b2⟩, b3, b4, b5, b6, b7, b8, b9, b10, b11⟩ := id hS
  obtain ⟨c0, ⟨ms, mk, c1, c2, c3, c4⟩, c5⟩ := id hC
  unfold mOb at c0
  show Ev tb 152 0 [some (.ref 111), some (.int x), some (.int (bI u)), none, none, none] [] H _
  refine ev_iload_n i152_0 rfl ?_
  refine ev_i2l i152_1 ?_
  refine ev_lconst (v := 1) i152_2 (by decide) ?_
  refine ev_ldc2 i152_3 ci152 ks8_138 ?_
  refine ev_callS (vs := [.long x.toInt64, .long 1, .long 8]) (rest := []) i152_6 ci152 lk8_62 (Or.inl rfl) np117 (by decide +kernel) (Nat.le_of_ble_eq_true rfl) ⟨rfl, rfl, Nat.le_of_ble_eq_true rfl⟩ rfl (c117) (fun r HH hq => ?_)
  obtain ⟨rfl, rfl⟩ := hq
  rw [inJ_M (x := x) (a := 1) (b := 8) (by decide) (by decide) (by decide) (by decide), show inM x 1 8 = false from h]
  show Ev tb 152 9 [some (.ref 111), some (.int x), some (.int (bI u)), none, none, none] [.int (bI false)] H _
  refine evb_if_ne (t := 15) i152_9 (by decide) (fun z9 => by exfalso; cases z9) (fun z9 => ?_)
  refine ev_bipush (v := (-2)) i152_12 (by decide) ?_
  refine ev_iret i152_14 (by decide +kernel) ?_
  exact ⟨rfl, hI, Off.rf⟩
theorem lq153 {tb : dxT} {H : dxH} {t : Nat} (ht : t < 1000) : ∀ d k : Nat, k + d = t → Ev tb 153 4 [some (.int (nI t)), some (.int (nI (10 ^ k))), some (.int (nI k))] [] H (Rt (.int (nI (10 ^ t))) H)
  | 0, k, hk => by
    obtain rfl : k = t := by omega
    refine ev_iload_n i153_4 rfl ?_
    refine ev_iload_n i153_5 rfl ?_
    refine evn_icmp_ge (t := 20) i153_6 (by decide) (by omega) (fun z6 => ?_) (fun z6 => by exfalso; omega)
    refine ev_iload_n i153_20 rfl ?_
    refine ev_iret i153_21 (by decide +kernel) ?_
    exact ⟨rfl, rfl⟩
  | d + 1, k, hk => by
    refine ev_iload_n i153_4 rfl ?_
    refine ev_iload_n i153_5 rfl ?_
    refine evn_icmp_ge (t := 20) i153_6 (by decide) (by omega) (fun z6 => by exfalso; omega) (fun z6 => ?_)
    refine ev_iload_n i153_9 rfl ?_
    refine ev_bipush (v := nI 10) i153_10 (by decide) ?_
    refine evn_imul i153_12 ?_
    refine ev_istore_n (L' := [some (.int (nI t)), some (.int (nI ((10 ^ k) * 10))), some (.int (nI k))]) i153_13 ⟨Nat.le_of_ble_eq_true rfl, rfl⟩ rfl ?_
    refine evn_iinc (d := 1) (L' := [some (.int (nI t)), some (.int (nI ((10 ^ k) * 10))), some (.int (nI (k + 1)))]) i153_14 rfl rfl (by decide) rfl ?_
    refine ev_goto (t := 4) i153_17 (by decide) ?_
    have k1 := lq153 (tb := tb) (H := H) ht d (k + 1) (by omega)
    rw [Nat.pow_succ] at k1
    exact k1
theorem c153 {tb : dxT} {H : dxH} {t : Nat} (ht : t < 1000) : Cl tb 153 [.int (nI t)] H (Rt (.int (nI (10 ^ t))) H) := by
  show Ev tb 153 0 [some (.int (nI t)), none, none] [] H _
  refine ev_iconst (v := nI 1) i153_0 (by decide) ?_
  refine ev_istore_n (L' := [some (.int (nI t)), some (.int (nI 1)), none]) i153_1 ⟨Nat.le_of_ble_eq_true rfl, rfl⟩ rfl ?_
  refine ev_iconst (v := nI 0) i153_2 (by decide) ?_
  refine ev_istore_n (L' := [some (.int (nI t)), some (.int (nI 1)), some (.int (nI 0))]) i153_3 ⟨Nat.le_of_ble_eq_true rfl, rfl⟩ rfl ?_
  exact lq153 ht t 0 (Nat.zero_add t)
theorem tenB {m : Nat} (h1 : 1 ≤ m) (h : m < 2147483648) : (nI (m - 1)).toInt64.toInt = (m : Int) - 1 := by
  rw [Int32.toInt_toInt64, nI_toInt (by omega)]
  omega
theorem lq154 {tb : dxT} {H : dxH} {n : Nat} {f : Nat → Int32} {sed : Int64} {sd kd : Nat → Nat} {s : Sn} {m row : Nat} (b3 : n ≤ 6) (b4 : ∀ j, sd j < 2) (b5 : ∀ j, kd j < 4) (b6 : SnOK n s) (hm : m ≤ 8) (hr : row < 2147483648) : ∀ (d k : Nat) (x : Hs) (H1 : dxH) (g : Nat → Int32), k + d = m → MC H1 n f sed sd kd g → LvS g 0 n s → Lv g (27 * 1) n s.1 s.2.1 x → SOK x → Off (fun j => j = 114) H H1 → Ev tb 154 37 [some (.ref 111), some (.int (nI m)), some (.int (nI row)), some (.int (nI k))] [] H1 (fun r H' => r = some (.int (jdgL row (HE n) sd kd s.1 s.2.1 d k x)) ∧ ∃ g', MC H' n f sed sd kd g' ∧ LvS g' 0 n s ∧ Off (fun j => j = 114) H H')
  | 0, k, x, H1, g, hk, hC, hL, hT, hx, hOO => by
    obtain rfl : k = m := by omega
    obtain ⟨c0, ⟨ms, mk, c1, c2, c3, c4⟩, c5⟩ := id hC
    unfold mOb at c0
    refine ev_iload_n i154_37 rfl ?_
    refine ev_iload_n i154_38 rfl ?_
    refine evn_icmp_ge (t := 74) i154_39 (by decide) (by omega) (fun z39 => ?_) (fun z39 => by exfalso; omega)
    refine ev_bipush (v := (-9)) i154_74 (by decide) ?_
    refine ev_iret i154_76 (by decide +kernel) ?_
    exact ⟨rfl, g, hC, hL, hOO⟩
  | d + 1, k, x, H1, g, hk, hC, hL, hT, hx, hOO => by
    have h4 := srtF_lt (he := HE n) (kd := kd) (fu := x.2.1) (sn := s.2.1) (rg := false)
    have hp0 := Nat.pow_pos (n := d) (show 0 < 10 by decide)
    have hp9 : 10 ^ d ≤ 10 ^ 8 := Nat.pow_le_pow_right (by decide) (by omega)
    obtain ⟨c0, ⟨ms, mk, c1, c2, c3, c4⟩, c5⟩ := id hC
    unfold mOb at c0
    refine ev_iload_n i154_37 rfl ?_
    refine ev_iload_n i154_38 rfl ?_
    refine evn_icmp_ge (t := 74) i154_39 (by decide) (by omega) (fun z39 => by exfalso; omega) (fun z39 => ?_)
    refine ev_aload_n i154_42 rfl ?_
    refine ev_iconst (v := nI 1) i154_43 (by decide) ?_
    refine ev_bipush (v := nI 63) i154_44 (by decide) ?_
    refine ev_iconst (v := nI 0) i154_46 (by decide) ?_
    refine ev_callV (vs := [.int (nI 1), .int (nI 63), .int (nI 0)]) (rest := []) i154_47 ci154 lk8_132 (congrArg (fun q => q + 1) np135) ci135 (by decide) (by decide +kernel) (Nat.le_of_ble_eq_true rfl) ⟨rfl, rfl, Nat.le_of_ble_eq_true rfl⟩ rfl (by assumption) (c135 (rg := false) b3 b4 b5 b6.1 (by decide) (by decide) hC hT hx) (fun r H2 hq => ?_)
    obtain ⟨rfl, g2, hC, hT, hG2, hO2⟩ := hq
    rw [and63 n (by omega)] at hT
    rw [and63 n (by omega)]
    have hL := hL.of0 b3 hG2
    obtain ⟨c0, ⟨ms, mk, c1, c2, c3, c4⟩, c5⟩ := id hC
    unfold mOb at c0
    have hOO := hOO.trans hO2 (C := fun j => j = 114) (fun _ q => q) (fun _ q => q)
    have hx3 := hrF_ok (he := HE n) (sd := sd) (kd := kd) (ce := s.1) (sn := s.2.1) (rg := false) b6.1 b4 hx
    show Ev tb 154 50 [some (.ref 111), some (.int (nI m)), some (.int (nI row)), some (.int (nI k))] [.int (nI (srtF (HE n) kd x.2.1 s.2.1 false))] H2 _
    refine ev_iload_n i154_50 rfl ?_
    refine ev_iload_n i154_51 rfl ?_
    refine ev_iconst (v := nI 1) i154_52 (by decide) ?_
    refine evn_isub i154_53 (by omega) ?_
    refine ev_iload_n i154_54 rfl ?_
    refine evn_isub i154_55 (by omega) ?_
    refine ev_callS (vs := [.int (nI ((m - 1) - k))]) (rest := [.int (nI row), .int (nI (srtF (HE n) kd x.2.1 s.2.1 false))]) i154_56 ci154 lk8_160 (Or.inl rfl) np153 (by decide +kernel) (Nat.le_of_ble_eq_true rfl) ⟨rfl, rfl, Nat.le_of_ble_eq_true rfl⟩ rfl (c153 (by omega)) (fun r HH hq => ?_)
    obtain ⟨rfl, rfl⟩ := hq
    show Ev tb 154 59 [some (.ref 111), some (.int (nI m)), some (.int (nI row)), some (.int (nI k))] [.int (nI (10 ^ ((m - 1) - k))), .int (nI row), .int (nI (srtF (HE n) kd x.2.1 s.2.1 false))] H2 _
    rw [show m - 1 - k = d by omega]
    refine evn_idiv i154_59 (by omega) ?_
    refine ev_bipush (v := nI 10) i154_60 (by decide) ?_
    refine evn_irem i154_62 (by first | omega | exact ⟨Nat.lt_of_le_of_lt (Nat.div_le_self _ _) (by omega), by decide, by decide⟩) ?_
    refine evn_icmp_eq (t := 68) i154_63 (by decide) (by omega) (fun z63 => ?_) (fun z63 => ?_)
    · refine evn_iinc (d := 1) (L' := [some (.ref 111), some (.int (nI m)), some (.int (nI row)), some (.int (nI (k + 1)))]) i154_68 rfl rfl (by decide) rfl ?_
      refine ev_goto (t := 37) i154_71 (by decide) ?_
      refine (lq154 b3 b4 b5 b6 hm hr d (k + 1) _ _ _ (by omega) hC hL hT hx3 hOO).post (fun r H' hq2 => ?_)
      unfold jdgL
      rw [if_pos z63.symm]
      exact hq2
    · refine ev_iload_n i154_66 rfl ?_
      refine ev_iret i154_67 (by decide +kernel) ?_
      unfold jdgL
      rw [if_neg (fun h => z63 h.symm)]
      exact ⟨rfl, _, hC, hL, hOO⟩
theorem y154 {tb : dxT} {H : dxH} {tx : Nat → Nat} {ln n : Nat} {sd kd : Nat → Nat} {s : Sn} {am : Nat} {stk : Nat → Sn} {kp : Nat → Bool} {ks : Nat → Sn} {tm : Nat} {tc th : Nat → Nat} {td : Nat → Bool} {sed : Int64} {m row : Nat} (hI : MInv H tx ln n sd kd s am stk kp ks tm tc th td sed) (hS : SpOK tx ln n sd kd s am stk kp ks tm tc th) (hm1 : 1 ≤ m) (hm : m ≤ 8) (hr : row < 10 ^ m) : Cl tb 154 [.ref 111, .int (nI m), .int (nI row)] H (fun r H' => r = some (.int (jdgL row (HE n) sd kd s.1 s.2.1 m 0 s.2.2)) ∧ MInv H' tx ln n sd kd s am stk kp ks tm tc th td sed ∧ Off mC H H') := by
  obtain ⟨f, g, nx, ⟨hC, hL, e3, e6, e7, e8, hnx⟩, hR⟩ := id hI
  obtain ⟨⟨b1, b2⟩, b3, b4, b5, b6, b7, b8, b9, b10, b11⟩ := id hS
  obtain ⟨c0, ⟨ms, mk, c1, c2, c3, c4⟩, c5⟩ := id hC
  unfold mOb at c0
  have hp8 : 10 ^ m ≤ 10 ^ 8 := Nat.pow_le_pow_right (by decide) hm
  have hp0 := Nat.pow_pos (n := m) (show 0 < 10 by decide)
  have hOO : Off (fun j => j = 114) H H := Off.rf
  show Ev tb 154 0 [some (.ref 111), some (.int (nI m)), some (.int (nI row)), none] [] H _
  refine ev_iload_n i154_0 rfl ?_
  refine ev_i2l i154_1 ?_
  refine ev_lconst (v := 1) i154_2 (by decide) ?_
  refine ev_ldc2 i154_3 ci154 ks8_138 ?_
  refine ev_callS (vs := [.long ((nI m).toInt64), .long 1, .long 8]) (rest := []) i154_6 ci154 lk8_62 (Or.inl rfl) np117 (by decide +kernel) (Nat.le_of_ble_eq_true rfl) ⟨rfl, rfl, Nat.le_of_ble_eq_true rfl⟩ rfl (c117) (fun r HH hq => ?_)
  obtain ⟨rfl, rfl⟩ := hq
  rw [inJ_M (x := (nI m)) (a := 1) (b := 8) (by decide) (by decide) (by decide) (by decide), show inM (nI m) 1 8 = true from ahd_n hm1 hm]
  show Ev tb 154 9 [some (.ref 111), some (.int (nI m)), some (.int (nI row)), none] [.int (bI true)] H _
  refine evb_if_eq (t := 28) i154_9 (by decide) (fun z9 => by exfalso; cases z9) (fun z9 => ?_)
  refine ev_iload_n i154_12 rfl ?_
  refine ev_i2l i154_13 ?_
  refine ev_lconst (v := 0) i154_14 (by decide) ?_
  refine ev_iload_n i154_15 rfl ?_
  refine ev_callS (vs := [.int (nI m)]) (rest := [.long 0, .long ((nI row).toInt64)]) i154_16 ci154 lk8_160 (Or.inl rfl) np153 (by decide +kernel) (Nat.le_of_ble_eq_true rfl) ⟨rfl, rfl, Nat.le_of_ble_eq_true rfl⟩ rfl (c153 (by omega)) (fun r HH hq => ?_)
  obtain ⟨rfl, rfl⟩ := hq
  show Ev tb 154 19 [some (.ref 111), some (.int (nI m)), some (.int (nI row)), none] [.int (nI (10 ^ m)), .long 0, .long ((nI row).toInt64)] H _
  refine ev_iconst (v := nI 1) i154_19 (by decide) ?_
  refine evn_isub i154_20 (by omega) ?_
  refine ev_i2l i154_21 ?_
  refine ev_callS (vs := [.long ((nI row).toInt64), .long 0, .long ((nI ((10 ^ m) - 1)).toInt64)]) (rest := []) i154_22 ci154 lk8_62 (Or.inl rfl) np117 (by decide +kernel) (Nat.le_of_ble_eq_true rfl) ⟨rfl, rfl, Nat.le_of_ble_eq_true rfl⟩ rfl (c117) (fun r HH hq => ?_)
  obtain ⟨rfl, rfl⟩ := hq
  rw [inJ_R (x := nI row) (m := 10 ^ m) (tenB (by omega) (by omega)) (by omega), inR_n (by omega) (by omega), decide_eq_true hr]
  show Ev tb 154 25 [some (.ref 111), some (.int (nI m)), some (.int (nI row)), none] [.int (bI true)] H _
  refine evb_if_ne (t := 31) i154_25 (by decide) (fun z25 => ?_) (fun z25 => by exfalso; cases z25)
  refine ev_aload_n i154_31 rfl ?_
  refine ev_callV (vs := []) (rest := []) i154_32 ci154 lk8_140 (congrArg (fun q => q + 1) np143) ci143 (by decide) (by decide +kernel) (Nat.le_of_ble_eq_true rfl) ⟨rfl, rfl, Nat.le_of_ble_eq_true rfl⟩ rfl (by assumption) (c143 b3 hC hL) (fun r H1 hq => ?_)
  obtain ⟨rfl, g1, hC, hL, hT, hO1⟩ := hq
  obtain ⟨c0, ⟨ms, mk, c1, c2, c3, c4⟩, c5⟩ := id hC
  unfold mOb at c0
  have hOO := hOO.trans hO1 (C := fun j => j = 114) (fun _ q => q) (fun _ q => q)
  show Ev tb 154 35 [some (.ref 111), some (.int (nI m)), some (.int (nI row)), none] [] H1 _
  refine ev_iconst (v := nI 0) i154_35 (by decide) ?_
  refine ev_istore_n (L' := [some (.ref 111), some (.int (nI m)), some (.int (nI row)), some (.int (nI 0))]) i154_36 ⟨Nat.le_of_ble_eq_true rfl, rfl⟩ rfl ?_
  refine (lq154 b3 b4 b5 b6 hm (by omega) m 0 _ H1 g1 (by omega) hC hL hT b6.2.2.1 hOO).post (fun r H' hq2 => ?_)
  obtain ⟨h1, g2, hC2, hL2, hO2⟩ := hq2
  exact ⟨h1, MInv.tr (H := H) hC2 hL2 ⟨e3, e6, e7, e8, hnx⟩ hR hO2⟩
theorem y154f {tb : dxT} {H : dxH} {tx : Nat → Nat} {ln n : Nat} {sd kd : Nat → Nat} {s : Sn} {am : Nat} {stk : Nat → Sn} {kp : Nat → Bool} {ks : Nat → Sn} {tm : Nat} {tc th : Nat → Nat} {td : Nat → Bool} {sed : Int64} {x y : Int32} (hI : MInv H tx ln n sd kd s am stk kp ks tm tc th td sed) (hS : SpOK tx ln n sd kd s am stk kp ks tm tc th) (h : ahdB x = false) : Cl tb 154 [.ref 111, .int x, .int y] H (fun r H' => r = some (.int (-2)) ∧ MInv H' tx ln n sd kd s am stk kp ks tm tc th td sed ∧ Off mC H H') := by
  obtain ⟨f, g, nx, ⟨hC, hL, e3, e6, e7, e8, hnx⟩, hR⟩ := id hI
  obtain ⟨⟨b1, b2⟩, b3, b4, b5, b6, b7, b8, b9, b10, b11⟩ := id hS
  obtain ⟨c0, ⟨ms, mk, c1, c2, c3, c4⟩, c5⟩ := id hC
  unfold mOb at c0
  show Ev tb 154 0 [some (.ref 111), some (.int x), some (.int y), none] [] H _
  refine ev_iload_n i154_0 rfl ?_
  refine ev_i2l i154_1 ?_
  refine ev_lconst (v := 1) i154_2 (by decide) ?_
  refine ev_ldc2 i154_3 ci154 ks8_138 ?_
  refine ev_callS (vs := [.long x.toInt64, .long 1, .long 8]) (rest := []) i154_6 ci154 lk8_62 (Or.inl rfl) np117 (by decide +kernel) (Nat.le_of_ble_eq_true rfl) ⟨rfl, rfl, Nat.le_of_ble_eq_true rfl⟩ rfl (c117) (fun r HH hq => ?_)
  obtain ⟨rfl, rfl⟩ := hq
  rw [inJ_M (x := x) (a := 1) (b := 8) (by decide) (by decide) (by decide) (by decide), show inM x 1 8 = false from h]
  show Ev tb 154 9 [some (.ref 111), some (.int x), some (.int y), none] [.int (bI false)] H _
  refine evb_if_eq (t := 28) i154_9 (by decide) (fun z9 => ?_) (fun z9 => by exfalso; cases z9)
  refine ev_bipush (v := (-2)) i154_28 (by decide) ?_
  refine ev_iret i154_30 (by decide +kernel) ?_
  exact ⟨rfl, hI, Off.rf⟩
theorem y154o {tb : dxT} {H : dxH} {tx : Nat → Nat} {ln n : Nat} {sd kd : Nat → Nat} {s : Sn} {am : Nat} {stk : Nat → Sn} {kp : Nat → Bool} {ks : Nat → Sn} {tm : Nat} {tc th : Nat → Nat} {td : Nat → Bool} {sed : Int64} {m : Nat} {y : Int32} (hI : MInv H tx ln n sd kd s am stk kp ks tm tc th td sed) (hS : SpOK tx ln n sd kd s am stk kp ks tm tc th) (hm1 : 1 ≤ m) (hm : m ≤ 8) (h : inR y (10 ^ m) = false) : Cl tb 154 [.ref 111, .int (nI m), .int y] H (fun r H' => r = some (.int (-2)) ∧ MInv H' tx ln n sd kd s am stk kp ks tm tc th td sed ∧ Off mC H H') := by
  obtain ⟨f, g, nx, ⟨hC, hL, e3, e6, e7, e8, hnx⟩, hR⟩ := id hI
  obtain ⟨⟨b1, b2⟩, b3, b4, b5, b6, b7, b8, b9, b10, b11⟩ := id hS
  obtain ⟨c0, ⟨ms, mk, c1, c2, c3, c4⟩, c5⟩ := id hC
  unfold mOb at c0
  have hp8 : 10 ^ m ≤ 10 ^ 8 := Nat.pow_le_pow_right (by decide) hm
  have hp0 := Nat.pow_pos (n := m) (show 0 < 10 by decide)
  show Ev tb 154 0 [some (.ref 111), some (.int (nI m)), some (.int y), none] [] H _
  refine ev_iload_n i154_0 rfl ?_
  refine ev_i2l i154_1 ?_
  refine ev_lconst (v := 1) i154_2 (by decide) ?_
  refine ev_ldc2 i154_3 ci154 ks8_138 ?_
  refine ev_callS (vs := [.long ((nI m).toInt64), .long 1, .long 8]) (rest := []) i154_6 ci154 lk8_62 (Or.inl rfl) np117 (by decide +kernel) (Nat.le_of_ble_eq_true rfl) ⟨rfl, rfl, Nat.le_of_ble_eq_true rfl⟩ rfl (c117) (fun r HH hq => ?_)
  obtain ⟨rfl, rfl⟩ := hq
  rw [inJ_M (x := (nI m)) (a := 1) (b := 8) (by decide) (by decide) (by decide) (by decide), show inM (nI m) 1 8 = true from ahd_n hm1 hm]
  show Ev tb 154 9 [some (.ref 111), some (.int (nI m)), some (.int y), none] [.int (bI true)] H _
  refine evb_if_eq (t := 28) i154_9 (by decide) (fun z9 => by exfalso; cases z9) (fun z9 => ?_)
  refine ev_iload_n i154_12 rfl ?_
  refine ev_i2l i154_13 ?_
  refine ev_lconst (v := 0) i154_14 (by decide) ?_
  refine ev_iload_n i154_15 rfl ?_
  refine ev_callS (vs := [.int (nI m)]) (rest := [.long 0, .long y.toInt64]) i154_16 ci154 lk8_160 (Or.inl rfl) np153 (by decide +kernel) (Nat.le_of_ble_eq_true rfl) ⟨rfl, rfl, Nat.le_of_ble_eq_true rfl⟩ rfl (c153 (by omega)) (fun r HH hq => ?_)
  obtain ⟨rfl, rfl⟩ := hq
  show Ev tb 154 19 [some (.ref 111), some (.int (nI m)), some (.int y), none] [.int (nI (10 ^ m)), .long 0, .long y.toInt64] H _
  refine ev_iconst (v := nI 1) i154_19 (by decide) ?_
  refine evn_isub i154_20 (by omega) ?_
  refine ev_i2l i154_21 ?_
  refine ev_callS (vs := [.long y.toInt64, .long 0, .long ((nI ((10 ^ m) - 1)).toInt64)]) (rest := []) i154_22 ci154 lk8_62 (Or.inl rfl) np117 (by decide +kernel) (Nat.le_of_ble_eq_true rfl) ⟨rfl, rfl, Nat.le_of_ble_eq_true rfl⟩ rfl (c117) (fun r HH hq => ?_)
  obtain ⟨rfl, rfl⟩ := hq
  rw [inJ_R (x := y) (m := 10 ^ m) (tenB (by omega) (by omega)) (by omega), h]
  show Ev tb 154 25 [some (.ref 111), some (.int (nI m)), some (.int y), none] [.int (bI false)] H _
  refine evb_if_ne (t := 31) i154_25 (by decide) (fun z25 => by exfalso; cases z25) (fun z25 => ?_)
  refine ev_bipush (v := (-2)) i154_28 (by decide) ?_
  refine ev_iret i154_30 (by decide +kernel) ?_
  exact ⟨rfl, hI, Off.rf⟩
