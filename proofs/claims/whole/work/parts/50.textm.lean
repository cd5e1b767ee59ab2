/-! the model's text read through  -/
theorem lq124 {tb : dxT} {H : dxH} {n : Nat} {f : Nat → Int32} {sed : Int64} {ln : Nat} {mt : Nat → Int32} {tx : Nat → Nat} (T0 : H[118]? = some (.inl (0, 64, .inl mt))) (hmt : ∀ j, j < ln → mt j = nI (tx j)) (hln : ln ≤ 64) (htx : ∀ j, tx j < 256) : ∀ (d gr tk p : Nat) (t : Tl) (H1 : dxH) (R rs rkk : Nat → Int32), ln ≤ p + 3 * d → gr < 1024 → tk < 1024 → p ≤ ln → t.1 = popN tk → t.1 ≤ 6 → RI R rs rkk t → H1[111]? = some (pOb n f sed ln (nI t.1) (nI gr) (nI tk) (nI p) (-9)) → H1[115]? = some (.inl (0, 27, .inl R)) → H1[116]? = some (.inl (0, 6, .inl rs)) → H1[117]? = some (.inl (0, 6, .inl rkk)) → Off (fun j => j = 111 ∨ (115 ≤ j ∧ j ≤ 117)) H H1 → ∀ w1 : Int32, Ev tb 124 72 [some (.ref 111), some (.int w1)] [] H1 (fun r H' => r = some (.int (fplL tx ln d gr tk p)) ∧ ∃ (rc rv rl at_ fa : Int32) (R rs rkk : Nat → Int32), H'[111]? = some (pOb n f sed ln rc rv rl at_ fa) ∧ H'[115]? = some (.inl (0, 27, .inl R)) ∧ H'[116]? = some (.inl (0, 6, .inl rs)) ∧ H'[117]? = some (.inl (0, 6, .inl rkk)) ∧ Off (fun j => j = 111 ∨ (115 ≤ j ∧ j ≤ 117)) H H' ∧ (fplL tx ln d gr tk p = -9 → rc = nI (telL tx ln d p t).1 ∧ RI R rs rkk (telL tx ln d p t)))
  | 0, gr, tk, p, t, H1, R, rs, rkk, hd, hgr, htk, hp, ht, ht6, hR, c0, a5, a6, a7, hO, w1 => by
    unfold pOb at c0
    have t0 := hO.at T0 (by omega)
    rw [show fplL tx ln 0 gr tk p = -9 from rfl, show telL tx ln 0 p t = t from rfl]
    have hpe : ln ≤ p := by omega
    refine ev_aload_n i124_72 rfl ?_
    refine ev_get i124_73 ci124 fl8_69 (by assumption) rfl ?_
    refine ev_bipush (v := (-9)) i124_76 (by decide) ?_
    refine ev_icmp_ne (t := 220) i124_78 (by decide) (fun z78 => by exfalso; exact absurd rfl z78) (fun z78 => ?_)
    refine ev_aload_n i124_81 rfl ?_
    refine ev_get i124_82 ci124 fl8_72 (by assumption) rfl ?_
    refine ev_aload_n i124_85 rfl ?_
    refine ev_get i124_86 ci124 fl8_66 (by assumption) rfl ?_
    refine evn_icmp_ge (t := 220) i124_89 (by decide) (by omega) (fun z89 => ?_) (fun z89 => by exfalso; omega)
    refine ev_aload_n i124_220 rfl ?_
    refine ev_get i124_221 ci124 fl8_69 (by assumption) rfl ?_
    refine ev_iret i124_224 (by decide +kernel) ?_
    exact ⟨rfl, _, _, _, _, _, R, rs, rkk, c0, a5, a6, a7, hO, fun _ => ⟨rfl, hR⟩⟩
  | d + 1, gr, tk, p, t, H1, R, rs, rkk, hd, hgr, htk, hp, ht, ht6, hR, c0, a5, a6, a7, hO, w1 => by
    have htp := htx p
    unfold pOb at c0
    have t0 := hO.at T0 (by omega)
    by_cases hpe : ln ≤ p
    · rw [show fplL tx ln (d + 1) gr tk p = -9 by unfold fplL; exact if_pos hpe, show telL tx ln (d + 1) p t = t by unfold telL; exact if_pos hpe]
      refine ev_aload_n i124_72 rfl ?_
      refine ev_get i124_73 ci124 fl8_69 (by assumption) rfl ?_
      refine ev_bipush (v := (-9)) i124_76 (by decide) ?_
      refine ev_icmp_ne (t := 220) i124_78 (by decide) (fun z78 => by exfalso; exact absurd rfl z78) (fun z78 => ?_)
      refine ev_aload_n i124_81 rfl ?_
      refine ev_get i124_82 ci124 fl8_72 (by assumption) rfl ?_
      refine ev_aload_n i124_85 rfl ?_
      refine ev_get i124_86 ci124 fl8_66 (by assumption) rfl ?_
      refine evn_icmp_ge (t := 220) i124_89 (by decide) (by omega) (fun z89 => ?_) (fun z89 => by exfalso; omega)
      refine ev_aload_n i124_220 rfl ?_
      refine ev_get i124_221 ci124 fl8_69 (by assumption) rfl ?_
      refine ev_iret i124_224 (by decide +kernel) ?_
      exact ⟨rfl, _, _, _, _, _, R, rs, rkk, c0, a5, a6, a7, hO, fun _ => ⟨rfl, hR⟩⟩
    · by_cases hG : tx p = 71
      · by_cases hgr3 : gr = 1023
        · rw [show fplL tx ln (d + 1) gr tk p = nI p by
            unfold fplL
            rw [if_neg hpe, if_pos hG, if_pos hgr3]]
          refine ev_aload_n i124_72 rfl ?_
          refine ev_get i124_73 ci124 fl8_69 (by assumption) rfl ?_
          refine ev_bipush (v := (-9)) i124_76 (by decide) ?_
          refine ev_icmp_ne (t := 220) i124_78 (by decide) (fun z78 => by exfalso; exact absurd rfl z78) (fun z78 => ?_)
          refine ev_aload_n i124_81 rfl ?_
          refine ev_get i124_82 ci124 fl8_72 (by assumption) rfl ?_
          refine ev_aload_n i124_85 rfl ?_
          refine ev_get i124_86 ci124 fl8_66 (by assumption) rfl ?_
          refine evn_icmp_ge (t := 220) i124_89 (by decide) (by omega) (fun z89 => by exfalso; omega) (fun z89 => ?_)
          refine ev_aload_n i124_92 rfl ?_
          refine ev_get i124_93 ci124 fl8_28 (by assumption) rfl ?_
          refine ev_aload_n i124_96 rfl ?_
          refine ev_get i124_97 ci124 fl8_72 (by assumption) rfl ?_
          refine ev_iald_n i124_100 (by assumption) (by omega) ?_
          rw [hmt p (by omega)]
          refine ev_bipush (v := nI 71) i124_101 (by decide) ?_
          refine evn_icmp_ne (t := 169) i124_103 (by decide) (by omega) (fun z103 => by exfalso; exact z103 hG) (fun z103 => ?_)
          refine ev_aload_n i124_106 rfl ?_
          refine ev_get i124_107 ci124 fl8_84 (by assumption) rfl ?_
          refine ev_sipush (v := nI 1023) i124_110 (by decide) ?_
          refine evn_icmp_eq (t := 169) i124_113 (by decide) (by omega) (fun z113 => ?_) (fun z113 => by exfalso; exact z113 hgr3)
          refine ev_aload_n i124_169 rfl ?_
          refine ev_get i124_170 ci124 fl8_28 (by assumption) rfl ?_
          refine ev_aload_n i124_173 rfl ?_
          refine ev_get i124_174 ci124 fl8_72 (by assumption) rfl ?_
          refine ev_iald_n i124_177 (by assumption) (by omega) ?_
          rw [hmt p (by omega)]
          refine ev_bipush (v := nI 75) i124_178 (by decide) ?_
          refine evn_icmp_ne (t := 209) i124_180 (by decide) (by omega) (fun z180 => ?_) (fun z180 => by exfalso; omega)
          refine ev_aload_n i124_209 rfl ?_
          refine ev_aload_n i124_210 rfl ?_
          refine ev_get i124_211 ci124 fl8_72 (by assumption) rfl ?_
          refine evs_put (fs' := [.int (nI n), .ref 112, .ref 113, .ref 114, .ref 115, .ref 116, .ref 117, .int (nI t.1), .int (nI gr), .int (nI tk), .ref 118, .int (nI ln), .int (nI p), .int (nI p), .int (f 6), .int (f 7), .ref 119, .ref 120, .int (f 8), .ref 121, .ref 122, .ref 123, .ref 124, .long sed, .ref 125, .ref 126]) i124_214 ci124 fl8_69 (by assumption) ⟨Nat.le_of_ble_eq_true rfl, rfl, Or.inl rfl⟩ rfl (fun H2 hH2 => ?_)
          have c0 : H2[111]? = some (.inr (8, [.int (nI n), .ref 112, .ref 113, .ref 114, .ref 115, .ref 116, .ref 117, .int (nI t.1), .int (nI gr), .int (nI tk), .ref 118, .int (nI ln), .int (nI p), .int (nI p), .int (f 6), .int (f 7), .ref 119, .ref 120, .int (f 8), .ref 121, .ref 122, .ref 123, .ref 124, .long sed, .ref 125, .ref 126])) := by rw [hH2]; exact set_self c0
          have a5 : H2[115]? = some (.inl (0, 27, .inl R)) := by rw [hH2]; exact set_ne a5 (by omega)
          have a6 : H2[116]? = some (.inl (0, 6, .inl rs)) := by rw [hH2]; exact set_ne a6 (by omega)
          have a7 : H2[117]? = some (.inl (0, 6, .inl rkk)) := by rw [hH2]; exact set_ne a7 (by omega)
          have t0 : H2[118]? = some (.inl (0, 64, .inl mt)) := by rw [hH2]; exact set_ne t0 (by omega)
          have hO : Off (fun j => j = 111 ∨ (115 ≤ j ∧ j ≤ 117)) H H2 := by rw [hH2]; exact hO.set (by first | exact Or.inl rfl | exact Or.inr ⟨by decide, by decide⟩)
          refine ev_goto (t := 72) i124_217 (by decide) ?_
          refine ev_aload_n i124_72 rfl ?_
          refine ev_get i124_73 ci124 fl8_69 (by assumption) rfl ?_
          refine ev_bipush (v := (-9)) i124_76 (by decide) ?_
          refine ev_icmp_ne (t := 220) i124_78 (by decide) (fun z78 => ?_) (fun z78 => by exfalso; exact absurd z78 (m9_ne (by omega)))
          refine ev_aload_n i124_220 rfl ?_
          refine ev_get i124_221 ci124 fl8_69 (by assumption) rfl ?_
          refine ev_iret i124_224 (by decide +kernel) ?_
          exact ⟨rfl, _, _, _, _, _, _, _, _, c0, a5, a6, a7, hO, fun q => absurd q (m9_ne (by omega))⟩
        · by_cases hf : fopL tx ln true gr p (pln true) 0 = -9
          · obtain ⟨l0, o0, f1⟩ := fop_ok (d := 1) (i := 0) hln (by omega) (by decide) hf
            obtain ⟨l1, o1, _⟩ := fop_ok (d := 0) (i := 1) hln (by omega) (by decide) f1
            obtain ⟨q0, hbit⟩ := okP_0.mp o0
            have q1 := okG1.mp o1
            refine ev_aload_n i124_72 rfl ?_
            refine ev_get i124_73 ci124 fl8_69 (by assumption) rfl ?_
            refine ev_bipush (v := (-9)) i124_76 (by decide) ?_
            refine ev_icmp_ne (t := 220) i124_78 (by decide) (fun z78 => by exfalso; exact absurd rfl z78) (fun z78 => ?_)
            refine ev_aload_n i124_81 rfl ?_
            refine ev_get i124_82 ci124 fl8_72 (by assumption) rfl ?_
            refine ev_aload_n i124_85 rfl ?_
            refine ev_get i124_86 ci124 fl8_66 (by assumption) rfl ?_
            refine evn_icmp_ge (t := 220) i124_89 (by decide) (by omega) (fun z89 => by exfalso; omega) (fun z89 => ?_)
            refine ev_aload_n i124_92 rfl ?_
            refine ev_get i124_93 ci124 fl8_28 (by assumption) rfl ?_
            refine ev_aload_n i124_96 rfl ?_
            refine ev_get i124_97 ci124 fl8_72 (by assumption) rfl ?_
            refine ev_iald_n i124_100 (by assumption) (by omega) ?_
            rw [hmt p (by omega)]
            refine ev_bipush (v := nI 71) i124_101 (by decide) ?_
            refine evn_icmp_ne (t := 169) i124_103 (by decide) (by omega) (fun z103 => by exfalso; exact z103 hG) (fun z103 => ?_)
            refine ev_aload_n i124_106 rfl ?_
            refine ev_get i124_107 ci124 fl8_84 (by assumption) rfl ?_
            refine ev_sipush (v := nI 1023) i124_110 (by decide) ?_
            refine evn_icmp_eq (t := 169) i124_113 (by decide) (by omega) (fun z113 => by exfalso; exact hgr3 z113) (fun z113 => ?_)
            refine ev_aload_n i124_116 rfl ?_
            refine ev_dup i124_117 rfl ?_
            refine ev_get i124_118 ci124 fl8_72 (by assumption) rfl ?_
            refine ev_iconst (v := nI 1) i124_121 (by decide) ?_
            refine evn_iadd i124_122 ?_
            refine evs_put (fs' := [.int (nI n), .ref 112, .ref 113, .ref 114, .ref 115, .ref 116, .ref 117, .int (nI t.1), .int (nI gr), .int (nI tk), .ref 118, .int (nI ln), .int (nI (p + 1)), .int (-9), .int (f 6), .int (f 7), .ref 119, .ref 120, .int (f 8), .ref 121, .ref 122, .ref 123, .ref 124, .long sed, .ref 125, .ref 126]) i124_123 ci124 fl8_72 (by assumption) ⟨Nat.le_of_ble_eq_true rfl, rfl, Or.inl rfl⟩ rfl (fun H2 hH2 => ?_)
            have c0 : H2[111]? = some (.inr (8, [.int (nI n), .ref 112, .ref 113, .ref 114, .ref 115, .ref 116, .ref 117, .int (nI t.1), .int (nI gr), .int (nI tk), .ref 118, .int (nI ln), .int (nI (p + 1)), .int (-9), .int (f 6), .int (f 7), .ref 119, .ref 120, .int (f 8), .ref 121, .ref 122, .ref 123, .ref 124, .long sed, .ref 125, .ref 126])) := by rw [hH2]; exact set_self c0
            have a5 : H2[115]? = some (.inl (0, 27, .inl R)) := by rw [hH2]; exact set_ne a5 (by omega)
            have a6 : H2[116]? = some (.inl (0, 6, .inl rs)) := by rw [hH2]; exact set_ne a6 (by omega)
            have a7 : H2[117]? = some (.inl (0, 6, .inl rkk)) := by rw [hH2]; exact set_ne a7 (by omega)
            have t0 : H2[118]? = some (.inl (0, 64, .inl mt)) := by rw [hH2]; exact set_ne t0 (by omega)
            have hO : Off (fun j => j = 111 ∨ (115 ≤ j ∧ j ≤ 117)) H H2 := by rw [hH2]; exact hO.set (by first | exact Or.inl rfl | exact Or.inr ⟨by decide, by decide⟩)
            refine ev_aload_n i124_126 rfl ?_
            refine ev_sipush (v := nI 1023) i124_127 (by decide) ?_
            refine ev_aload_n i124_130 rfl ?_
            refine ev_get i124_131 ci124 fl8_84 (by assumption) rfl ?_
            refine ev_iconst (v := (-1)) i124_134 (by decide) ?_
            refine ev_ixor i124_135 ?_
            refine ev_iand i124_136 ?_
            rw [msk gr hgr]
            refine ev_callV (vs := [.int (nI (1023 - gr))]) (rest := []) i124_137 ci124 lk8_90 (congrArg (fun q => q + 1) np123) ci123 (by decide) (by decide +kernel) (Nat.le_of_ble_eq_true rfl) ⟨rfl, rfl, Nat.le_of_ble_eq_true rfl⟩ rfl (by assumption) (c123ok c0 t0 hmt hln htx (by omega) (by omega) (by omega) (by omega) hbit) (fun r H3 hq => ?_)
            obtain ⟨rfl, c0, hO3⟩ := hq
            have c0 : H3[111]? = some (.inr (8, [.int (nI n), .ref 112, .ref 113, .ref 114, .ref 115, .ref 116, .ref 117, .int (nI t.1), .int (nI gr), .int (nI tk), .ref 118, .int (nI ln), .int (nI (p + 1 + 1)), .int (-9), .int (f 6), .int (f 7), .ref 119, .ref 120, .int (f 8), .ref 121, .ref 122, .ref 123, .ref 124, .long sed, .ref 125, .ref 126])) := c0
            have a5 := hO3.at a5 (by decide)
            have a6 := hO3.at a6 (by decide)
            have a7 := hO3.at a7 (by decide)
            have t0 := hO3.at t0 (by decide)
            have hO := hO.trans hO3 (C := (fun j => j = 111 ∨ (115 ≤ j ∧ j ≤ 117))) (fun _ q => q) (fun _ q => Or.inl q)
            show Ev tb 124 140 [some (.ref 111), some (.int w1)] [.int (nI (tx (p + 1) - 48))] H3 _
            refine ev_istore_n (L' := [some (.ref 111), some (.int (nI (tx (p + 1) - 48)))]) i124_140 ⟨Nat.le_of_ble_eq_true rfl, rfl⟩ rfl ?_
            refine ev_aload_n i124_141 rfl ?_
            refine ev_get i124_142 ci124 fl8_19 (by assumption) rfl ?_
            refine ev_iload_n i124_145 rfl ?_
            refine ev_aload_n i124_146 rfl ?_
            refine ev_iconst (v := nI 1) i124_147 (by decide) ?_
            refine ev_bipush (v := nI 9) i124_148 (by decide) ?_
            refine ev_callV (vs := [.int (nI 1), .int (nI 9)]) (rest := [.int (nI (tx (p + 1) - 48)), .ref 115]) i124_150 ci124 lk8_94 (congrArg (fun q => q + 1) np122) ci122 (by decide) (by decide +kernel) (Nat.le_of_ble_eq_true rfl) ⟨rfl, rfl, Nat.le_of_ble_eq_true rfl⟩ rfl (by assumption) (c122ok c0 t0 hmt hln htx (by decide) (by decide) (by omega) (by omega) (by omega)) (fun r H4 hq => ?_)
            obtain ⟨rfl, c0, hO4⟩ := hq
            have c0 : H4[111]? = some (.inr (8, [.int (nI n), .ref 112, .ref 113, .ref 114, .ref 115, .ref 116, .ref 117, .int (nI t.1), .int (nI gr), .int (nI tk), .ref 118, .int (nI ln), .int (nI (p + 1 + 2)), .int (-9), .int (f 6), .int (f 7), .ref 119, .ref 120, .int (f 8), .ref 121, .ref 122, .ref 123, .ref 124, .long sed, .ref 125, .ref 126])) := c0
            have a5 := hO4.at a5 (by decide)
            have a6 := hO4.at a6 (by decide)
            have a7 := hO4.at a7 (by decide)
            have t0 := hO4.at t0 (by decide)
            have hO := hO.trans hO4 (C := (fun j => j = 111 ∨ (115 ≤ j ∧ j ≤ 117))) (fun _ q => q) (fun _ q => Or.inl q)
            show Ev tb 124 153 [some (.ref 111), some (.int (nI (tx (p + 1) - 48)))] [.int (nI (tx (p + 1 + 1) - 48)), .int (nI (tx (p + 1) - 48)), .ref 115] H4 _
            refine evs_iastw i124_153 (by assumption) (by omega) (fun H5 hH5 => ?_)
            have c0 : H5[111]? = some (.inr (8, [.int (nI n), .ref 112, .ref 113, .ref 114, .ref 115, .ref 116, .ref 117, .int (nI t.1), .int (nI gr), .int (nI tk), .ref 118, .int (nI ln), .int (nI (p + 1 + 2)), .int (-9), .int (f 6), .int (f 7), .ref 119, .ref 120, .int (f 8), .ref 121, .ref 122, .ref 123, .ref 124, .long sed, .ref 125, .ref 126])) := by rw [hH5]; exact set_ne c0 (by omega)
            have a5 : H5[115]? = some (.inl (0, 27, .inl (upd R (tx (p + 1) - 48) (nI (tx (p + 1 + 1) - 48))))) := by rw [hH5]; exact set_self a5
            have a6 : H5[116]? = some (.inl (0, 6, .inl rs)) := by rw [hH5]; exact set_ne a6 (by omega)
            have a7 : H5[117]? = some (.inl (0, 6, .inl rkk)) := by rw [hH5]; exact set_ne a7 (by omega)
            have t0 : H5[118]? = some (.inl (0, 64, .inl mt)) := by rw [hH5]; exact set_ne t0 (by omega)
            have hO : Off (fun j => j = 111 ∨ (115 ≤ j ∧ j ≤ 117)) H H5 := by rw [hH5]; exact hO.set (by first | exact Or.inl rfl | exact Or.inr ⟨by decide, by decide⟩)
            refine ev_aload_n i124_154 rfl ?_
            refine ev_dup i124_155 rfl ?_
            refine ev_get i124_156 ci124 fl8_84 (by assumption) rfl ?_
            refine ev_iconst (v := nI 1) i124_159 (by decide) ?_
            refine ev_iload_n i124_160 rfl ?_
            refine ev_ishl i124_161 ?_
            refine ev_ior i124_162 ?_
            rw [or10 gr hgr (tx (p + 1) - 48) (by omega)]
            refine evs_put (fs' := [.int (nI n), .ref 112, .ref 113, .ref 114, .ref 115, .ref 116, .ref 117, .int (nI t.1), .int (nI (gr ||| 2 ^ (tx (p + 1) - 48))), .int (nI tk), .ref 118, .int (nI ln), .int (nI (p + 1 + 2)), .int (-9), .int (f 6), .int (f 7), .ref 119, .ref 120, .int (f 8), .ref 121, .ref 122, .ref 123, .ref 124, .long sed, .ref 125, .ref 126]) i124_163 ci124 fl8_84 (by assumption) ⟨Nat.le_of_ble_eq_true rfl, rfl, Or.inl rfl⟩ rfl (fun H6 hH6 => ?_)
            have c0 : H6[111]? = some (.inr (8, [.int (nI n), .ref 112, .ref 113, .ref 114, .ref 115, .ref 116, .ref 117, .int (nI t.1), .int (nI (gr ||| 2 ^ (tx (p + 1) - 48))), .int (nI tk), .ref 118, .int (nI ln), .int (nI (p + 1 + 2)), .int (-9), .int (f 6), .int (f 7), .ref 119, .ref 120, .int (f 8), .ref 121, .ref 122, .ref 123, .ref 124, .long sed, .ref 125, .ref 126])) := by rw [hH6]; exact set_self c0
            have a5 : H6[115]? = some (.inl (0, 27, .inl (upd R (tx (p + 1) - 48) (nI (tx (p + 1 + 1) - 48))))) := by rw [hH6]; exact set_ne a5 (by omega)
            have a6 : H6[116]? = some (.inl (0, 6, .inl rs)) := by rw [hH6]; exact set_ne a6 (by omega)
            have a7 : H6[117]? = some (.inl (0, 6, .inl rkk)) := by rw [hH6]; exact set_ne a7 (by omega)
            have t0 : H6[118]? = some (.inl (0, 64, .inl mt)) := by rw [hH6]; exact set_ne t0 (by omega)
            have hO : Off (fun j => j = 111 ∨ (115 ≤ j ∧ j ≤ 117)) H H6 := by rw [hH6]; exact hO.set (by first | exact Or.inl rfl | exact Or.inr ⟨by decide, by decide⟩)
            refine ev_goto (t := 72) i124_166 (by decide) ?_
            have hv1 : fplL tx ln (d + 1) gr tk p = fplL tx ln d (gr ||| 2 ^ (tx (p + 1) - 48)) tk (p + 3) := by
              conv => lhs; unfold fplL
              rw [if_neg hpe, if_pos hG, if_neg hgr3, if_pos hf]
            have hv2 : telL tx ln (d + 1) p t = telL tx ln d (p + 3) (telG tx p t) := by
              conv => lhs; unfold telL
              rw [if_neg hpe, if_pos hG]
            rw [hv1, hv2]
            exact lq124 T0 hmt hln htx d _ tk (p + 3) (telG tx p t) _ _ _ _ (by omega) (or10_lt (m := 10) hgr (by omega)) htk (by omega) ht ht6 (hR.G (by omega) ht6) c0 a5 a6 a7 hO _
          · rw [show fplL tx ln (d + 1) gr tk p = fopL tx ln true gr p (pln true) 0 by
              conv => lhs; unfold fplL
              rw [if_neg hpe, if_pos hG, if_neg hgr3, if_neg hf]]
            by_cases k0 : p + 1 < ln ∧ okP tx true gr p 0 = true
            · by_cases k1 : p + 1 + 1 < ln ∧ okP tx true gr p 1 = true
              · exact absurd (show fopL tx ln true gr p (pln true) 0 = -9 by rw [show pln true = 2 from rfl, fop_step k0.1 k0.2, fop_step k1.1 k1.2]; rfl) hf
              · rw [show fopL tx ln true gr p (pln true) 0 = nI (p + 1 + 1) by rw [show pln true = 2 from rfl, fop_step k0.1 k0.2]; exact fop_bad (by omega) k1]
                obtain ⟨l0, o0⟩ := k0
                obtain ⟨q0, hbit⟩ := okP_0.mp o0
                have hbad : ¬ (p + 1 + 1 < ln ∧ 48 + 1 ≤ tx (p + 1 + 1) ∧ tx (p + 1 + 1) ≤ 48 + 9) := fun u => k1 ⟨u.1, okG1.mpr u.2⟩
                refine ev_aload_n i124_72 rfl ?_
                refine ev_get i124_73 ci124 fl8_69 (by assumption) rfl ?_
                refine ev_bipush (v := (-9)) i124_76 (by decide) ?_
                refine ev_icmp_ne (t := 220) i124_78 (by decide) (fun z78 => by exfalso; exact absurd rfl z78) (fun z78 => ?_)
                refine ev_aload_n i124_81 rfl ?_
                refine ev_get i124_82 ci124 fl8_72 (by assumption) rfl ?_
                refine ev_aload_n i124_85 rfl ?_
                refine ev_get i124_86 ci124 fl8_66 (by assumption) rfl ?_
                refine evn_icmp_ge (t := 220) i124_89 (by decide) (by omega) (fun z89 => by exfalso; omega) (fun z89 => ?_)
                refine ev_aload_n i124_92 rfl ?_
                refine ev_get i124_93 ci124 fl8_28 (by assumption) rfl ?_
                refine ev_aload_n i124_96 rfl ?_
                refine ev_get i124_97 ci124 fl8_72 (by assumption) rfl ?_
                refine ev_iald_n i124_100 (by assumption) (by omega) ?_
                rw [hmt p (by omega)]
                refine ev_bipush (v := nI 71) i124_101 (by decide) ?_
                refine evn_icmp_ne (t := 169) i124_103 (by decide) (by omega) (fun z103 => by exfalso; exact z103 hG) (fun z103 => ?_)
                refine ev_aload_n i124_106 rfl ?_
                refine ev_get i124_107 ci124 fl8_84 (by assumption) rfl ?_
                refine ev_sipush (v := nI 1023) i124_110 (by decide) ?_
                refine evn_icmp_eq (t := 169) i124_113 (by decide) (by omega) (fun z113 => by exfalso; exact hgr3 z113) (fun z113 => ?_)
                refine ev_aload_n i124_116 rfl ?_
                refine ev_dup i124_117 rfl ?_
                refine ev_get i124_118 ci124 fl8_72 (by assumption) rfl ?_
                refine ev_iconst (v := nI 1) i124_121 (by decide) ?_
                refine evn_iadd i124_122 ?_
                refine evs_put (fs' := [.int (nI n), .ref 112, .ref 113, .ref 114, .ref 115, .ref 116, .ref 117, .int (nI t.1), .int (nI gr), .int (nI tk), .ref 118, .int (nI ln), .int (nI (p + 1)), .int (-9), .int (f 6), .int (f 7), .ref 119, .ref 120, .int (f 8), .ref 121, .ref 122, .ref 123, .ref 124, .long sed, .ref 125, .ref 126]) i124_123 ci124 fl8_72 (by assumption) ⟨Nat.le_of_ble_eq_true rfl, rfl, Or.inl rfl⟩ rfl (fun H2 hH2 => ?_)
                have c0 : H2[111]? = some (.inr (8, [.int (nI n), .ref 112, .ref 113, .ref 114, .ref 115, .ref 116, .ref 117, .int (nI t.1), .int (nI gr), .int (nI tk), .ref 118, .int (nI ln), .int (nI (p + 1)), .int (-9), .int (f 6), .int (f 7), .ref 119, .ref 120, .int (f 8), .ref 121, .ref 122, .ref 123, .ref 124, .long sed, .ref 125, .ref 126])) := by rw [hH2]; exact set_self c0
                have a5 : H2[115]? = some (.inl (0, 27, .inl R)) := by rw [hH2]; exact set_ne a5 (by omega)
                have a6 : H2[116]? = some (.inl (0, 6, .inl rs)) := by rw [hH2]; exact set_ne a6 (by omega)
                have a7 : H2[117]? = some (.inl (0, 6, .inl rkk)) := by rw [hH2]; exact set_ne a7 (by omega)
                have t0 : H2[118]? = some (.inl (0, 64, .inl mt)) := by rw [hH2]; exact set_ne t0 (by omega)
                have hO : Off (fun j => j = 111 ∨ (115 ≤ j ∧ j ≤ 117)) H H2 := by rw [hH2]; exact hO.set (by first | exact Or.inl rfl | exact Or.inr ⟨by decide, by decide⟩)
                refine ev_aload_n i124_126 rfl ?_
                refine ev_sipush (v := nI 1023) i124_127 (by decide) ?_
                refine ev_aload_n i124_130 rfl ?_
                refine ev_get i124_131 ci124 fl8_84 (by assumption) rfl ?_
                refine ev_iconst (v := (-1)) i124_134 (by decide) ?_
                refine ev_ixor i124_135 ?_
                refine ev_iand i124_136 ?_
                rw [msk gr hgr]
                refine ev_callV (vs := [.int (nI (1023 - gr))]) (rest := []) i124_137 ci124 lk8_90 (congrArg (fun q => q + 1) np123) ci123 (by decide) (by decide +kernel) (Nat.le_of_ble_eq_true rfl) ⟨rfl, rfl, Nat.le_of_ble_eq_true rfl⟩ rfl (by assumption) (c123ok c0 t0 hmt hln htx (by omega) (by omega) (by omega) (by omega) hbit) (fun r H3 hq => ?_)
                obtain ⟨rfl, c0, hO3⟩ := hq
                have c0 : H3[111]? = some (.inr (8, [.int (nI n), .ref 112, .ref 113, .ref 114, .ref 115, .ref 116, .ref 117, .int (nI t.1), .int (nI gr), .int (nI tk), .ref 118, .int (nI ln), .int (nI (p + 1 + 1)), .int (-9), .int (f 6), .int (f 7), .ref 119, .ref 120, .int (f 8), .ref 121, .ref 122, .ref 123, .ref 124, .long sed, .ref 125, .ref 126])) := c0
                have a5 := hO3.at a5 (by decide)
                have a6 := hO3.at a6 (by decide)
                have a7 := hO3.at a7 (by decide)
                have t0 := hO3.at t0 (by decide)
                have hO := hO.trans hO3 (C := (fun j => j = 111 ∨ (115 ≤ j ∧ j ≤ 117))) (fun _ q => q) (fun _ q => Or.inl q)
                show Ev tb 124 140 [some (.ref 111), some (.int w1)] [.int (nI (tx (p + 1) - 48))] H3 _
                refine ev_istore_n (L' := [some (.ref 111), some (.int (nI (tx (p + 1) - 48)))]) i124_140 ⟨Nat.le_of_ble_eq_true rfl, rfl⟩ rfl ?_
                refine ev_aload_n i124_141 rfl ?_
                refine ev_get i124_142 ci124 fl8_19 (by assumption) rfl ?_
                refine ev_iload_n i124_145 rfl ?_
                refine ev_aload_n i124_146 rfl ?_
                refine ev_iconst (v := nI 1) i124_147 (by decide) ?_
                refine ev_bipush (v := nI 9) i124_148 (by decide) ?_
                refine ev_callV (vs := [.int (nI 1), .int (nI 9)]) (rest := [.int (nI (tx (p + 1) - 48)), .ref 115]) i124_150 ci124 lk8_94 (congrArg (fun q => q + 1) np122) ci122 (by decide) (by decide +kernel) (Nat.le_of_ble_eq_true rfl) ⟨rfl, rfl, Nat.le_of_ble_eq_true rfl⟩ rfl (by assumption) (c122bad c0 t0 hmt hln htx (by decide) (by decide) (by omega) hbad) (fun r H4 hq => ?_)
                obtain ⟨rfl, c0, hO4⟩ := hq
                have c0 : H4[111]? = some (.inr (8, [.int (nI n), .ref 112, .ref 113, .ref 114, .ref 115, .ref 116, .ref 117, .int (nI t.1), .int (nI gr), .int (nI tk), .ref 118, .int (nI ln), .int (nI (p + 1 + 1)), .int (nI (p + 1 + 1)), .int (f 6), .int (f 7), .ref 119, .ref 120, .int (f 8), .ref 121, .ref 122, .ref 123, .ref 124, .long sed, .ref 125, .ref 126])) := c0
                have a5 := hO4.at a5 (by decide)
                have a6 := hO4.at a6 (by decide)
                have a7 := hO4.at a7 (by decide)
                have t0 := hO4.at t0 (by decide)
                have hO := hO.trans hO4 (C := (fun j => j = 111 ∨ (115 ≤ j ∧ j ≤ 117))) (fun _ q => q) (fun _ q => Or.inl q)
                show Ev tb 124 153 [some (.ref 111), some (.int (nI (tx (p + 1) - 48)))] [.int (nI 1), .int (nI (tx (p + 1) - 48)), .ref 115] H4 _
                refine evs_iastw i124_153 (by assumption) (by omega) (fun H5 hH5 => ?_)
                have c0 : H5[111]? = some (.inr (8, [.int (nI n), .ref 112, .ref 113, .ref 114, .ref 115, .ref 116, .ref 117, .int (nI t.1), .int (nI gr), .int (nI tk), .ref 118, .int (nI ln), .int (nI (p + 1 + 1)), .int (nI (p + 1 + 1)), .int (f 6), .int (f 7), .ref 119, .ref 120, .int (f 8), .ref 121, .ref 122, .ref 123, .ref 124, .long sed, .ref 125, .ref 126])) := by rw [hH5]; exact set_ne c0 (by omega)
                have a5 : H5[115]? = some (.inl (0, 27, .inl (upd R (tx (p + 1) - 48) (nI 1)))) := by rw [hH5]; exact set_self a5
                have a6 : H5[116]? = some (.inl (0, 6, .inl rs)) := by rw [hH5]; exact set_ne a6 (by omega)
                have a7 : H5[117]? = some (.inl (0, 6, .inl rkk)) := by rw [hH5]; exact set_ne a7 (by omega)
                have t0 : H5[118]? = some (.inl (0, 64, .inl mt)) := by rw [hH5]; exact set_ne t0 (by omega)
                have hO : Off (fun j => j = 111 ∨ (115 ≤ j ∧ j ≤ 117)) H H5 := by rw [hH5]; exact hO.set (by first | exact Or.inl rfl | exact Or.inr ⟨by decide, by decide⟩)
                refine ev_aload_n i124_154 rfl ?_
                refine ev_dup i124_155 rfl ?_
                refine ev_get i124_156 ci124 fl8_84 (by assumption) rfl ?_
                refine ev_iconst (v := nI 1) i124_159 (by decide) ?_
                refine ev_iload_n i124_160 rfl ?_
                refine ev_ishl i124_161 ?_
                refine ev_ior i124_162 ?_
                rw [or10 gr hgr (tx (p + 1) - 48) (by omega)]
                refine evs_put (fs' := [.int (nI n), .ref 112, .ref 113, .ref 114, .ref 115, .ref 116, .ref 117, .int (nI t.1), .int (nI (gr ||| 2 ^ (tx (p + 1) - 48))), .int (nI tk), .ref 118, .int (nI ln), .int (nI (p + 1 + 1)), .int (nI (p + 1 + 1)), .int (f 6), .int (f 7), .ref 119, .ref 120, .int (f 8), .ref 121, .ref 122, .ref 123, .ref 124, .long sed, .ref 125, .ref 126]) i124_163 ci124 fl8_84 (by assumption) ⟨Nat.le_of_ble_eq_true rfl, rfl, Or.inl rfl⟩ rfl (fun H6 hH6 => ?_)
                have c0 : H6[111]? = some (.inr (8, [.int (nI n), .ref 112, .ref 113, .ref 114, .ref 115, .ref 116, .ref 117, .int (nI t.1), .int (nI (gr ||| 2 ^ (tx (p + 1) - 48))), .int (nI tk), .ref 118, .int (nI ln), .int (nI (p + 1 + 1)), .int (nI (p + 1 + 1)), .int (f 6), .int (f 7), .ref 119, .ref 120, .int (f 8), .ref 121, .ref 122, .ref 123, .ref 124, .long sed, .ref 125, .ref 126])) := by rw [hH6]; exact set_self c0
                have a5 : H6[115]? = some (.inl (0, 27, .inl (upd R (tx (p + 1) - 48) (nI 1)))) := by rw [hH6]; exact set_ne a5 (by omega)
                have a6 : H6[116]? = some (.inl (0, 6, .inl rs)) := by rw [hH6]; exact set_ne a6 (by omega)
                have a7 : H6[117]? = some (.inl (0, 6, .inl rkk)) := by rw [hH6]; exact set_ne a7 (by omega)
                have t0 : H6[118]? = some (.inl (0, 64, .inl mt)) := by rw [hH6]; exact set_ne t0 (by omega)
                have hO : Off (fun j => j = 111 ∨ (115 ≤ j ∧ j ≤ 117)) H H6 := by rw [hH6]; exact hO.set (by first | exact Or.inl rfl | exact Or.inr ⟨by decide, by decide⟩)
                refine ev_goto (t := 72) i124_166 (by decide) ?_
                refine ev_aload_n i124_72 rfl ?_
                refine ev_get i124_73 ci124 fl8_69 (by assumption) rfl ?_
                refine ev_bipush (v := (-9)) i124_76 (by decide) ?_
                refine ev_icmp_ne (t := 220) i124_78 (by decide) (fun z78 => ?_) (fun z78 => by exfalso; exact absurd z78 (m9_ne (by omega)))
                refine ev_aload_n i124_220 rfl ?_
                refine ev_get i124_221 ci124 fl8_69 (by assumption) rfl ?_
                refine ev_iret i124_224 (by decide +kernel) ?_
                exact ⟨rfl, _, _, _, _, _, _, _, _, c0, a5, a6, a7, hO, fun q => absurd q (m9_ne (by omega))⟩
            · rw [show fopL tx ln true gr p (pln true) 0 = nI (p + 1) from fop_bad (by omega) k0]
              have hbad : ¬ (p + 1 < ln ∧ (48 ≤ tx (p + 1) ∧ tx (p + 1) ≤ 57) ∧ gr.testBit (tx (p + 1) - 48) = false) := fun u => k0 ⟨u.1, okP_0.mpr u.2⟩
              refine ev_aload_n i124_72 rfl ?_
              refine ev_get i124_73 ci124 fl8_69 (by assumption) rfl ?_
              refine ev_bipush (v := (-9)) i124_76 (by decide) ?_
              refine ev_icmp_ne (t := 220) i124_78 (by decide) (fun z78 => by exfalso; exact absurd rfl z78) (fun z78 => ?_)
              refine ev_aload_n i124_81 rfl ?_
              refine ev_get i124_82 ci124 fl8_72 (by assumption) rfl ?_
              refine ev_aload_n i124_85 rfl ?_
              refine ev_get i124_86 ci124 fl8_66 (by assumption) rfl ?_
              refine evn_icmp_ge (t := 220) i124_89 (by decide) (by omega) (fun z89 => by exfalso; omega) (fun z89 => ?_)
              refine ev_aload_n i124_92 rfl ?_
              refine ev_get i124_93 ci124 fl8_28 (by assumption) rfl ?_
              refine ev_aload_n i124_96 rfl ?_
              refine ev_get i124_97 ci124 fl8_72 (by assumption) rfl ?_
              refine ev_iald_n i124_100 (by assumption) (by omega) ?_
              rw [hmt p (by omega)]
              refine ev_bipush (v := nI 71) i124_101 (by decide) ?_
              refine evn_icmp_ne (t := 169) i124_103 (by decide) (by omega) (fun z103 => by exfalso; exact z103 hG) (fun z103 => ?_)
              refine ev_aload_n i124_106 rfl ?_
              refine ev_get i124_107 ci124 fl8_84 (by assumption) rfl ?_
              refine ev_sipush (v := nI 1023) i124_110 (by decide) ?_
              refine evn_icmp_eq (t := 169) i124_113 (by decide) (by omega) (fun z113 => by exfalso; exact hgr3 z113) (fun z113 => ?_)
              refine ev_aload_n i124_116 rfl ?_
              refine ev_dup i124_117 rfl ?_
              refine ev_get i124_118 ci124 fl8_72 (by assumption) rfl ?_
              refine ev_iconst (v := nI 1) i124_121 (by decide) ?_
              refine evn_iadd i124_122 ?_
              refine evs_put (fs' := [.int (nI n), .ref 112, .ref 113, .ref 114, .ref 115, .ref 116, .ref 117, .int (nI t.1), .int (nI gr), .int (nI tk), .ref 118, .int (nI ln), .int (nI (p + 1)), .int (-9), .int (f 6), .int (f 7), .ref 119, .ref 120, .int (f 8), .ref 121, .ref 122, .ref 123, .ref 124, .long sed, .ref 125, .ref 126]) i124_123 ci124 fl8_72 (by assumption) ⟨Nat.le_of_ble_eq_true rfl, rfl, Or.inl rfl⟩ rfl (fun H2 hH2 => ?_)
              have c0 : H2[111]? = some (.inr (8, [.int (nI n), .ref 112, .ref 113, .ref 114, .ref 115, .ref 116, .ref 117, .int (nI t.1), .int (nI gr), .int (nI tk), .ref 118, .int (nI ln), .int (nI (p + 1)), .int (-9), .int (f 6), .int (f 7), .ref 119, .ref 120, .int (f 8), .ref 121, .ref 122, .ref 123, .ref 124, .long sed, .ref 125, .ref 126])) := by rw [hH2]; exact set_self c0
              have a5 : H2[115]? = some (.inl (0, 27, .inl R)) := by rw [hH2]; exact set_ne a5 (by omega)
              have a6 : H2[116]? = some (.inl (0, 6, .inl rs)) := by rw [hH2]; exact set_ne a6 (by omega)
              have a7 : H2[117]? = some (.inl (0, 6, .inl rkk)) := by rw [hH2]; exact set_ne a7 (by omega)
              have t0 : H2[118]? = some (.inl (0, 64, .inl mt)) := by rw [hH2]; exact set_ne t0 (by omega)
              have hO : Off (fun j => j = 111 ∨ (115 ≤ j ∧ j ≤ 117)) H H2 := by rw [hH2]; exact hO.set (by first | exact Or.inl rfl | exact Or.inr ⟨by decide, by decide⟩)
              refine ev_aload_n i124_126 rfl ?_
              refine ev_sipush (v := nI 1023) i124_127 (by decide) ?_
              refine ev_aload_n i124_130 rfl ?_
              refine ev_get i124_131 ci124 fl8_84 (by assumption) rfl ?_
              refine ev_iconst (v := (-1)) i124_134 (by decide) ?_
              refine ev_ixor i124_135 ?_
              refine ev_iand i124_136 ?_
              rw [msk gr hgr]
              refine ev_callV (vs := [.int (nI (1023 - gr))]) (rest := []) i124_137 ci124 lk8_90 (congrArg (fun q => q + 1) np123) ci123 (by decide) (by decide +kernel) (Nat.le_of_ble_eq_true rfl) ⟨rfl, rfl, Nat.le_of_ble_eq_true rfl⟩ rfl (by assumption) (c123bad c0 t0 hmt hln htx (by omega) (by omega) hbad) (fun r H3 hq => ?_)
              obtain ⟨rfl, c0, hO3⟩ := hq
              have c0 : H3[111]? = some (.inr (8, [.int (nI n), .ref 112, .ref 113, .ref 114, .ref 115, .ref 116, .ref 117, .int (nI t.1), .int (nI gr), .int (nI tk), .ref 118, .int (nI ln), .int (nI (p + 1)), .int (nI (p + 1)), .int (f 6), .int (f 7), .ref 119, .ref 120, .int (f 8), .ref 121, .ref 122, .ref 123, .ref 124, .long sed, .ref 125, .ref 126])) := c0
              have a5 := hO3.at a5 (by decide)
              have a6 := hO3.at a6 (by decide)
              have a7 := hO3.at a7 (by decide)
              have t0 := hO3.at t0 (by decide)
              have hO := hO.trans hO3 (C := (fun j => j = 111 ∨ (115 ≤ j ∧ j ≤ 117))) (fun _ q => q) (fun _ q => Or.inl q)
              show Ev tb 124 140 [some (.ref 111), some (.int w1)] [.int (nI 0)] H3 _
              refine ev_istore_n (L' := [some (.ref 111), some (.int (nI 0))]) i124_140 ⟨Nat.le_of_ble_eq_true rfl, rfl⟩ rfl ?_
              refine ev_aload_n i124_141 rfl ?_
              refine ev_get i124_142 ci124 fl8_19 (by assumption) rfl ?_
              refine ev_iload_n i124_145 rfl ?_
              refine ev_aload_n i124_146 rfl ?_
              refine ev_iconst (v := nI 1) i124_147 (by decide) ?_
              refine ev_bipush (v := nI 9) i124_148 (by decide) ?_
              refine ev_callV (vs := [.int (nI 1), .int (nI 9)]) (rest := [.int (nI 0), .ref 115]) i124_150 ci124 lk8_94 (congrArg (fun q => q + 1) np122) ci122 (by decide) (by decide +kernel) (Nat.le_of_ble_eq_true rfl) ⟨rfl, rfl, Nat.le_of_ble_eq_true rfl⟩ rfl (by assumption) (c122skip (p := 0) c0 t0 hmt hln htx (by decide) (by decide) (m9_ne (by omega))) (fun r H4 hq => ?_)
              obtain ⟨rfl, c0, hO4⟩ := hq
              have c0 : H4[111]? = some (.inr (8, [.int (nI n), .ref 112, .ref 113, .ref 114, .ref 115, .ref 116, .ref 117, .int (nI t.1), .int (nI gr), .int (nI tk), .ref 118, .int (nI ln), .int (nI (p + 1)), .int (nI (p + 1)), .int (f 6), .int (f 7), .ref 119, .ref 120, .int (f 8), .ref 121, .ref 122, .ref 123, .ref 124, .long sed, .ref 125, .ref 126])) := c0
              have a5 := hO4.at a5 (by decide)
              have a6 := hO4.at a6 (by decide)
              have a7 := hO4.at a7 (by decide)
              have t0 := hO4.at t0 (by decide)
              have hO := hO.trans hO4 (C := (fun j => j = 111 ∨ (115 ≤ j ∧ j ≤ 117))) (fun _ q => q) (fun _ q => Or.inl q)
              show Ev tb 124 153 [some (.ref 111), some (.int (nI 0))] [.int (nI 1), .int (nI 0), .ref 115] H4 _
              refine evs_iastw i124_153 (by assumption) (by omega) (fun H5 hH5 => ?_)
              have c0 : H5[111]? = some (.inr (8, [.int (nI n), .ref 112, .ref 113, .ref 114, .ref 115, .ref 116, .ref 117, .int (nI t.1), .int (nI gr), .int (nI tk), .ref 118, .int (nI ln), .int (nI (p + 1)), .int (nI (p + 1)), .int (f 6), .int (f 7), .ref 119, .ref 120, .int (f 8), .ref 121, .ref 122, .ref 123, .ref 124, .long sed, .ref 125, .ref 126])) := by rw [hH5]; exact set_ne c0 (by omega)
              have a5 : H5[115]? = some (.inl (0, 27, .inl (upd R 0 (nI 1)))) := by rw [hH5]; exact set_self a5
              have a6 : H5[116]? = some (.inl (0, 6, .inl rs)) := by rw [hH5]; exact set_ne a6 (by omega)
              have a7 : H5[117]? = some (.inl (0, 6, .inl rkk)) := by rw [hH5]; exact set_ne a7 (by omega)
              have t0 : H5[118]? = some (.inl (0, 64, .inl mt)) := by rw [hH5]; exact set_ne t0 (by omega)
              have hO : Off (fun j => j = 111 ∨ (115 ≤ j ∧ j ≤ 117)) H H5 := by rw [hH5]; exact hO.set (by first | exact Or.inl rfl | exact Or.inr ⟨by decide, by decide⟩)
              refine ev_aload_n i124_154 rfl ?_
              refine ev_dup i124_155 rfl ?_
              refine ev_get i124_156 ci124 fl8_84 (by assumption) rfl ?_
              refine ev_iconst (v := nI 1) i124_159 (by decide) ?_
              refine ev_iload_n i124_160 rfl ?_
              refine ev_ishl i124_161 ?_
              refine ev_ior i124_162 ?_
              skip
              refine evs_put (fs' := [.int (nI n), .ref 112, .ref 113, .ref 114, .ref 115, .ref 116, .ref 117, .int (nI t.1), .int ((nI gr) ||| ((nI 1) <<< ((nI 0) &&& 31))), .int (nI tk), .ref 118, .int (nI ln), .int (nI (p + 1)), .int (nI (p + 1)), .int (f 6), .int (f 7), .ref 119, .ref 120, .int (f 8), .ref 121, .ref 122, .ref 123, .ref 124, .long sed, .ref 125, .ref 126]) i124_163 ci124 fl8_84 (by assumption) ⟨Nat.le_of_ble_eq_true rfl, rfl, Or.inl rfl⟩ rfl (fun H6 hH6 => ?_)
              have c0 : H6[111]? = some (.inr (8, [.int (nI n), .ref 112, .ref 113, .ref 114, .ref 115, .ref 116, .ref 117, .int (nI t.1), .int ((nI gr) ||| ((nI 1) <<< ((nI 0) &&& 31))), .int (nI tk), .ref 118, .int (nI ln), .int (nI (p + 1)), .int (nI (p + 1)), .int (f 6), .int (f 7), .ref 119, .ref 120, .int (f 8), .ref 121, .ref 122, .ref 123, .ref 124, .long sed, .ref 125, .ref 126])) := by rw [hH6]; exact set_self c0
              have a5 : H6[115]? = some (.inl (0, 27, .inl (upd R 0 (nI 1)))) := by rw [hH6]; exact set_ne a5 (by omega)
              have a6 : H6[116]? = some (.inl (0, 6, .inl rs)) := by rw [hH6]; exact set_ne a6 (by omega)
              have a7 : H6[117]? = some (.inl (0, 6, .inl rkk)) := by rw [hH6]; exact set_ne a7 (by omega)
              have t0 : H6[118]? = some (.inl (0, 64, .inl mt)) := by rw [hH6]; exact set_ne t0 (by omega)
              have hO : Off (fun j => j = 111 ∨ (115 ≤ j ∧ j ≤ 117)) H H6 := by rw [hH6]; exact hO.set (by first | exact Or.inl rfl | exact Or.inr ⟨by decide, by decide⟩)
              refine ev_goto (t := 72) i124_166 (by decide) ?_
              refine ev_aload_n i124_72 rfl ?_
              refine ev_get i124_73 ci124 fl8_69 (by assumption) rfl ?_
              refine ev_bipush (v := (-9)) i124_76 (by decide) ?_
              refine ev_icmp_ne (t := 220) i124_78 (by decide) (fun z78 => ?_) (fun z78 => by exfalso; exact absurd z78 (m9_ne (by omega)))
              refine ev_aload_n i124_220 rfl ?_
              refine ev_get i124_221 ci124 fl8_69 (by assumption) rfl ?_
              refine ev_iret i124_224 (by decide +kernel) ?_
              exact ⟨rfl, _, _, _, _, _, _, _, _, c0, a5, a6, a7, hO, fun q => absurd q (m9_ne (by omega))⟩
      · by_cases hK : tx p = 75
        · by_cases hc : t.1 < 6
          · by_cases hf : fopL tx ln false tk p (pln false) 0 = -9
            · obtain ⟨l0, o0, f1⟩ := fop_ok (d := 3) (i := 0) hln (by omega) (by decide) hf
              obtain ⟨l1, o1, f2⟩ := fop_ok (d := 2) (i := 1) hln (by omega) (by decide) f1
              obtain ⟨l2, o2, f3⟩ := fop_ok (d := 1) (i := 2) hln (by omega) (by decide) f2
              obtain ⟨l3, o3, _⟩ := fop_ok (d := 0) (i := 3) hln (by omega) (by decide) f3
              obtain ⟨q0, hbit⟩ := okP_0.mp o0
              refine ev_aload_n i124_72 rfl ?_
              refine ev_get i124_73 ci124 fl8_69 (by assumption) rfl ?_
              refine ev_bipush (v := (-9)) i124_76 (by decide) ?_
              refine ev_icmp_ne (t := 220) i124_78 (by decide) (fun z78 => by exfalso; exact absurd rfl z78) (fun z78 => ?_)
              refine ev_aload_n i124_81 rfl ?_
              refine ev_get i124_82 ci124 fl8_72 (by assumption) rfl ?_
              refine ev_aload_n i124_85 rfl ?_
              refine ev_get i124_86 ci124 fl8_66 (by assumption) rfl ?_
              refine evn_icmp_ge (t := 220) i124_89 (by decide) (by omega) (fun z89 => by exfalso; omega) (fun z89 => ?_)
              refine ev_aload_n i124_92 rfl ?_
              refine ev_get i124_93 ci124 fl8_28 (by assumption) rfl ?_
              refine ev_aload_n i124_96 rfl ?_
              refine ev_get i124_97 ci124 fl8_72 (by assumption) rfl ?_
              refine ev_iald_n i124_100 (by assumption) (by omega) ?_
              rw [hmt p (by omega)]
              refine ev_bipush (v := nI 71) i124_101 (by decide) ?_
              refine evn_icmp_ne (t := 169) i124_103 (by decide) (by omega) (fun z103 => ?_) (fun z103 => by exfalso; exact hG z103)
              refine ev_aload_n i124_169 rfl ?_
              refine ev_get i124_170 ci124 fl8_28 (by assumption) rfl ?_
              refine ev_aload_n i124_173 rfl ?_
              refine ev_get i124_174 ci124 fl8_72 (by assumption) rfl ?_
              refine ev_iald_n i124_177 (by assumption) (by omega) ?_
              rw [hmt p (by omega)]
              refine ev_bipush (v := nI 75) i124_178 (by decide) ?_
              refine evn_icmp_ne (t := 209) i124_180 (by decide) (by omega) (fun z180 => by exfalso; exact z180 hK) (fun z180 => ?_)
              refine ev_aload_n i124_183 rfl ?_
              refine ev_get i124_184 ci124 fl8_81 (by assumption) rfl ?_
              refine ev_bipush (v := nI 6) i124_187 (by decide) ?_
              refine evn_icmp_ge (t := 209) i124_189 (by decide) (by omega) (fun z189 => by exfalso; omega) (fun z189 => ?_)
              refine ev_aload_n i124_192 rfl ?_
              refine ev_dup i124_193 rfl ?_
              refine ev_get i124_194 ci124 fl8_72 (by assumption) rfl ?_
              refine ev_iconst (v := nI 1) i124_197 (by decide) ?_
              refine evn_iadd i124_198 ?_
              refine evs_put (fs' := [.int (nI n), .ref 112, .ref 113, .ref 114, .ref 115, .ref 116, .ref 117, .int (nI t.1), .int (nI gr), .int (nI tk), .ref 118, .int (nI ln), .int (nI (p + 1)), .int (-9), .int (f 6), .int (f 7), .ref 119, .ref 120, .int (f 8), .ref 121, .ref 122, .ref 123, .ref 124, .long sed, .ref 125, .ref 126]) i124_199 ci124 fl8_72 (by assumption) ⟨Nat.le_of_ble_eq_true rfl, rfl, Or.inl rfl⟩ rfl (fun H2 hH2 => ?_)
              have c0 : H2[111]? = some (.inr (8, [.int (nI n), .ref 112, .ref 113, .ref 114, .ref 115, .ref 116, .ref 117, .int (nI t.1), .int (nI gr), .int (nI tk), .ref 118, .int (nI ln), .int (nI (p + 1)), .int (-9), .int (f 6), .int (f 7), .ref 119, .ref 120, .int (f 8), .ref 121, .ref 122, .ref 123, .ref 124, .long sed, .ref 125, .ref 126])) := by rw [hH2]; exact set_self c0
              have a5 : H2[115]? = some (.inl (0, 27, .inl R)) := by rw [hH2]; exact set_ne a5 (by omega)
              have a6 : H2[116]? = some (.inl (0, 6, .inl rs)) := by rw [hH2]; exact set_ne a6 (by omega)
              have a7 : H2[117]? = some (.inl (0, 6, .inl rkk)) := by rw [hH2]; exact set_ne a7 (by omega)
              have t0 : H2[118]? = some (.inl (0, 64, .inl mt)) := by rw [hH2]; exact set_ne t0 (by omega)
              have hO : Off (fun j => j = 111 ∨ (115 ≤ j ∧ j ≤ 117)) H H2 := by rw [hH2]; exact hO.set (by first | exact Or.inl rfl | exact Or.inr ⟨by decide, by decide⟩)
              refine ev_aload_n i124_202 rfl ?_
              refine ev_callV (vs := []) (rest := []) i124_203 ci124 lk8_98 (congrArg (fun q => q + 1) np125) ci125 (by decide) (by decide +kernel) (Nat.le_of_ble_eq_true rfl) ⟨rfl, rfl, Nat.le_of_ble_eq_true rfl⟩ rfl (by assumption) (c125ok c0 a5 a6 a7 t0 hmt hln htx hc htk (by omega) ⟨l0, o0⟩ ⟨l1, o1⟩ ⟨l2, o2⟩ ⟨l3, o3⟩) (fun r H3 hq => ?_)
              obtain ⟨rfl, c0, a5, a6, a7, hO3⟩ := hq
              have hO := hO.trans hO3 (C := (fun j => j = 111 ∨ (115 ≤ j ∧ j ≤ 117))) (fun _ q => q) (fun _ q => q)
              show Ev tb 124 206 [some (.ref 111), some (.int w1)] [] H3 _
              refine ev_goto (t := 72) i124_206 (by decide) ?_
              have hv1 : fplL tx ln (d + 1) gr tk p = fplL tx ln d gr (tk ||| 2 ^ (tx (p + 1) - 48)) (p + 5) := by
                conv => lhs; unfold fplL
                rw [if_neg hpe, if_neg hG, if_pos hK, if_pos (by omega), if_pos hf]
              have hv2 : telL tx ln (d + 1) p t = telL tx ln d (p + 5) (telK tx p t) := by
                conv => lhs; unfold telL
                rw [if_neg hpe, if_neg hG]
              rw [hv1, hv2]
              have hpo := pop_or (tx (p + 1) - 48) (by omega) tk htk hbit
              exact lq124 T0 hmt hln htx d gr _ (p + 5) (telK tx p t) _ _ _ _ (by omega) hgr (or10_lt (m := 10) htk (by omega)) (by omega) (show t.1 + 1 = _ by omega) (show t.1 + 1 ≤ 6 by omega) (hR.K hc) c0 a5 a6 a7 hO _
            · rw [show fplL tx ln (d + 1) gr tk p = fopL tx ln false tk p (pln false) 0 by
                conv => lhs; unfold fplL
                rw [if_neg hpe, if_neg hG, if_pos hK, if_pos (by omega), if_neg hf]]
              rw [show pln false = 4 from rfl] at hf ⊢
              refine ev_aload_n i124_72 rfl ?_
              refine ev_get i124_73 ci124 fl8_69 (by assumption) rfl ?_
              refine ev_bipush (v := (-9)) i124_76 (by decide) ?_
              refine ev_icmp_ne (t := 220) i124_78 (by decide) (fun z78 => by exfalso; exact absurd rfl z78) (fun z78 => ?_)
              refine ev_aload_n i124_81 rfl ?_
              refine ev_get i124_82 ci124 fl8_72 (by assumption) rfl ?_
              refine ev_aload_n i124_85 rfl ?_
              refine ev_get i124_86 ci124 fl8_66 (by assumption) rfl ?_
              refine evn_icmp_ge (t := 220) i124_89 (by decide) (by omega) (fun z89 => by exfalso; omega) (fun z89 => ?_)
              refine ev_aload_n i124_92 rfl ?_
              refine ev_get i124_93 ci124 fl8_28 (by assumption) rfl ?_
              refine ev_aload_n i124_96 rfl ?_
              refine ev_get i124_97 ci124 fl8_72 (by assumption) rfl ?_
              refine ev_iald_n i124_100 (by assumption) (by omega) ?_
              rw [hmt p (by omega)]
              refine ev_bipush (v := nI 71) i124_101 (by decide) ?_
              refine evn_icmp_ne (t := 169) i124_103 (by decide) (by omega) (fun z103 => ?_) (fun z103 => by exfalso; exact hG z103)
              refine ev_aload_n i124_169 rfl ?_
              refine ev_get i124_170 ci124 fl8_28 (by assumption) rfl ?_
              refine ev_aload_n i124_173 rfl ?_
              refine ev_get i124_174 ci124 fl8_72 (by assumption) rfl ?_
              refine ev_iald_n i124_177 (by assumption) (by omega) ?_
              rw [hmt p (by omega)]
              refine ev_bipush (v := nI 75) i124_178 (by decide) ?_
              refine evn_icmp_ne (t := 209) i124_180 (by decide) (by omega) (fun z180 => by exfalso; exact z180 hK) (fun z180 => ?_)
              refine ev_aload_n i124_183 rfl ?_
              refine ev_get i124_184 ci124 fl8_81 (by assumption) rfl ?_
              refine ev_bipush (v := nI 6) i124_187 (by decide) ?_
              refine evn_icmp_ge (t := 209) i124_189 (by decide) (by omega) (fun z189 => by exfalso; omega) (fun z189 => ?_)
              refine ev_aload_n i124_192 rfl ?_
              refine ev_dup i124_193 rfl ?_
              refine ev_get i124_194 ci124 fl8_72 (by assumption) rfl ?_
              refine ev_iconst (v := nI 1) i124_197 (by decide) ?_
              refine evn_iadd i124_198 ?_
              refine evs_put (fs' := [.int (nI n), .ref 112, .ref 113, .ref 114, .ref 115, .ref 116, .ref 117, .int (nI t.1), .int (nI gr), .int (nI tk), .ref 118, .int (nI ln), .int (nI (p + 1)), .int (-9), .int (f 6), .int (f 7), .ref 119, .ref 120, .int (f 8), .ref 121, .ref 122, .ref 123, .ref 124, .long sed, .ref 125, .ref 126]) i124_199 ci124 fl8_72 (by assumption) ⟨Nat.le_of_ble_eq_true rfl, rfl, Or.inl rfl⟩ rfl (fun H2 hH2 => ?_)
              have c0 : H2[111]? = some (.inr (8, [.int (nI n), .ref 112, .ref 113, .ref 114, .ref 115, .ref 116, .ref 117, .int (nI t.1), .int (nI gr), .int (nI tk), .ref 118, .int (nI ln), .int (nI (p + 1)), .int (-9), .int (f 6), .int (f 7), .ref 119, .ref 120, .int (f 8), .ref 121, .ref 122, .ref 123, .ref 124, .long sed, .ref 125, .ref 126])) := by rw [hH2]; exact set_self c0
              have a5 : H2[115]? = some (.inl (0, 27, .inl R)) := by rw [hH2]; exact set_ne a5 (by omega)
              have a6 : H2[116]? = some (.inl (0, 6, .inl rs)) := by rw [hH2]; exact set_ne a6 (by omega)
              have a7 : H2[117]? = some (.inl (0, 6, .inl rkk)) := by rw [hH2]; exact set_ne a7 (by omega)
              have t0 : H2[118]? = some (.inl (0, 64, .inl mt)) := by rw [hH2]; exact set_ne t0 (by omega)
              have hO : Off (fun j => j = 111 ∨ (115 ≤ j ∧ j ≤ 117)) H H2 := by rw [hH2]; exact hO.set (by first | exact Or.inl rfl | exact Or.inr ⟨by decide, by decide⟩)
              refine ev_aload_n i124_202 rfl ?_
              refine ev_callV (vs := []) (rest := []) i124_203 ci124 lk8_98 (congrArg (fun q => q + 1) np125) ci125 (by decide) (by decide +kernel) (Nat.le_of_ble_eq_true rfl) ⟨rfl, rfl, Nat.le_of_ble_eq_true rfl⟩ rfl (by assumption) (c125bad c0 a5 a6 a7 t0 hmt hln htx hc htk (by omega) hf) (fun r H3 hq => ?_)
              obtain ⟨rfl, rc9, rv9, rl9, at9, R9, rs9, rk9, c0, a5, a6, a7, hO3⟩ := hq
              unfold pOb at c0
              have hO := hO.trans hO3 (C := (fun j => j = 111 ∨ (115 ≤ j ∧ j ≤ 117))) (fun _ q => q) (fun _ q => q)
              show Ev tb 124 206 [some (.ref 111), some (.int w1)] [] H3 _
              refine ev_goto (t := 72) i124_206 (by decide) ?_
              refine ev_aload_n i124_72 rfl ?_
              refine ev_get i124_73 ci124 fl8_69 (by assumption) rfl ?_
              refine ev_bipush (v := (-9)) i124_76 (by decide) ?_
              refine ev_icmp_ne (t := 220) i124_78 (by decide) (fun z78 => ?_) (fun z78 => by exfalso; exact hf z78)
              refine ev_aload_n i124_220 rfl ?_
              refine ev_get i124_221 ci124 fl8_69 (by assumption) rfl ?_
              refine ev_iret i124_224 (by decide +kernel) ?_
              exact ⟨rfl, _, _, _, _, _, _, _, _, c0, a5, a6, a7, hO, fun q => absurd q hf⟩
          · rw [show fplL tx ln (d + 1) gr tk p = nI p by
              unfold fplL
              rw [if_neg hpe, if_neg hG, if_pos hK, if_neg (by omega)]]
            refine ev_aload_n i124_72 rfl ?_
            refine ev_get i124_73 ci124 fl8_69 (by assumption) rfl ?_
            refine ev_bipush (v := (-9)) i124_76 (by decide) ?_
            refine ev_icmp_ne (t := 220) i124_78 (by decide) (fun z78 => by exfalso; exact absurd rfl z78) (fun z78 => ?_)
            refine ev_aload_n i124_81 rfl ?_
            refine ev_get i124_82 ci124 fl8_72 (by assumption) rfl ?_
            refine ev_aload_n i124_85 rfl ?_
            refine ev_get i124_86 ci124 fl8_66 (by assumption) rfl ?_
            refine evn_icmp_ge (t := 220) i124_89 (by decide) (by omega) (fun z89 => by exfalso; omega) (fun z89 => ?_)
            refine ev_aload_n i124_92 rfl ?_
            refine ev_get i124_93 ci124 fl8_28 (by assumption) rfl ?_
            refine ev_aload_n i124_96 rfl ?_
            refine ev_get i124_97 ci124 fl8_72 (by assumption) rfl ?_
            refine ev_iald_n i124_100 (by assumption) (by omega) ?_
            rw [hmt p (by omega)]
            refine ev_bipush (v := nI 71) i124_101 (by decide) ?_
            refine evn_icmp_ne (t := 169) i124_103 (by decide) (by omega) (fun z103 => ?_) (fun z103 => by exfalso; exact hG z103)
            refine ev_aload_n i124_169 rfl ?_
            refine ev_get i124_170 ci124 fl8_28 (by assumption) rfl ?_
            refine ev_aload_n i124_173 rfl ?_
            refine ev_get i124_174 ci124 fl8_72 (by assumption) rfl ?_
            refine ev_iald_n i124_177 (by assumption) (by omega) ?_
            rw [hmt p (by omega)]
            refine ev_bipush (v := nI 75) i124_178 (by decide) ?_
            refine evn_icmp_ne (t := 209) i124_180 (by decide) (by omega) (fun z180 => by exfalso; exact z180 hK) (fun z180 => ?_)
            refine ev_aload_n i124_183 rfl ?_
            refine ev_get i124_184 ci124 fl8_81 (by assumption) rfl ?_
            refine ev_bipush (v := nI 6) i124_187 (by decide) ?_
            refine evn_icmp_ge (t := 209) i124_189 (by decide) (by omega) (fun z189 => ?_) (fun z189 => by exfalso; omega)
            refine ev_aload_n i124_209 rfl ?_
            refine ev_aload_n i124_210 rfl ?_
            refine ev_get i124_211 ci124 fl8_72 (by assumption) rfl ?_
            refine evs_put (fs' := [.int (nI n), .ref 112, .ref 113, .ref 114, .ref 115, .ref 116, .ref 117, .int (nI t.1), .int (nI gr), .int (nI tk), .ref 118, .int (nI ln), .int (nI p), .int (nI p), .int (f 6), .int (f 7), .ref 119, .ref 120, .int (f 8), .ref 121, .ref 122, .ref 123, .ref 124, .long sed, .ref 125, .ref 126]) i124_214 ci124 fl8_69 (by assumption) ⟨Nat.le_of_ble_eq_true rfl, rfl, Or.inl rfl⟩ rfl (fun H2 hH2 => ?_)
            have c0 : H2[111]? = some (.inr (8, [.int (nI n), .ref 112, .ref 113, .ref 114, .ref 115, .ref 116, .ref 117, .int (nI t.1), .int (nI gr), .int (nI tk), .ref 118, .int (nI ln), .int (nI p), .int (nI p), .int (f 6), .int (f 7), .ref 119, .ref 120, .int (f 8), .ref 121, .ref 122, .ref 123, .ref 124, .long sed, .ref 125, .ref 126])) := by rw [hH2]; exact set_self c0
            have a5 : H2[115]? = some (.inl (0, 27, .inl R)) := by rw [hH2]; exact set_ne a5 (by omega)
            have a6 : H2[116]? = some (.inl (0, 6, .inl rs)) := by rw [hH2]; exact set_ne a6 (by omega)
            have a7 : H2[117]? = some (.inl (0, 6, .inl rkk)) := by rw [hH2]; exact set_ne a7 (by omega)
            have t0 : H2[118]? = some (.inl (0, 64, .inl mt)) := by rw [hH2]; exact set_ne t0 (by omega)
            have hO : Off (fun j => j = 111 ∨ (115 ≤ j ∧ j ≤ 117)) H H2 := by rw [hH2]; exact hO.set (by first | exact Or.inl rfl | exact Or.inr ⟨by decide, by decide⟩)
            refine ev_goto (t := 72) i124_217 (by decide) ?_
            refine ev_aload_n i124_72 rfl ?_
            refine ev_get i124_73 ci124 fl8_69 (by assumption) rfl ?_
            refine ev_bipush (v := (-9)) i124_76 (by decide) ?_
            refine ev_icmp_ne (t := 220) i124_78 (by decide) (fun z78 => ?_) (fun z78 => by exfalso; exact absurd z78 (m9_ne (by omega)))
            refine ev_aload_n i124_220 rfl ?_
            refine ev_get i124_221 ci124 fl8_69 (by assumption) rfl ?_
            refine ev_iret i124_224 (by decide +kernel) ?_
            exact ⟨rfl, _, _, _, _, _, _, _, _, c0, a5, a6, a7, hO, fun q => absurd q (m9_ne (by omega))⟩
        · rw [show fplL tx ln (d + 1) gr tk p = nI p by
            unfold fplL
            rw [if_neg hpe, if_neg hG, if_neg hK]]
          refine ev_aload_n i124_72 rfl ?_
          refine ev_get i124_73 ci124 fl8_69 (by assumption) rfl ?_
          refine ev_bipush (v := (-9)) i124_76 (by decide) ?_
          refine ev_icmp_ne (t := 220) i124_78 (by decide) (fun z78 => by exfalso; exact absurd rfl z78) (fun z78 => ?_)
          refine ev_aload_n i124_81 rfl ?_
          refine ev_get i124_82 ci124 fl8_72 (by assumption) rfl ?_
          refine ev_aload_n i124_85 rfl ?_
          refine ev_get i124_86 ci124 fl8_66 (by assumption) rfl ?_
          refine evn_icmp_ge (t := 220) i124_89 (by decide) (by omega) (fun z89 => by exfalso; omega) (fun z89 => ?_)
          refine ev_aload_n i124_92 rfl ?_
          refine ev_get i124_93 ci124 fl8_28 (by assumption) rfl ?_
          refine ev_aload_n i124_96 rfl ?_
          refine ev_get i124_97 ci124 fl8_72 (by assumption) rfl ?_
          refine ev_iald_n i124_100 (by assumption) (by omega) ?_
          rw [hmt p (by omega)]
          refine ev_bipush (v := nI 71) i124_101 (by decide) ?_
          refine evn_icmp_ne (t := 169) i124_103 (by decide) (by omega) (fun z103 => ?_) (fun z103 => by exfalso; exact hG z103)
          refine ev_aload_n i124_169 rfl ?_
          refine ev_get i124_170 ci124 fl8_28 (by assumption) rfl ?_
          refine ev_aload_n i124_173 rfl ?_
          refine ev_get i124_174 ci124 fl8_72 (by assumption) rfl ?_
          refine ev_iald_n i124_177 (by assumption) (by omega) ?_
          rw [hmt p (by omega)]
          refine ev_bipush (v := nI 75) i124_178 (by decide) ?_
          refine evn_icmp_ne (t := 209) i124_180 (by decide) (by omega) (fun z180 => ?_) (fun z180 => by exfalso; exact hK z180)
          refine ev_aload_n i124_209 rfl ?_
          refine ev_aload_n i124_210 rfl ?_
          refine ev_get i124_211 ci124 fl8_72 (by assumption) rfl ?_
          refine evs_put (fs' := [.int (nI n), .ref 112, .ref 113, .ref 114, .ref 115, .ref 116, .ref 117, .int (nI t.1), .int (nI gr), .int (nI tk), .ref 118, .int (nI ln), .int (nI p), .int (nI p), .int (f 6), .int (f 7), .ref 119, .ref 120, .int (f 8), .ref 121, .ref 122, .ref 123, .ref 124, .long sed, .ref 125, .ref 126]) i124_214 ci124 fl8_69 (by assumption) ⟨Nat.le_of_ble_eq_true rfl, rfl, Or.inl rfl⟩ rfl (fun H2 hH2 => ?_)
          have c0 : H2[111]? = some (.inr (8, [.int (nI n), .ref 112, .ref 113, .ref 114, .ref 115, .ref 116, .ref 117, .int (nI t.1), .int (nI gr), .int (nI tk), .ref 118, .int (nI ln), .int (nI p), .int (nI p), .int (f 6), .int (f 7), .ref 119, .ref 120, .int (f 8), .ref 121, .ref 122, .ref 123, .ref 124, .long sed, .ref 125, .ref 126])) := by rw [hH2]; exact set_self c0
          have a5 : H2[115]? = some (.inl (0, 27, .inl R)) := by rw [hH2]; exact set_ne a5 (by omega)
          have a6 : H2[116]? = some (.inl (0, 6, .inl rs)) := by rw [hH2]; exact set_ne a6 (by omega)
          have a7 : H2[117]? = some (.inl (0, 6, .inl rkk)) := by rw [hH2]; exact set_ne a7 (by omega)
          have t0 : H2[118]? = some (.inl (0, 64, .inl mt)) := by rw [hH2]; exact set_ne t0 (by omega)
          have hO : Off (fun j => j = 111 ∨ (115 ≤ j ∧ j ≤ 117)) H H2 := by rw [hH2]; exact hO.set (by first | exact Or.inl rfl | exact Or.inr ⟨by decide, by decide⟩)
          refine ev_goto (t := 72) i124_217 (by decide) ?_
          refine ev_aload_n i124_72 rfl ?_
          refine ev_get i124_73 ci124 fl8_69 (by assumption) rfl ?_
          refine ev_bipush (v := (-9)) i124_76 (by decide) ?_
          refine ev_icmp_ne (t := 220) i124_78 (by decide) (fun z78 => ?_) (fun z78 => by exfalso; exact absurd z78 (m9_ne (by omega)))
          refine ev_aload_n i124_220 rfl ?_
          refine ev_get i124_221 ci124 fl8_69 (by assumption) rfl ?_
          refine ev_iret i124_224 (by decide +kernel) ?_
          exact ⟨rfl, _, _, _, _, _, _, _, _, c0, a5, a6, a7, hO, fun q => absurd q (m9_ne (by omega))⟩
theorem lq124z {tb : dxT} {H : dxH} {n : Nat} {f : Nat → Int32} {sed : Int64} {ln : Nat} {Q : Option Value → dxH → Prop} : ∀ (d i : Nat) (H1 : dxH) (R : Nat → Int32), i + d = 27 → H1[111]? = some (pOb n f sed ln (nI 0) (nI 0) (nI 0) (nI 0) (-9)) → H1[115]? = some (.inl (0, 27, .inl R)) → (∀ j, j < i → R j = nI 0) → Off (fun j => j = 111 ∨ (115 ≤ j ∧ j ≤ 117)) H H1 → (∀ H3 R3, H3[111]? = some (pOb n f sed ln (nI 0) (nI 0) (nI 0) (nI 0) (-9)) → H3[115]? = some (.inl (0, 27, .inl R3)) → (∀ j, j < 27 → R3 j = nI 0) → Off (fun j => j = 111 ∨ (115 ≤ j ∧ j ≤ 117)) H H3 → Ev tb 124 47 [some (.ref 111), some (.int (nI 27))] [] H3 Q) → Ev tb 124 28 [some (.ref 111), some (.int (nI i))] [] H1 Q
  | 0, i, H1, R, hi, c0, a5, hz, hO, hQ => by
    obtain rfl : i = 27 := by omega
    refine ev_iload_n i124_28 rfl ?_
    refine ev_bipush (v := nI 27) i124_29 (by decide) ?_
    refine evn_icmp_ge (t := 47) i124_31 (by decide) (by omega) (fun z31 => ?_) (fun z31 => by exfalso; omega)
    exact hQ H1 R c0 a5 hz hO
  | d + 1, i, H1, R, hi, c0, a5, hz, hO, hQ => by
    unfold pOb at c0
    refine ev_iload_n i124_28 rfl ?_
    refine ev_bipush (v := nI 27) i124_29 (by decide) ?_
    refine evn_icmp_ge (t := 47) i124_31 (by decide) (by omega) (fun z31 => by exfalso; omega) (fun z31 => ?_)
    refine ev_aload_n i124_34 rfl ?_
    refine ev_get i124_35 ci124 fl8_19 (by assumption) rfl ?_
    refine ev_iload_n i124_38 rfl ?_
    refine ev_iconst (v := nI 0) i124_39 (by decide) ?_
    refine evs_iastw i124_40 (by assumption) (by omega) (fun H2 hH2 => ?_)
    have c0 : H2[111]? = some (.inr (8, [.int (nI n), .ref 112, .ref 113, .ref 114, .ref 115, .ref 116, .ref 117, .int (nI 0), .int (nI 0), .int (nI 0), .ref 118, .int (nI ln), .int (nI 0), .int (-9), .int (f 6), .int (f 7), .ref 119, .ref 120, .int (f 8), .ref 121, .ref 122, .ref 123, .ref 124, .long sed, .ref 125, .ref 126])) := by rw [hH2]; exact set_ne c0 (by omega)
    have a5 : H2[115]? = some (.inl (0, 27, .inl (upd R i (nI 0)))) := by rw [hH2]; exact set_self a5
    have hO : Off (fun j => j = 111 ∨ (115 ≤ j ∧ j ≤ 117)) H H2 := by rw [hH2]; exact hO.set (by first | exact Or.inl rfl | exact Or.inr ⟨by decide, by decide⟩)
    refine evn_iinc (d := 1) (L' := [some (.ref 111), some (.int (nI (i + 1)))]) i124_41 rfl rfl (by decide) rfl ?_
    refine ev_goto (t := 28) i124_44 (by decide) ?_
    exact lq124z d (i + 1) _ _ (by omega) c0 a5 (fun j hj => by
      unfold upd
      by_cases q : j = i
      · rw [if_pos q]
      · rw [if_neg q]; exact hz j (by omega)) hO hQ
