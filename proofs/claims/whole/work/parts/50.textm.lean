/-! the model's text read through  -/
theorem lq124 {tb : dxT} {H : dxH} {n : Nat} {f : Nat → Int32} {sed : Int64} {ln : Nat} {mt : Nat → Int32} {tx : Nat → Nat} (T0 : H[118]? = some (.inl (0, 64, .inl mt))) (hmt : ∀ j, j < ln → mt j = nI (tx j)) (hln : ln ≤ 64) (htx : ∀ j, tx j < 256) : ∀ (d gr tk p : Nat) (t : Tl) (H1 : dxH) (R rs rkk : Nat → Int32), ln ≤ p + 3 * d → gr < 1024 → tk < 1024 → p ≤ ln → t.1 = popN tk → t.1 ≤ 6 → RI R rs rkk t → H1[111]? = some (pOb n f sed ln (nI t.1) (nI gr) (nI tk) (nI p) (-9)) → H1[115]? = some (.inl (0, 27, .inl R)) → H1[116]? = some (.inl (0, 6, .inl rs)) → H1[117]? = some (.inl (0, 6, .inl rkk)) → Off (fun j => j = 111 ∨ (115 ≤ j ∧ j ≤ 117)) H H1 → ∀ w1 : Int32, Ev tb 124 72 [some (.ref 111), some (.int w1)] [] H1 (fun r H' => r = some (.int (fplL tx ln d gr tk p)) ∧ ∃ (rc rv rl at_ fa : Int32) (R rs rkk : Nat → Int32), H'[111]? = some (pOb n f sed ln rc rv rl at_ fa) ∧ H'[115]? = some (.inl (0, 27, .inl R)) ∧ H'[116]? = some (.inl (0, 6, .inl rs)) ∧ H'[117]? = some (.inl (0, 6, .inl rkk)) ∧ Off (fun j => j = 111 ∨ (115 ≤ j ∧ j ≤ 117)) H H' ∧ (fplL tx ln d gr tk p = -9 → rc = nI (telL tx ln d p t).1 ∧ RI R rs rkk (telL tx ln d p t)))
  | 0, gr, tk, p, t, H1, R, rs, rkk, hd, hgr, htk, hp, ht, ht6, hR, c0, a5, a6, a7, hO, w1 => by
    unfold pOb at c0
    have t0 := hO.at T0 (by omega)
    rw [show fplL tx ln 0 gr tk p = -9 from rfl, show telL tx ln 0 p t = t from rfl]
    have hpe : ln ≤ p := by omega
    refine ev_aload_n i124_72 rfl ?_
    refine ev_get i124_73 ci124 fl8_69 (by assumption) rfl ?_
    refine ev_bipush (v := (-9)) i124_76 (by decide) ?_
    refine ev_icmp_ne (t := 220) i124_78 (by decide) (fun z78 => by exfalso; exact absurd rfl z78) (fun z78 => ?_)
    refine ev_aload_n i124_81 rfl ?_
    refine ev_get i124_82 ci124 fl8_72 (by assumption) rfl ?_
    refine ev_aload_n i124_85 rfl ?_
    refine ev_get i124_86 ci124 fl8_66 (by assumption) rfl ?_
    refine evn_icmp_ge (t := 220) i124_89 (by decide) (by omega) (fun z89 => ?_) (fun z89 => by exfalso; omega)
    refine ev_aload_n i124_220 rfl ?_
    refine ev_get i124_221 ci124 fl8_69 (by assumption) rfl ?_
    refine ev_iret i124_224 (by decide +kernel) ?_
    exact ⟨rfl, _, _, _, _, _, R, rs, rkk, c0, a5, a6, a7, hO, fun _ => ⟨rfl, hR⟩⟩
  | d + 1, gr, tk, p, t, H1, R, rs, rkk, hd, hgr, htk, hp, ht, ht6, hR, c0, a5, a6, a7, hO, w1 => by
    have htp := htx p
    unfold pOb at c0
    have t0 := hO.at T0 (by omega)
    by_cases hpe : ln ≤ p
    · rw [show fplL tx ln (d + 1) gr tk p = -9 by unfold fplL; exact if_pos hpe, show telL tx ln (d + 1) p t = t by unfold telL; exact if_pos hpe]
      refine ev_aload_n i124_72 rfl ?_
      refine ev_get i124_73 ci124 fl8_69 (by assumption) rfl ?_
      refine ev_bipush (v := (-9)) i124_76 (by decide) ?_
      refine ev_icmp_ne (t := 220) i124_78 (by decide) (fun z78 => by exfalso; exact absurd rfl z78) (fun z78 => ?_)
      refine ev_aload_n i124_81 rfl ?_
      refine ev_get i124_82 ci124 fl8_72 (by assumption) rfl ?_
      refine ev_aload_n i124_85 rfl ?_
      refine ev_get i124_86 ci124 fl8_66 (by assumption) rfl ?_
      refine evn_icmp_ge (t := 220) i124_89 (by decide) (by omega) (fun z89 => ?_) (fun z89 => by exfalso; omega)
      refine ev_aload_n i124_220 rfl ?_
      refine ev_get i124_221 ci124 fl8_69 (by assumption) rfl ?_
      refine ev_iret i124_224 (by decide +kernel) ?_
      exact ⟨rfl, _, _, _, _, _, R, rs, rkk, c0, a5, a6, a7, hO, fun _ => ⟨rfl, hR⟩⟩
    · by_cases hG : tx p = 71
      · by_cases hgr3 : gr = 1023
        · rw [show fplL tx ln (d + 1) gr tk p = nI p by
            unfold fplL
            rw [if_neg hpe, if_pos hG, if_pos hgr3]]
          refine ev_aload_n i124_72 rfl ?_
          refine ev_get i124_73 ci124 fl8_69 (by assumption) rfl ?_
          refine ev_bipush (v := (-9)) i124_76 (by decide) ?_
          refine ev_icmp_ne (t := 220) i124_78 (by decide) (fun z78 => by exfalso; exact absurd rfl z78) (fun z78 => ?_)
          refine ev_aload_n i124_81 rfl ?_
          refine ev_get i124_82 ci124 fl8_72 (by assumption) rfl ?_
          refine ev_aload_n i124_85 rfl ?_
          refine ev_get i124_86 ci124 fl8_66 (by assumption) rfl ?_
          refine evn_icmp_ge (t := 220) i124_89 (by decide) (by omega) (fun z89 => by exfalso; omega) (fun z89 => ?_)
          refine ev_aload_n i124_92 rfl ?_
          refine ev_get i124_93 ci124 fl8_28 (by assumption) rfl ?_
          refine ev_aload_n i124_96 rfl ?_
          refine ev_get i124_97 ci124 fl8_72 (by assumption) rfl ?_
          refine ev_iald_n i124_100 (by assumption) (by omega) ?_
          rw [hmt p (by omega)]
          refine ev_bipush (v := nI 71) i124_101 (by decide) ?_
          refine evn_icmp_ne (t := 169) i124_103 (by decide) (by omega) (fun z103 => by exfalso; exact z103 hG) (fun z103 => ?_)
          refine ev_aload_n i124_106 rfl ?_
          refine ev_get i124_107 ci124 fl8_84 (by assumption) rfl ?_
          refine ev_sipush (v := nI 1023) i124_110 (by decide) ?_
          refine evn_icmp_eq (t := 169) i124_113 (by decide) (by omega) (fun z113 => ?_) (fun z113 => by exfalso; exact z113 hgr3)
          refine ev_aload_n i124_169 rfl ?_
          refine ev_get i124_170 ci124 fl8_28 (by assumption) rfl ?_
          refine ev_aload_n i124_173 rfl ?_
          refine ev_get i124_174 ci124 fl8_72 (by assumption) rfl ?_
          refine ev_iald_n i124_177 (by assumption) (by omega) ?_
          rw [hmt p (by omega)]
          refine ev_bipush (v := nI 75) i124_178 (by decide) ?_
          refine evn_icmp_ne (t := 209) i124_180 (by decide) (by omega) (fun z180 => ?_) (fun z180 => by exfalso; omega)
          refine ev_aload_n i124_209 rfl ?_
          refine ev_aload_n i124_210 rfl ?_
          refine ev_get i124_211 ci124 fl8_72 (by assumption) rfl ?_
          refine evs_put (fs' := [.int (nI n), .ref 112, .ref 113, .ref 114, .ref 115, .ref 116, .ref 117, .int (nI t.1), .int (nI gr), .int (nI tk), .ref 118, .int (nI ln), .int (nI p), .int (nI p), .int (f 6), .int (f 7), .ref 119, .ref 120, .int (f 8), .ref 121, .ref 122, .ref 123, .ref 124, .long sed, .ref 125, .ref 126]) i124_214 ci124 fl8_69 (by assumption) ⟨Nat.le_of_ble_eq_true rfl, rfl, Or.inl rfl⟩ rfl (fun H2 hH2 => ?_)
          have c0 : H2[111]? = some (.inr (8, [.int (nI n), .ref 112, .ref 113, .ref 114, .ref 115, .ref 116, .ref 117, .int (nI t.1), .int (nI gr), .int (nI tk), .ref 118, .int (nI ln), .int (nI p), .int (nI p), .int (f 6), .int (f 7), .ref 119, .ref 120, .int (f 8), .ref 121, .ref 122, .ref 123, .ref 124, .long sed, .ref 125, .ref 126])) := by rw [hH2]; exact set_self c0
          have a5 : H2[115]? = some (.inl (0, 27, .inl R)) := by rw [hH2]; exact set_ne a5 (by omega)
          have a6 : H2[116]? = some (.inl (0, 6, .inl rs)) := by rw [hH2]; exact set_ne a6 (by omega)
          have a7 : H2[117]? = some (.inl (0, 6, .inl rkk)) := by rw [hH2]; exact set_ne a7 (by omega)
          have t0 : H2[118]? = some (.inl (0, 64, .inl mt)) := by rw [hH2]; exact set_ne t0 (by omega)
          have hO : Off (fun j => j = 111 ∨ (115 ≤ j ∧ j ≤ 117)) H H2 := by rw [hH2]; exact hO.set (by first | exact Or.inl rfl | exact Or.inr ⟨by decide, by decide⟩)
          refine ev_goto (t := 72) i124_217 (by decide) ?_
          refine ev_aload_n i124_72 rfl ?_
          refine ev_get i124_73 ci124 fl8_69 (by assumption) rfl ?_
          refine ev_bipush (v := (-9)) i124_76 (by decide) ?_
          refine ev_icmp_ne (t := 220) i124_78 (by decide) (fun z78 => ?_) (fun z78 => by exfalso; exact absurd z78 (m9_ne (by omega)))
          refine ev_aload_n i124_220 rfl ?_
          refine ev_get i124_221 ci124 fl8_69 (by assumption) rfl ?_
          refine ev_iret i124_224 (by decide +kernel) ?_
          exact ⟨rfl, _, _, _, _, _, _, _, _, c0, a5, a6, a7, hO, fun q => absurd q (m9_ne (by omega))⟩
        · by_cases hf : fopL tx ln true gr p (pln true) 0 = -9
          · obtain ⟨l0, o0, f1⟩ := fop_ok (d := 1) (i := 0) hln (by omega) (by decide) hf
            obtain ⟨l1, o1, _⟩ := fop_ok (d := 0) (i := 1) hln (by omega) (by decide) f1
            obtain ⟨q0, hbit⟩ := okP_0.mp o0
            have q1 := okG1.mp o1
            refine ev_aload_n i124_72 rfl ?_
            refine ev_get i124_73 ci124 fl8_69 (by assumption) rfl ?_
            refine ev_bipush (v := (-9)) i124_76 (by decide) ?_
            refine ev_icmp_ne (t := 220) i124_78 (by decide) (fun z78 => by exfalso; exact absurd rfl z78) (fun z78 => ?_)
            refine ev_aload_n i124_81 rfl ?_
            refine ev_get i124_82 ci124 fl8_72 (by assumption) rfl ?_
            refine ev_aload_n i124_85 rfl ?_
            refine ev_get i124_86 ci124 fl8_66 (by assumption) rfl ?_
            refine evn_icmp_ge (t := 220) i124_89 (by decide) (by omega) (fun z89 => by exfalso; omega) (fun z89 => ?_)
            refine ev_aload_n i124_92 rfl ?_
            refine ev_get i124_93 ci124 fl8_28 (by assumption) rfl ?_
            refine ev_aload_n i124_96 rfl ?_
            refine ev_get i124_97 ci124 fl8_72 (by assumption) rfl ?_
            refine ev_iald_n i124_100 (by assumption) (by omega) ?_
            rw [hmt p (by omega)]
            refine ev_bipush (v := nI 71) i124_101 (by decide) ?_
            refine evn_icmp_ne (t := 169) i124_103 (by decide) (by omega) (fun z103 => by exfalso; exact z103 hG) (fun z103 => ?_)
            refine ev_aload_n i124_106 rfl ?_
            refine ev_get i124_107 ci124 fl8_84 (by assumption) rfl ?_
            refine ev_sipush (v := nI 1023) i124_110 (by decide) ?_
            refine evn_icmp_eq (t := 169) i124_113 (by decide) (by omega) (fun z113 => by exfalso; exact hgr3 z113) (fun z113 => ?_)
            refine ev_aload_n i124_116 rfl ?_
            refine ev_dup i124_117 rfl ?_
            refine ev_get i124_118 ci124 fl8_72 (by assumption) rfl ?_
            refine ev_iconst (v := nI 1) i124_121 (by decide) ?_
            refine evn_iadd i124_122 ?_
            refine evs_put (fs' := [.int (nI n), .ref 112, .ref 113, .ref 114, .ref 115, .ref 116, .ref 117, .int (nI t.1), .int (nI gr), .int (nI tk), .ref 118, .int (nI ln), .int (nI (p + 1)), .int (-9), .int (f 6), .int (f 7), .ref 119, .ref 120, .int (f 8), .ref 121, .ref 122, .ref 123, .ref 124, .long sed, .ref 125, .ref 126]) i124_123 ci124 fl8_72 (by assumption) ⟨Nat.le_of_ble_eq_true rfl, rfl, Or.inl rfl⟩ rfl (fun H2 hH2 => ?_)
            have c0 : H2[111]? = some (.inr (8, [.int (nI n), .ref 112, .ref 113, .ref 114, .ref 115, .ref 116, .ref 117, .int (nI t.1), .int (nI gr), .int (nI tk), .ref 118, .int (nI ln), .int (nI (p + 1)), .int (-9), .int (f 6), .int (f 7), .ref 119, .ref 120, .int (f 8), .ref 121, .ref 122, .ref 123, .ref 124, .long sed, .ref 125, .ref 126])) := by rw [hH2]; exact set_self c0
            have a5 : H2[115]? = some (.inl (0, 27, .inl R)) := by rw [hH2]; exact set_ne a5 (by omega)
            have a6 : H2[116]? = some (.inl (0, 6, .inl rs)) := by rw [hH2]; exact set_ne a6 (by omega)
            have a7 : H2[117]? = some (.inl (0, 6, .inl rkk)) := by rw [hH2]; exact set_ne a7 (by omega)
            have t0 : H2[118]? = some (.inl (0, 64, .inl mt)) := by rw [hH2]; exact set_ne t0 (by omega)
            have hO : Off (fun j => j = 111 ∨ (115 ≤ j ∧ j ≤ 117)) H H2 := by rw [hH2]; exact hO.set (by first | exact Or.inl rfl | exact Or.inr ⟨by decide, by decide⟩)
            refine ev_aload_n i124_126 rfl ?_
            refine ev_sipush (v := nI 1023) i124_127 (by decide) ?_
            refine ev_aload_n i124_130 rfl ?_
            refine ev_get i124_131 ci124 fl8_84 (by assumption) rfl ?_
            refine ev_iconst (v := (-1)) i124_134 (by decide) ?_
            refine ev_ixor i124_135 ?_
            refine ev_iand i124_136 ?_
            rw [msk gr hgr]
            refine ev_callV (vs := [.int (nI (1023 - gr))]) (rest := []) i124_137 ci124 lk8_90 (congrArg (fun q => q + 1) np123) ci123 (by decide) (by decide +kernel) (Nat.le_of_ble_eq_true rfl) ⟨rfl, rfl, Nat.le_of_ble_eq_true rfl⟩ rfl (by assumption) (c123ok c0 t0 hmt hln htx (by omega) (by omega) (by omega) (by omega) hbit) (fun r H3 hq => ?_)
            obtain ⟨rfl, c0, hO3⟩ := hq
            have c0 : H3[111]? = some (.inr (8, [.int (nI n), .ref 112, .ref 113, .ref 114, .ref 115, .ref 116, .ref 117, .int (nI t.1), .int (nI gr), .int (nI tk), .ref 118, .int (nI ln), .int (nI (p + 1 + 1)), .int (-9), .int (f 6), .int (f 7), .ref 119, .ref 120, .int (f 8), .ref 121, .ref 122, .ref 123, .ref 124, .long sed, .ref 125, .ref 126])) := c0
            have a5 := hO3.at a5 (by decide)
            have a6 := hO3.at a6 (by decide)
            have a7 := hO3.at a7 (by decide)
            have t0 := hO3.at t0 (by decide)
            have hO := hO.trans hO3 (C := (fun j => j = 111 ∨ (115 ≤ j ∧ j ≤ 117))) (fun _ q => q) (fun _ q => Or.inl q)
            show Ev tb 124 140 [some (.ref 111), some (.int w1)] [.int (nI (tx (p + 1) - 48))] H3 _
            refine ev_istore_n (L' := [some (.ref 111), some (.int (nI (tx (p + 1) - 48)))]) i124_140 ⟨Nat.le_of_ble_eq_true rfl, rfl⟩ rfl ?_
            refine ev_aload_n i124_141 rfl ?_
            refine ev_get i124_142 ci124 fl8_19 (by assumption) rfl ?_
            refine ev_iload_n i124_145 rfl ?_
            refine ev_aload_n i124_146 rfl ?_
            refine ev_iconst (v := nI 1) i124_147 (by decide) ?_
            refine ev_bipush (v := nI 9) i124_148 (by decide) ?_
            refine ev_callV (vs := [.int (nI 1), .int (nI 9)]) (rest := [.int (nI (tx (p + 1) - 48)), .ref 115]) i124_150 ci124 lk8_94 (congrArg (fun q => q + 1) np122) ci122 (by decide) (by decide +kernel) (Nat.le_of_ble_eq_true rfl) ⟨rfl, rfl, Nat.le_of_ble_eq_true rfl⟩ rfl (by assumption) (c122ok c0 t0 hmt hln htx (by decide) (by decide) (by omega) (by omega) (by omega)) (fun r H4 hq => ?_)
            obtain ⟨rfl, c0, hO4⟩ := hq
            have c0 : H4[111]? = some (.inr (8, [.int (nI n), .ref 112, .ref 113, .ref 114, .ref 115, .ref 116, .ref 117, .int (nI t.1), .int (nI gr), .int (nI tk), .ref 118, .int (nI ln), .int (nI (p + 1 + 2)), .int (-9), .int (f 6), .int (f 7), .ref 119, .ref 120, .int (f 8), .ref 121, .ref 122, .ref 123, .ref 124, .long sed, .ref 125, .ref 126])) := c0
            have a5 := hO4.at a5 (by decide)
            have a6 := hO4.at a6 (by decide)
            have a7 := hO4.at a7 (by decide)
            have t0 := hO4.at t0 (by decide)
            have hO := hO.trans hO4 (C := (fun j => j = 111 ∨ (115 ≤ j ∧ j ≤ 117))) (fun _ q => q) (fun _ q => Or.inl q)
            show Ev tb 124 153 [some (.ref 111), some (.int (nI (tx (p + 1) - 48)))] [.int (nI (tx (p + 1 + 1) - 48)), .int (nI (tx (p + 1) - 48)), .ref 115] H4 _
            refine evs_iastw i124_153 (by assumption) (by omega) (fun H5 hH5 => ?_)
            have c0 : H5[111]? = some (.inr (8, [.int (nI n), .ref 112, .ref 113, .ref 114, .ref 115, .ref 116, .ref 117, .int (nI t.1), .int (nI gr), .int (nI tk), .ref 118, .int (nI ln), .int (nI (p + 1 + 2)), .int (-9), .int (f 6), .int (f 7), .ref 119, .ref 120, .int (f 8), .ref 121, .ref 122, .ref 123, .ref 124, .long sed, .ref 125, .ref 126])) := by rw [hH5]; exact set_ne c0 (by omega)
            have a5 : H5[115]? = some (.inl (0, 27, .inl (upd R (tx (p + 1) - 48) (nI (tx (p + 1 + 1) - 48))))) := by rw [hH5]; exact set_self a5
            have a6 : H5[116]? = some (.inl (0, 6, .inl rs)) := by rw [hH5]; exact set_ne a6 (by omega)
            have a7 : H5[117]? = some (.inl (0, 6, .inl rkk)) := by rw [hH5]; exact set_ne a7 (by omega)
            have t0 : H5[118]? = some (.inl (0, 64, .inl mt)) := by rw [hH5]; exact set_ne t0 (by omega)
            have hO : Off (fun j => j = 111 ∨ (115 ≤ j ∧ j ≤ 117)) H H5 := by rw [hH5]; exact hO.set (by first | exact Or.inl rfl | exact Or.inr ⟨by decide, by decide⟩)
            refine ev_aload_n i124_154 rfl ?_
            refine ev_dup i124_155 rfl ?_
            refine ev_get i124_156 ci124 fl8_84 (by assumption) rfl ?_
            refine ev_iconst (v := nI 1) i124_159 (by decide) ?_
            refine ev_iload_n i124_160 rfl ?_
            refine ev_ishl i124_161 ?_
            refine ev_ior i124_162 ?_
            rw [or10 gr hgr (tx (p + 1) - 48) (by omega)]
            refine evs_put (fs' := [.int (nI n), .ref 112, .ref 113, .ref 114, .ref 115, .ref 116, .ref 117, .int (nI t.1), .int (nI (gr ||| 2 ^ (tx (p + 1) - 48))), .int (nI tk), .ref 118, .int (nI ln), .int (nI (p + 1 + 2)), .int (-9), .int (f 6), .int (f 7), .ref 119, .ref 120, .int (f 8), .ref 121, .ref 122, .ref 123, .ref 124, .long sed, .ref 125, .ref 126]) i124_163 ci124 fl8_84 (by assumption) ⟨Nat.le_of_ble_eq_true rfl, rfl, Or.inl rfl⟩ rfl (fun H6 hH6 => ?_)
            have c0 : H6[111]? = some (.inr (8, [.int (nI n), .ref 112, .ref 113, .ref 114, .ref 115, .ref 116, .ref 117, .int (nI t.1), .int (nI (gr ||| 2 ^ (tx (p + 1) - 48))), .int (nI tk), .ref 118, .int (nI ln), .int (nI (p + 1 + 2)), .int (-9), .int (f 6), .int (f 7), .ref 119, .ref 120, .int (f 8), .ref 121, .ref 122, .ref 123, .ref 124, .long sed, .ref 125, .ref 126])) := by rw [hH6]; exact set_self c0
            have a5 : H6[115]? = some (.inl (0, 27, .inl (upd R (tx (p + 1) - 48) (nI (tx (p + 1 + 1) - 48))))) := by rw [hH6]; exact set_ne a5 (by omega)
            have a6 : H6[116]? = some (.inl (0, 6, .inl rs)) := by rw [hH6]; exact set_ne a6 (by omega)
            have a7 : H6[117]? = some (.inl (0, 6, .inl rkk)) := by rw [hH6]; exact set_ne a7 (by omega)
            have t0 : H6[118]? = some (.inl (0, 64, .inl mt)) := by rw [hH6]; exact set_ne t0 (by omega)
            have hO : Off (fun j => j = 111 ∨ (115 ≤ j ∧ j ≤ 117)) H H6 := by rw [hH6]; exact hO.set (by first | exact Or.inl rfl | exact Or.inr ⟨by decide, by decide⟩)
            refine ev_goto (t := 72) i124_166 (by decide) ?_
            have hv1 : fplL tx ln (d + 1) gr tk p = fplL tx ln d (gr ||| 2 ^ (tx (p + 1) - 48)) tk (p + 3) := by
              conv => lhs; unfold fplL
              rw [if_neg hpe, if_pos hG, if_neg hgr3, if_pos hf]
            have hv2 : telL tx ln (d + 1) p t = telL tx ln d (p + 3) (telG tx p t) := by
              conv => lhs; unfold telL
              rw [if_neg hpe, if_pos hG]
            rw [hv1, hv2]
            exact lq124 T0 hmt hln htx d _ tk (p + 3) (telG tx p t) _ _ _ _ (by omega) (or10_lt (m := 10) hgr (by omega)) htk (by omega) ht ht6 (hR.G (by omega) ht6) c0 a5 a6 a7 hO _
          · rw [show fplL tx ln (d + 1) gr tk p = fopL tx ln true gr p (pln true) 0 by
              conv => lhs; unfold fplL
              rw [if_neg hpe, if_pos hG, if_neg hgr3, if_neg hf]]
            by_cases k0 : p + 1 < ln ∧ okP tx true gr p 0 = true
            · by_cases k1 : p + 1 + 1 < ln ∧ okP tx true gr p 1 = true
              · exact absurd (show fopL tx ln true gr p (pln true) 0 = -9 by rw [show pln true = 2 from rfl, fop_step k0.1 k0.2, fop_step k1.1 k1.2]; rfl) hf
              · rw [show fopL tx ln true gr p (pln true) 0 = nI (p + 1 + 1) by rw [show pln true = 2 from rfl, fop_step k0.1 k0.2]; exact fop_bad (by omega) k1]
                obtain ⟨l0, o0⟩ := k0
                obtain ⟨q0, hbit⟩ := okP_0.mp o0
                have hbad : ¬ (p + 1 + 1 < ln ∧ 48 + 1 ≤ tx (p + 1 + 1) ∧ tx (p + 1 + 1) ≤ 48 + 9) := fun u => k1 ⟨u.1, okG1.mpr u.2⟩
                refine ev_aload_n i124_72 rfl ?_
                refine ev_get i124_73 ci124 fl8_69 (by assumption) rfl ?_
                refine ev_bipush (v := (-9)) i124_76 (by decide) ?_
                refine ev_icmp_ne (t := 220) i124_78 (by decide) (fun z78 => by exfalso; exact absurd rfl z78) (fun z78 => ?_)
                refine ev_aload_n i124_81 rfl ?_
                refine ev_get i124_82 ci124 fl8_72 (by assumption) rfl ?_
                refine ev_aload_n i124_85 rfl ?_
                refine ev_get i124_86 ci124 fl8_66 (by assumption) rfl ?_
                refine evn_icmp_ge (t := 220) i124_89 (by decide) (by omega) (fun z89 => by exfalso; omega) (fun z89 => ?_)
                refine ev_aload_n i124_92 rfl ?_
                refine ev_get i124_93 ci124 fl8_28 (by assumption) rfl ?_
                refine ev_aload_n i124_96 rfl ?_
                refine ev_get i124_97 ci124 fl8_72 (by assumption) rfl ?_
                refine ev_iald_n i124_100 (by assumption) (by omega) ?_
                rw [hmt p (by omega)]
                refine ev_bipush (v := nI 71) i124_101 (by decide) ?_
                refine evn_icmp_ne (t := 169) i124_103 (by decide) (by omega) (fun z103 => by exfalso; exact z103 hG) (fun z103 => ?_)
                refine ev_aload_n i124_106 rfl ?_
                refine ev_get i124_107 ci124 fl8_84 (by assumption) rfl ?_
                refine ev_sipush (v := nI 1023) i124_110 (by decide) ?_
                refine evn_icmp_eq (t := 169) i124_113 (by decide) (by omega) (fun z113 => by exfalso; exact hgr3 z113) (fun z113 => ?_)
                refine ev_aload_n i124_116 rfl ?_
                refine ev_dup i124_117 rfl ?_
                refine ev_get i124_118 ci124 fl8_72 (by assumption) rfl ?_
                refine ev_iconst (v := nI 1) i124_121 (by decide) ?_
                refine evn_iadd i124_122 ?_
                refine evs_put (fs' := [.int (nI n), .ref 112, .ref 113, .ref 114, .ref 115, .ref 116, .ref 117, .int (nI t.1), .int (nI gr), .int (nI tk), .ref 118, .int (nI ln), .int (nI (p + 1)), .int (-9), .int (f 6), .int (f 7), .ref 119, .ref 120, .int (f 8), .ref 121, .ref 122, .ref 123, .ref 124, .long sed, .ref 125, .ref 126]) i124_123 ci124 fl8_72 (by assumption) ⟨Nat.le_of_ble_eq_true rfl, rfl, Or.inl rfl⟩ rfl (fun H2 hH2 => ?_)
                have c0 : H2[111]? = some (.inr (8, [.int (nI n), .ref 112, .ref 113, .ref 114, .ref 115, .ref 116, .ref 117, .int (nI t.1), .int (nI gr), .int (nI tk), .ref 118, .int (nI ln), .int (nI (p + 1)), .int (-9), .int (f 6), .int (f 7), .ref 119, .ref 120, .int (f 8), .ref 121, .ref 122, .ref 123, .ref 124, .long sed, .ref 125, .ref 126])) := by rw [hH2]; exact set_self c0
                have a5 : H2[115]? = some (.inl (0, 27, .inl R)) := by rw [hH2]; exact set_ne a5 (by omega)
                have a6 : H2[116]? = some (.inl (0, 6, .inl rs)) := by rw [hH2]; exact set_ne a6 (by omega)
                have a7 : H2[117]? = some (.inl (0, 6, .inl rkk)) := by rw [hH2]; exact set_ne a7 (by omega)
                have t0 : H2[118]? = some (.inl (0, 64, .inl mt)) := by rw [hH2]; exact set_ne t0 (by omega)
                have hO : Off (fun j => j = 111 ∨ (115 ≤ j ∧ j ≤ 117)) H H2 := by rw [hH2]; exact hO.set (by first | exact Or.inl rfl | exact Or.inr ⟨by decide, by decide⟩)
                refine ev_aload_n i124_126 rfl ?_
                refine ev_sipush (v := nI 1023) i124_127 (by decide) ?_
                refine ev_aload_n i124_130 rfl ?_
                refine ev_get i124_131 ci124 fl8_84 (by assumption) rfl ?_
                refine ev_iconst (v := (-1)) i124_134 (by decide) ?_
                refine ev_ixor i124_135 ?_
                refine ev_iand i124_136 ?_
                rw [msk gr hgr]
                refine ev_callV (vs := [.int (nI (1023 - gr))]) (rest := []) i124_137 ci124 lk8_90 (congrArg (fun q => q + 1) np123) ci123 (by decide) (by decide +kernel) (Nat.le_of_ble_eq_true rfl) ⟨rfl, rfl, Nat.le_of_ble_eq_true rfl⟩ rfl (by assumption) (c123ok c0 t0 hmt hln htx (by omega) (by omega) (by omega) (by omega) hbit) (fun r H3 hq => ?_)
                obtain ⟨rfl, c0, hO3⟩ := hq
                have c0 : H3[111]? = some (.inr (8, [.int (nI n), .ref 112, .ref 113, .ref 114, .ref 115, .ref 116, .ref 117, .int (nI t.1), .int (nI gr), .int (nI tk), .ref 118, .int (nI ln), .int (nI (p + 1 + 1)), .int (-9), .int (f 6), .int (f 7), .ref 119, .ref 120, .int (f 8), .ref 121, .ref 122, .ref 123, .ref 124, .long sed, .ref 125, .ref 126])) := c0
                have a5 := hO3.at a5 (by decide)
                have a6 := hO3.at a6 (by decide)
                have a7 := hO3.at a7 (by decide)
                have t0 := hO3.at t0 (by decide)
                have hO := hO.trans hO3 (C := (fun j => j = 111 ∨ (115 ≤ j ∧ j ≤ 117))) (fun _ q => q) (fun _ q => Or.inl q)
                show Ev tb 124 140 [some (.ref 111), some (.int w1)] [.int (nI (tx (p + 1) - 48))] H3 _
                refine ev_istore_n (L' := [some (.ref 111), some (.int (nI (tx (p + 1) - 48)))]) i124_140 ⟨Nat.le_of_ble_eq_true rfl, rfl⟩ rfl ?_
                refine ev_aload_n i124_141 rfl ?_
                refine ev_get i124_142 ci124 fl8_19 (by assumption) rfl ?_
                refine ev_iload_n i124_145 rfl ?_
                refine ev_aload_n i124_146 rfl ?_
                refine ev_iconst (v := nI 1) i124_147 (by decide) ?_
                refine ev_bipush (v := nI 9) i124_148 (by decide) ?_
                refine ev_callV (vs := [.int (nI 1), .int (nI 9)]) (rest := [.int (nI (tx (p + 1) - 48)), .ref 115]) i124_150 ci124 lk8_94 (congrArg (fun q => q + 1) np122) ci122 (by decide) (by decide +kernel) (Nat.le_of_ble_eq_true rfl) ⟨rfl, rfl, Nat.le_of_ble_eq_true rfl⟩ rfl (by assumption) (c122bad c0 t0 hmt hln htx (by decide) (by decide) (by omega) hbad) (fun r H4 hq => ?_)
                obtain ⟨rfl, c0, hO4⟩ := hq
                have c0 : H4[111]? = some (.inr (8, [.int (nI n), .ref 112, .ref 113, .ref 114, .ref 115, .ref 116, .ref 117, .int (nI t.1), .int (nI gr), .int (nI tk), .ref 118, .int (nI ln), .int (nI (p + 1 + 1)), .int (nI (p + 1 + 1)), .int (f 6), .int (f 7), .ref 119, .ref 120, .int (f 8), .ref 121, .ref 122, .ref 123, .ref 124, .long sed, .ref 125, .ref 126])) := c0
                have a5 := hO4.at a5 (by decide)
                have a6 := hO4.at a6 (by decide)
                have a7 := hO4.at a7 (by decide)
                have t0 := hO4.at t0 (by decide)
                have hO := hO.trans hO4 (C := (fun j => j = 111 ∨ (115 ≤ j ∧ j ≤ 117))) (fun _ q => q) (fun _ q => Or.inl q)
                show Ev tb 124 153 [some (.ref 111), some (.int (nI (tx (p + 1) - 48)))] [.int (nI 1), .int (nI (tx (p + 1) - 48)), .ref 115] H4 _
                refine evs_iastw i124_153 (by assumption) (by omega) (fun H5 hH5 => ?_)
                have c0 : H5[111]? = some (.inr (8, [.int (nI n), .ref 112, .ref 113, .ref 114, .ref 115, .ref 116, .ref 117, .int (nI t.1), .int (nI gr), .int (nI tk), .ref 118, .int (nI ln), .int (nI (p + 1 + 1)), .int (nI (p + 1 + 1)), .int (f 6), .int (f 7), .ref 119, .ref 120, .int (f 8), .ref 121, .ref 122, .ref 123, .ref 124, .long sed, .ref 125, .ref 126])) := by rw [hH5]; exact set_ne c0 (by omega)
                have a5 : H5[115]? = some (.inl (0, 27, .inl (upd R (tx (p + 1) - 48) (nI 1)))) := by rw [hH5]; exact set_self a5
                have a6 : H5[116]? = some (.inl (0, 6, .inl rs)) := by rw [hH5]; exact set_ne a6 (by omega)
                have a7 : H5[117]? = some (.inl (0, 6, .inl rkk)) := by rw [hH5]; exact set_ne a7 (by omega)
                have t0 : H5[118]? = some (.inl (0, 64, .inl mt)) := by rw [hH5]; exact set_ne t0 (by omega)
                have hO : Off (fun j => j = 111 ∨ (115 ≤ j ∧ j ≤ 117)) H H5 := by rw [hH5]; exact hO.set (by first | exact Or.inl rfl | exact Or.inr ⟨by decide, by decide⟩)
                refine ev_aload_n i124_154 rfl ?_
                refine ev_dup i124_155 rfl ?_
                refine ev_get i124_156 ci124 fl8_84 (by assumption) rfl ?_
                refine ev_iconst (v := nI 1) i124_159 (by decide) ?_
                refine ev_iload_n i124_160 rfl ?_
                refine ev_ishl i124_161 ?_
                refine ev_ior i124_162 ?_
                rw [or10 gr hgr (tx (p + 1) - 48) (by omega)]
                refine evs_put (fs' := [.int (nI n), .ref 112, .ref 113, .ref 114, .ref 115, .ref 116, .ref 117, .int (nI t.1), .int (nI (gr ||| 2 ^ (tx (p + 1) - 48))), .int (nI tk), .ref 118, .int (nI ln), .int (nI (p + 1 + 1)), .int (nI (p + 1 + 1)), .int (f 6), .int (f 7), .ref 119, .ref 120, .int (f 8), .ref 121, .ref 122, .ref 123, .ref 124, .long sed, .ref 125, .ref 126]) i124_163 ci124 fl8_84 (by assumption) ⟨Nat.le_of_ble_eq_true rfl, rfl, Or.inl rfl⟩ rfl (fun H6 hH6 => ?_)
                have c0 : H6[111]? = some (.inr (8, [.int (nI n), .ref 112, .ref 113, .ref 114, .ref 115, .ref 116, .ref 117, .int (nI t.1), .int (nI (gr ||| 2 ^ (tx (p + 1) - 48))), .int (nI tk), .ref 118, .int (nI ln), .int (nI (p + 1 + 1)), .int (nI (p + 1 + 1)), .int (f 6), .int (f 7), .ref 119, .ref 120, .int (f 8), .ref 121, .ref 122, .ref 123, .ref 124, .long sed, .ref 125, .ref 126])) := by rw [hH6]; exact set_self c0
                have a5 : H6[115]? = some (.inl (0, 27, .inl (upd R (tx (p + 1) - 48) (nI 1)))) := by rw [hH6]; exact set_ne a5 (by omega)
                have a6 : H6[116]? = some (.inl (0, 6, .inl rs)) := by rw [hH6]; exact set_ne a6 (by omega)
                have a7 : H6[117]? = some (.inl (0, 6, .inl rkk)) := by rw [hH6]; exact set_ne a7 (by omega)
                have t0 : H6[118]? = some (.inl (0, 64, .inl mt)) := by rw [hH6]; exact set_ne t0 (by omega)
                have hO : Off (fun j => j = 111 ∨ (115 ≤ j ∧ j ≤ 117)) H H6 := by rw [hH6]; exact hO.set (by first | exact Or.inl rfl | exact Or.inr ⟨by decide, by decide⟩)
                refine ev_goto (t := 72) i124_166 (by decide) ?_
                refine ev_aload_n i124_72 rfl ?_
                refine ev_get i124_73 ci124 fl8_69 (by assumption) rfl ?_
                refine ev_bipush (v := (-9)) i124_76 (by decide) ?_
                refine ev_icmp_ne (t := 220) i124_78 (by decide) (fun z78 => ?_) (fun z78 => by exfalso; exact absurd z78 (m9_ne (by omega)))
                refine ev_aload_n i124_220 rfl ?_
                refine ev_get i124_221 ci124 fl8_69 (by assumption) rfl ?_
                refine ev_iret i124_224 (by decide +kernel) ?_
                exact ⟨rfl, _, _, _, _, _, _, _, _, c0, a5, a6, a7, hO, fun q => absurd q (m9_ne (by omega))⟩
            · rw [show fopL tx ln true gr p (pln true) 0 = nI (p + 1) from fop_bad (by omega) k0]
              have hbad : ¬ (p + 1 < ln ∧ (48 ≤ tx (p + 1) ∧ tx (p + 1) ≤ 57) ∧ gr.testBit (tx (p + 1) - 48) = false) := fun u => k0 ⟨u.1, okP_0.mpr u.2⟩
              refine ev_aload_n i124_72 rfl ?_
              refine ev_get i124_73 ci124 fl8_69 (by assumption) rfl ?_
              refine ev_bipush (v := (-9)) i124_76 (by decide) ?_
              refine ev_icmp_ne (t := 220) i124_78 (by decide) (fun z78 => by exfalso; exact absurd rfl z78) (fun z78 => ?_)
              refine ev_aload_n i124_81 rfl ?_
              refine ev_get i124_82 ci124 fl8_72 (by assumption) rfl ?_
              refine ev_aload_n i124_85 rfl ?_
              refine ev_get i124_86 ci124 fl8_66 (by assumption) rfl ?_
              refine evn_icmp_ge (t := 220) i124_89 (by decide) (by omega) (fun z89 => by exfalso; omega) (fun z89 => ?_)
              refine ev_aload_n i124_92 rfl ?_
              refine ev_get i124_93 ci124 fl8_28 (by assumption) rfl ?_
              refine ev_aload_n i124_96 rfl ?_
              refine ev_get i124_97 ci124 fl8_72 (by assumption) rfl ?_
              refine ev_iald_n i124_100 (by assumption) (by omega) ?_
              rw [hmt p (by omega)]
              refine ev_bipush (v := nI 71) i124_101 (by decide) ?_
              refine evn_icmp_ne (t := 169) i124_103 (by decide) (by omega) (fun z103 => by exfalso; exact z103 hG) (fun z103 => ?_)
              refine ev_aload_n i124_106 rfl ?_
              refine ev_get i124_107 ci124 fl8_84 (by assumption) rfl ?_
              refine ev_sipush (v := nI 1023) i124_110 (by decide) ?_
              refine evn_icmp_eq (t := 169) i124_113 (by decide) (by omega) (fun z113 => by exfalso; exact hgr3 z113) (fun z113 => ?_)
              refine ev_aload_n i124_116 rfl ?_
              refine ev_dup i124_117 rfl ?_
              refine ev_get i124_118 ci124 fl8_72 (by assumption) rfl ?_
              refine ev_iconst (v := nI 1) i124_121 (by decide) ?_
              refine evn_iadd i124_122 ?_
              refine evs_put (fs' := [.int (nI n), .ref 112, .ref 113, .ref 114, .ref 115, .ref 116, .ref 117, .int (nI t.1), .int (nI gr), .int (nI tk), .ref 118, .int (nI ln), .int (nI (p + 1)), .int (-9), .int (f 6), .int (f 7), .ref 119, .ref 120, .int (f 8), .ref 121, .ref 122, .ref 123, .ref 124, .long sed, .ref 125, .ref 126]) i124_123 ci124 fl8_72 (by assumption) ⟨Nat.le_of_ble_eq_true rfl, rfl, Or.inl rfl⟩ rfl (fun H2 hH2 => ?_)
              have c0 : H2[111]? = some (.inr (8, [.int (nI n), .ref 112, .ref 113, .ref 114, .ref 115, .ref 116, .ref 117, .int (nI t.1), .int (nI gr), .int (nI tk), .ref 118, .int (nI ln), .int (nI (p + 1)), .int (-9), .int (f 6), .int (f 7), .ref 119, .ref 120, .int (f 8), .ref 121, .ref 122, .ref 123, .ref 124, .long sed, .ref 125, .ref 126])) := by rw [hH2]; exact set_self c0
              have a5 : H2[115]? = some (.inl (0, 27, .inl R)) := by rw [hH2]; exact set_ne a5 (by omega)
              have a6 : H2[116]? = some (.inl (0, 6, .inl rs)) := by rw [hH2]; exact set_ne a6 (by omega)
              have a7 : H2[117]? = some (.inl (0, 6, .inl rkk)) := by rw [hH2]; exact set_ne a7 (by omega)
              have t0 : H2[118]? = some (.inl (0, 64, .inl mt)) := by rw [hH2]; exact set_ne t0 (by omega)
              have hO : Off (fun j => j = 111 ∨ (115 ≤ j ∧ j ≤ 117)) H H2 := by rw [hH2]; exact hO.set (by first | exact Or.inl rfl | exact Or.inr ⟨by decide, by decide⟩)
              refine ev_aload_n i124_126 rfl ?_
              refine ev_sipush (v := nI 1023) i124_127 (by decide) ?_
              refine ev_aload_n i124_130 rfl ?_
              refine ev_get i124_131 ci124 fl8_84 (by assumption) rfl ?_
              refine ev_iconst (v := (-1)) i124_134 (by decide) ?_
              refine ev_ixor i124_135 ?_
              refine ev_iand i124_136 ?_
              rw [msk gr hgr]
              refine ev_callV (vs := [.int (nI (1023 - gr))]) (rest := []) i124_137 ci124 lk8_90 (congrArg (fun q => q + 1) np123) ci123 (by decide) (by decide +kernel) (Nat.le_of_ble_eq_true rfl) ⟨rfl, rfl, Nat.le_of_ble_eq_true rfl⟩ rfl (by assumption) (c123bad c0 t0 hmt hln htx (by omega) (by omega) hbad) (fun r H3 hq => ?_)
              obtain ⟨rfl, c0, hO3⟩ := hq
              have c0 : H3[111]? = some (.inr (8, [.int (nI n), .ref 112, .ref 113, .ref 114, .ref 115, .ref 116, .ref 117, .int (nI t.1), .int (nI gr), .int (nI tk), .ref 118, .int (nI ln), .int (nI (p + 1)), .int (nI (p + 1)), .int (f 6), .int (f 7), .ref 119, .ref 120, .int (f 8), .ref 121, .ref 122, .ref 123, .ref 124, .long sed, .ref 125, .ref 126])) := c0
              have a5 := hO3.at a5 (by decide)
              have a6 := hO3.at a6 (by decide)
              have a7 := hO3.at a7 (by decide)
              have t0 := hO3.at t0 (by decide)
              have hO := hO.trans hO3 (C := (fun j => j = 111 ∨ (115 ≤ j ∧ j ≤ 117))) (fun _ q => q) (fun _ q => Or.inl q)
              show Ev tb 124 140 [some (.ref 111), some (.int w1)] [.int (nI 0)] H3 _
              refine ev_istore_n (L' := [some (.ref 111), some (.int (nI 0))]) i124_140 ⟨Nat.le_of_ble_eq_true rfl, rfl⟩ rfl ?_
              refine ev_aload_n i124_141 rfl ?_
              refine ev_get i124_142 ci124 fl8_19 (by assumption) rfl ?_
              refine ev_iload_n i124_145 rfl ?_
              refine ev_aload_n i124_146 rfl ?_
              refine ev_iconst (v := nI 1) i124_147 (by decide) ?_
              refine ev_bipush (v := nI 9) i124_148 (by decide) ?_
              refine ev_callV (vs := [.int (nI 1), .int (nI 9)]) (rest := [.int (nI 0), .ref 115]) i124_150 ci124 lk8_94 (congrArg (fun q => q + 1) np122) ci122 (by decide) (by decide +kernel) (Nat.le_of_ble_eq_true rfl) ⟨rfl, rfl, Nat.le_of_ble_eq_true rfl⟩ rfl (by assumption) (c122skip (p := 0) c0 t0 hmt hln htx (by decide) (by decide) (m9_ne (by omega))) (fun r H4 hq => ?_)
              obtain ⟨rfl, c0, hO4⟩ := hq
              have c0 : H4[111]? = some (.inr (8, [.int (nI n), .ref 112, .ref 113, .ref 114, .ref 115, .ref 116, .ref 117, .int (nI t.1), .int (nI gr), .int (nI tk), .ref 118, .int (nI ln), .int (nI (p + 1)), .int (nI (p + 1)), .int (f 6), .int (f 7), .ref 119, .ref 120, .int (f 8), .ref 121, .ref 122, .ref 123, .ref 124, .long sed, .ref 125, .ref 126])) := c0
              have a5 := hO4.at a5 (by decide)
              have a6 := hO4.at a6 (by decide)
              have a7 := hO4.at a7 (by decide)
              have t0 := hO4.at t0 (by decide)
              have hO := hO.trans hO4 (C := (fun j => j = 111 ∨ (115 ≤ j ∧ j ≤ 117))) (fun _ q => q) (fun _ q => Or.inl q)
              show Ev tb 124 153 [some (.ref 111), some (.int (nI 0))] [.int (nI 1), .int (nI 0), .ref 115] H4 _
              refine evs_iastw i124_153 (by assumption) (by omega) (fun H5 hH5 => ?_)
              have c0 : H5[111]? = some (.inr (8, [.int (nI n), .ref 112, .ref 113, .ref 114, .ref 115, .ref 116, .ref 117, .int (nI t.1), .int (nI gr), .int (nI tk), .ref 118, .int (nI ln), .int (nI (p + 1)), .int (nI (p + 1)), .int (f 6), .int (f 7), .ref 119, .ref 120, .int (f 8), .ref 121, .ref 122, .ref 123, .ref 124, .long sed, .ref 125, .ref 126])) := by rw [hH5]; exact set_ne c0 (by omega)
              have a5 : H5[115]? = some (.inl (0, 27, .inl (upd R 0 (nI 1)))) := by rw [hH5]; exact set_self a5
              have a6 : H5[116]? = some (.inl (0, 6, .inl rs)) := by rw [hH5]; exact set_ne a6 (by omega)
              have a7 : H5[117]? = some (.inl (0, 6, .inl rkk)) := by rw [hH5]; exact set_ne a7 (by omega)
              have t0 : H5[118]? = some (.inl (0, 64, .inl mt)) := by rw [hH5]; exact set_ne t0 (by omega)
              have hO : Off (fun j => j = 111 ∨ (115 ≤ j ∧ j ≤ 117)) H H5 := by rw [hH5]; exact hO.set (by first | exact Or.inl rfl | exact Or.inr ⟨by decide, by decide⟩)
              refine ev_aload_n i124_154 rfl ?_
              refine ev_dup i124_155 rfl ?_
              refine ev_get i124_156 ci124 fl8_84 (by assumption) rfl ?_
              refine ev_iconst (v := nI 1) i124_159 (by decide) ?_
              refine ev_iload_n i124_160 rfl ?_
              refine ev_ishl i124_161 ?_
              refine ev_ior i124_162 ?_
              skip
              refine evs_put (fs' := [.int (nI n), .ref 112, .ref 113, .ref 114, .ref 115, .ref 116, .ref 117, .int (nI t.1), .int ((nI gr) ||| ((nI 1) <<< ((nI 0) &&& 31))), .int (nI tk), .ref 118, .int (nI ln), .int (nI (p + 1)), .int (nI (p + 1)), .int (f 6), .int (f 7), .ref 119, .ref 120, .int (f 8), .ref 121, .ref 122, .ref 123, .ref 124, .long sed, .ref 125, .ref 126]) i124_163 ci124 fl8_84 (by assumption) ⟨Nat.le_of_ble_eq_true rfl, rfl, Or.inl rfl⟩ rfl (fun H6 hH6 => ?_)
              have c0 : H6[111]? = some (.inr (8, [.int (nI n), .ref 112, .ref 113, .ref 114, .ref 115, .ref 116, .ref 117, .int (nI t.1), .int ((nI gr) ||| ((nI 1) <<< ((nI 0) &&& 31))), .int (nI tk), .ref 118, .int (nI ln), .int (nI (p + 1)), .int (nI (p + 1)), .int (f 6), .int (f 7), .ref 119, .ref 120, .int (f 8), .ref 121, .ref 122, .ref 123, .ref 124, .long sed, .ref 125, .ref 126])) := by rw [hH6]; exact set_self c0
              have a5 : H6[115]? = some (.inl (0, 27, .inl (upd R 0 (nI 1)))) := by rw [hH6]; exact set_ne a5 (by omega)
              have a6 : H6[116]? = some (.inl (0, 6, .inl rs)) := by rw [hH6]; exact set_ne a6 (by omega)
              have a7 : H6[117]? = some (.inl (0, 6, .inl rkk)) := by rw [hH6]; exact set_ne a7 (by omega)
              have t0 : H6[118]? = some (.inl (0, 64, .inl mt)) := by rw [hH6]; exact set_ne t0 (by omega)
              have hO : Off (fun j => j = 111 ∨ (115 ≤ j ∧ j ≤ 117)) H H6 := by rw [hH6]; exact hO.set (by first | exact Or.inl rfl | exact Or.inr ⟨by decide, by decide⟩)
              refine ev_goto (t := 72) i124_166 (by decide) ?_
              refine ev_aload_n i124_72 rfl ?_
              refine ev_get i124_73 ci124 fl8_69 (by assumption) rfl ?_
              refine ev_bipush (v := (-9)) i124_76 (by decide) ?_
              refine ev_icmp_ne (t := 220) i124_78 (by decide) (fun z78 => ?_) (fun z78 => by exfalso; exact absurd z78 (m9_ne (by omega)))
              refine ev_aload_n i124_220 rfl ?_
              refine ev_get i124_221 ci124 fl8_69 (by assumption) rfl ?_
              refine ev_iret i124_224 (by decide +kernel) ?_
              exact ⟨rfl, _, _, _, _, _, _, _, _, c0, a5, a6, a7, hO, fun q => absurd q (m9_ne (by omega))⟩
      · by_cases hK : tx p = 75
        · by_cases hc : t.1 < 6
          · by_cases hf : fopL tx ln false tk p (pln false) 0 = -9
            · obtain ⟨l0, o0, f1⟩ := fop_ok (d := 3) (i := 0) hln (by omega) (by decide) hf
              obtain ⟨l1, o1, f2⟩ := fop_ok (d := 2) (i := 1) hln (by omega) (by decide) f1
              obtain ⟨l2, o2, f3⟩ := fop_ok (d := 1) (i := 2) hln (by omega) (by decide) f2
              obtain ⟨l3, o3, _⟩ := fop_ok (d := 0) (i := 3) hln (by omega) (by decide) f3
              obtain ⟨q0, hbit⟩ := okP_0.mp o0
              refine ev_aload_n i124_72 rfl ?_
              refine ev_get i124_73 ci124 fl8_69 (by assumption) rfl ?_
              refine ev_bipush (v := (-9)) i124_76 (by decide) ?_
              refine ev_icmp_ne (t := 220) i124_78 (by decide) (fun z78 => by exfalso; exact absurd rfl z78) (fun z78 => ?_)
              refine ev_aload_n i124_81 rfl ?_
              refine ev_get i124_82 ci124 fl8_72 (by assumption) rfl ?_
              refine ev_aload_n i124_85 rfl ?_
              refine ev_get i124_86 ci124 fl8_66 (by assumption) rfl ?_
              refine evn_icmp_ge (t := 220) i124_89 (by decide) (by omega) (fun z89 => by exfalso; omega) (fun z89 => ?_)
              refine ev_aload_n i124_92 rfl ?_
              refine ev_get i124_93 ci124 fl8_28 (by assumption) rfl ?_
              refine ev_aload_n i124_96 rfl ?_
              refine ev_get i124_97 ci124 fl8_72 (by assumption) rfl ?_
              refine ev_iald_n i124_100 (by assumption) (by omega) ?_
              rw [hmt p (by omega)]
              refine ev_bipush (v := nI 71) i124_101 (by decide) ?_
              refine evn_icmp_ne (t := 169) i124_103 (by decide) (by omega) (fun z103 => ?_) (fun z103 => by exfalso; exact hG z103)
              refine ev_aload_n i124_169 rfl ?_
              refine ev_get i124_170 ci124 fl8_28 (by assumption) rfl ?_
              refine ev_aload_n i124_173 rfl ?_
              refine ev_get i124_174 ci124 fl8_72 (by assumption) rfl ?_
              refine ev_iald_n i124_177 (by assumption) (by omega) ?_
              rw [hmt p (by omega)]
              refine ev_bipush (v := nI 75) i124_178 (by decide) ?_
              refine evn_icmp_ne (t := 209) i124_180 (by decide) (by omega) (fun z180 => by exfalso; exact z180 hK) (fun z180 => ?_)
              refine ev_aload_n i124_183 rfl ?_
              refine ev_get i124_184 ci124 fl8_81 (by assumption) rfl ?_
              refine ev_bipush (v := nI 6) i124_187 (by decide) ?_
              refine evn_icmp_ge (t := 209) i124_189 (by decide) (by omega) (fun z189 => by exfalso; omega) (fun z189 => ?_)
              refine ev_aload_n i124_192 rfl ?_
              refine ev_dup i124_193 rfl ?_
              refine ev_get i124_194 ci124 fl8_72 (by assumption) rfl ?_
              refine ev_iconst (v := nI 1) i124_197 (by decide) ?_
              refine evn_iadd i124_198 ?_
              refine evs_put (fs' := [.int (nI n), .ref 112, .ref 113, .ref 114, .ref 115, .ref 116, .ref 117, .int (nI t.1), .int (nI gr), .int (nI tk), .ref 118, .int (nI ln), .int (nI (p + 1)), .int (-9), .int (f 6), .int (f 7), .ref 119, .ref 120, .int (f 8), .ref 121, .ref 122, .ref 123, .ref 124, .long sed, .ref 125, .ref 126]) i124_199 ci124 fl8_72 (by assumption) ⟨Nat.le_of_ble_eq_true rfl, rfl, Or.inl rfl⟩ rfl (fun H2 hH2 => ?_)
              have c0 : H2[111]? = some (.inr (8, [.int (nI n), .ref 112, .ref 113, .ref 114, .ref 115, .ref 116, .ref 117, .int (nI t.1), .int (nI gr), .int (nI tk), .ref 118, .int (nI ln), .int (nI (p + 1)), .int (-9), .int (f 6), .int (f 7), .ref 119, .ref 120, .int (f 8), .ref 121, .ref 122, .ref 123, .ref 124, .long sed, .ref 125, .ref 126])) := by rw [hH2]; exact set_self c0
              have a5 : H2[115]? = some (.inl (0, 27, .inl R)) := by rw [hH2]; exact set_ne a5 (by omega)
              have a6 : H2[116]? = some (.inl (0, 6, .inl rs)) := by rw [hH2]; exact set_ne a6 (by omega)
              have a7 : H2[117]? = some (.inl (0, 6, .inl rkk)) := by rw [hH2]; exact set_ne a7 (by omega)
              have t0 : H2[118]? = some (.inl (0, 64, .inl mt)) := by rw [hH2]; exact set_ne t0 (by omega)
              have hO : Off (fun j => j = 111 ∨ (115 ≤ j ∧ j ≤ 117)) H H2 := by rw [hH2]; exact hO.set (by first | exact Or.inl rfl | exact Or.inr ⟨by decide, by decide⟩)
              refine ev_aload_n i124_202 rfl ?_
              refine ev_callV (vs := []) (rest := []) i124_203 ci124 lk8_98 (congrArg (fun q => q + 1) np125) ci125 (by decide) (by decide +kernel) (Nat.le_of_ble_eq_true rfl) ⟨rfl, rfl, Nat.le_of_ble_eq_true rfl⟩ rfl (by assumption) (c125ok c0 a5 a6 a7 t0 hmt hln htx hc htk (by omega) ⟨l0, o0⟩ ⟨l1, o1⟩ ⟨l2, o2⟩ ⟨l3, o3⟩) (fun r H3 hq => ?_)
              obtain ⟨rfl, c0, a5, a6, a7, hO3⟩ := hq
              have hO := hO.trans hO3 (C := (fun j => j = 111 ∨ (115 ≤ j ∧ j ≤ 117))) (fun _ q => q) (fun _ q => q)
              show Ev tb 124 206 [some (.ref 111), some (.int w1)] [] H3 _
              refine ev_goto (t := 72) i124_206 (by decide) ?_
              have hv1 : fplL tx ln (d + 1) gr tk p = fplL tx ln d gr (tk ||| 2 ^ (tx (p + 1) - 48)) (p + 5) := by
                conv => lhs; unfold fplL
                rw [if_neg hpe, if_neg hG, if_pos hK, if_pos (by omega), if_pos hf]
              have hv2 : telL tx ln (d + 1) p t = telL tx ln d (p + 5) (telK tx p t) := by
                conv => lhs; unfold telL
                rw [if_neg hpe, if_neg hG]
              rw [hv1, hv2]
              have hpo := pop_or (tx (p + 1) - 48) (by omega) tk htk hbit
              exact lq124 T0 hmt hln htx d gr _ (p + 5) (telK tx p t) _ _ _ _ (by omega) hgr (or10_lt (m := 10) htk (by omega)) (by omega) (show t.1 + 1 = _ by omega) (show t.1 + 1 ≤ 6 by omega) (hR.K hc) c0 a5 a6 a7 hO _
            · rw [show fplL tx ln (d + 1) gr tk p = fopL tx ln false tk p (pln false) 0 by
                conv => lhs; unfold fplL
                rw [if_neg hpe, if_neg hG, if_pos hK, if_pos (by omega), if_neg hf]]
              rw [show pln false = 4 from rfl] at hf ⊢
              refine ev_aload_n i124_72 rfl ?_
              refine ev_get i124_73 ci124 fl8_69 (by assumption) rfl ?_
              refine ev_bipush (v := (-9)) i124_76 (by decide) ?_
              refine ev_icmp_ne (t := 220) i124_78 (by decide) (fun z78 => by exfalso; exact absurd rfl z78) (fun z78 => ?_)
              refine ev_aload_n i124_81 rfl ?_
              refine ev_get i124_82 ci124 fl8_72 (by assumption) rfl ?_
              refine ev_aload_n i124_85 rfl ?_
              refine ev_get i124_86 ci124 fl8_66 (by assumption) rfl ?_
              refine evn_icmp_ge (t := 220) i124_89 (by decide) (by omega) (fun z89 => by exfalso; omega) (fun z89 => ?_)
              refine ev_aload_n i124_92 rfl ?_
              refine ev_get i124_93 ci124 fl8_28 (by assumption) rfl ?_
              refine ev_aload_n i124_96 rfl ?_
              refine ev_get i124_97 ci124 fl8_72 (by assumption) rfl ?_
              refine ev_iald_n i124_100 (by assumption) (by omega) ?_
              rw [hmt p (by omega)]
              refine ev_bipush (v := nI 71) i124_101 (by decide) ?_
              refine evn_icmp_ne (t := 169) i124_103 (by decide) (by omega) (fun z103 => ?_) (fun z103 => by exfalso; exact hG z103)
              refine ev_aload_n i124_169 rfl ?_
              refine ev_get i124_170 ci124 fl8_28 (by assumption) rfl ?_
              refine ev_aload_n i124_173 rfl ?_
              refine ev_get i124_174 ci124 fl8_72 (by assumption) rfl ?_
              refine ev_iald_n i124_177 (by assumption) (by omega) ?_
              rw [hmt p (by omega)]
              refine ev_bipush (v := nI 75) i124_178 (by decide) ?_
              refine evn_icmp_ne (t := 209) i124_180 (by decide) (by omega) (fun z180 => by exfalso; exact z180 hK) (fun z180 => ?_)
              refine ev_aload_n i124_183 rfl ?_
              refine ev_get i124_184 ci124 fl8_81 (by assumption) rfl ?_
              refine ev_bipush (v := nI 6) i124_187 (by decide) ?_
              refine evn_icmp_ge (t := 209) i124_189 (by decide) (by omega) (fun z189 => by exfalso; omega) (fun z189 => ?_)
              refine ev_aload_n i124_192 rfl ?_
              refine ev_dup i124_193 rfl ?_
              refine ev_get i124_194 ci124 fl8_72 (by assumption) rfl ?_
              refine ev_iconst (v := nI 1) i124_197 (by decide) ?_
              refine evn_iadd i124_198 ?_
              refine evs_put (fs' := [.int (nI n), .ref 112, .ref 113, .ref 114, .ref 115, .ref 116, .ref 117, .int (nI t.1), .int (nI gr), .int (nI tk), .ref 118, .int (nI ln), .int (nI (p + 1)), .int (-9), .int (f 6), .int (f 7), .ref 119, .ref 120, .int (f 8), .ref 121, .ref 122, .ref 123, .ref 124, .long sed, .ref 125, .ref 126]) i124_199 ci124 fl8_72 (by assumption) ⟨Nat.le_of_ble_eq_true rfl, rfl, Or.inl rfl⟩ rfl (fun H2 hH2 => ?_)
              have c0 : H2[111]? = some (.inr (8, [.int (nI n), .ref 112, .ref 113, .ref 114, .ref 115, .ref 116, .ref 117, .int (nI t.1), .int (nI gr), .int (nI tk), .ref 118, .int (nI ln), .int (nI (p + 1)), .int (-9), .int (f 6), .int (f 7), .ref 119, .ref 120, .int (f 8), .ref 121, .ref 122, .ref 123, .ref 124, .long sed, .ref 125, .ref 126])) := by rw [hH2]; exact set_self c0
              have a5 : H2[115]? = some (.inl (0, 27, .inl R)) := by rw [hH2]; exact set_ne a5 (by omega)
              have a6 : H2[116]? = some (.inl (0, 6, .inl rs)) := by rw [hH2]; exact set_ne a6 (by omega)
              have a7 : H2[117]? = some (.inl (0, 6, .inl rkk)) := by rw [hH2]; exact set_ne a7 (by omega)
              have t0 : H2[118]? = some (.inl (0, 64, .inl mt)) := by rw [hH2]; exact set_ne t0 (by omega)
              have hO : Off (fun j => j = 111 ∨ (115 ≤ j ∧ j ≤ 117)) H H2 := by rw [hH2]; exact hO.set (by first | exact Or.inl rfl | exact Or.inr ⟨by decide, by decide⟩)
              refine ev_aload_n i124_202 rfl ?_
              refine ev_callV (vs := []) (rest := []) i124_203 ci124 lk8_98 (congrArg (fun q => q + 1) np125) ci125 (by decide) (by decide +kernel) (Nat.le_of_ble_eq_true rfl) ⟨rfl, rfl, Nat.le_of_ble_eq_true rfl⟩ rfl (by assumption) (c125bad c0 a5 a6 a7 t0 hmt hln htx hc htk (by omega) hf) (fun r H3 hq => ?_)
              obtain ⟨rfl, rc9, rv9, rl9, at9, R9, rs9, rk9, c0, a5, a6, a7, hO3⟩ := hq
              unfold pOb at c0
              have hO := hO.trans hO3 (C := (fun j => j = 111 ∨ (115 ≤ j ∧ j ≤ 117))) (fun _ q => q) (fun _ q => q)
              show Ev tb 124 206 [some (.ref 111), some (.int w1)] [] H3 _
              refine ev_goto (t := 72) i124_206 (by decide) ?_
              refine ev_aload_n i124_72 rfl ?_
              refine ev_get i124_73 ci124 fl8_69 (by assumption) rfl ?_
              refine ev_bipush (v := (-9)) i124_76 (by decide) ?_
              refine ev_icmp_ne (t := 220) i124_78 (by decide) (fun z78 => ?_) (fun z78 => by exfalso; exact hf z78)
              refine ev_aload_n i124_220 rfl ?_
              refine ev_get i124_221 ci124 fl8_69 (by assumption) rfl ?_
              refine ev_iret i124_224 (by decide +kernel) ?_
              exact ⟨rfl, _, _, _, _, _, _, _, _, c0, a5, a6, a7, hO, fun q => absurd q hf⟩
          · rw [show fplL tx ln (d + 1) gr tk p = nI p by
              unfold fplL
              rw [if_neg hpe, if_neg hG, if_pos hK, if_neg (by omega)]]
            refine ev_aload_n i124_72 rfl ?_
            refine ev_get i124_73 ci124 fl8_69 (by assumption) rfl ?_
            refine ev_bipush (v := (-9)) i124_76 (by decide) ?_
            refine ev_icmp_ne (t := 220) i124_78 (by decide) (fun z78 => by exfalso; exact absurd rfl z78) (fun z78 => ?_)
            refine ev_aload_n i124_81 rfl ?_
            refine ev_get i124_82 ci124 fl8_72 (by assumption) rfl ?_
            refine ev_aload_n i124_85 rfl ?_
            refine ev_get i124_86 ci124 fl8_66 (by assumption) rfl ?_
            refine evn_icmp_ge (t := 220) i124_89 (by decide) (by omega) (fun z89 => by exfalso; omega) (fun z89 => ?_)
            refine ev_aload_n i124_92 rfl ?_
            refine ev_get i124_93 ci124 fl8_28 (by assumption) rfl ?_
            refine ev_aload_n i124_96 rfl ?_
            refine ev_get i124_97 ci124 fl8_72 (by assumption) rfl ?_
            refine ev_iald_n i124_100 (by assumption) (by omega) ?_
            rw [hmt p (by omega)]
            refine ev_bipush (v := nI 71) i124_101 (by decide) ?_
            refine evn_icmp_ne (t := 169) i124_103 (by decide) (by omega) (fun z103 => ?_) (fun z103 => by exfalso; exact hG z103)
            refine ev_aload_n i124_169 rfl ?_
            refine ev_get i124_170 ci124 fl8_28 (by assumption) rfl ?_
            refine ev_aload_n i124_173 rfl ?_
            refine ev_get i124_174 ci124 fl8_72 (by assumption) rfl ?_
            refine ev_iald_n i124_177 (by assumption) (by omega) ?_
            rw [hmt p (by omega)]
            refine ev_bipush (v := nI 75) i124_178 (by decide) ?_
            refine evn_icmp_ne (t := 209) i124_180 (by decide) (by omega) (fun z180 => by exfalso; exact z180 hK) (fun z180 => ?_)
            refine ev_aload_n i124_183 rfl ?_
            refine ev_get i124_184 ci124 fl8_81 (by assumption) rfl ?_
            refine ev_bipush (v := nI 6) i124_187 (by decide) ?_
            refine evn_icmp_ge (t := 209) i124_189 (by decide) (by omega) (fun z189 => ?_) (fun z189 => by exfalso; omega)
            refine ev_aload_n i124_209 rfl ?_
            refine ev_aload_n i124_210 rfl ?_
            refine ev_get i124_211 ci124 fl8_72 (by assumption) rfl ?_
            refine evs_put (fs' := [.int (nI n), .ref 112, .ref 113, .ref 114, .ref 115, .ref 116, .ref 117, .int (nI t.1), .int (nI gr), .int (nI tk), .ref 118, .int (nI ln), .int (nI p), .int (nI p), .int (f 6), .int (f 7), .ref 119, .ref 120, .int (f 8), .ref 121, .ref 122, .ref 123, .ref 124, .long sed, .ref 125, .ref 126]) i124_214 ci124 fl8_69 (by assumption) ⟨Nat.le_of_ble_eq_true rfl, rfl, Or.inl rfl⟩ rfl (fun H2 hH2 => ?_)
            have c0 : H2[111]? = some (.inr (8, [.int (nI n), .ref 112, .ref 113, .ref 114, .ref 115, .ref 116, .ref 117, .int (nI t.1), .int (nI gr), .int (nI tk), .ref 118, .int (nI ln), .int (nI p), .int (nI p), .int (f 6), .int (f 7), .ref 119, .ref 120, .int (f 8), .ref 121, .ref 122, .ref 123, .ref 124, .long sed, .ref 125, .ref 126])) := by rw [hH2]; exact set_self c0
            have a5 : H2[115]? = some (.inl (0, 27, .inl R)) := by rw [hH2]; exact set_ne a5 (by omega)
            have a6 : H2[116]? = some (.inl (0, 6, .inl rs)) := by rw [hH2]; exact set_ne a6 (by omega)
            have a7 : H2[117]? = some (.inl (0, 6, .inl rkk)) := by rw [hH2]; exact set_ne a7 (by omega)
            have t0 : H2[118]? = some (.inl (0, 64, .inl mt)) := by rw [hH2]; exact set_ne t0 (by omega)
            have hO : Off (fun j => j = 111 ∨ (115 ≤ j ∧ j ≤ 117)) H H2 := by rw [hH2]; exact hO.set (by first | exact Or.inl rfl | exact Or.inr ⟨by decide, by decide⟩)
            refine ev_goto (t := 72) i124_217 (by decide) ?_
            refine ev_aload_n i124_72 rfl ?_
            refine ev_get i124_73 ci124 fl8_69 (by assumption) rfl ?_
            refine ev_bipush (v := (-9)) i124_76 (by decide) ?_
            refine ev_icmp_ne (t := 220) i124_78 (by decide) (fun z78 => ?_) (fun z78 => by exfalso; exact absurd z78 (m9_ne (by omega)))
            refine ev_aload_n i124_220 rfl ?_
            refine ev_get i124_221 ci124 fl8_69 (by assumption) rfl ?_
            refine ev_iret i124_224 (by decide +kernel) ?_
            exact ⟨rfl, _, _, _, _, _, _, _, _, c0, a5, a6, a7, hO, fun q => absurd q (m9_ne (by omega))⟩
        · rw [show fplL tx ln (d + 1) gr tk p = nI p by
            unfold fplL
            rw [if_neg hpe, if_neg hG, if_neg hK]]
          refine ev_aload_n i124_72 rfl ?_
          refine ev_get i124_73 ci124 fl8_69 (by assumption) rfl ?_
          refine ev_bipush (v := (-9)) i124_76 (by decide) ?_
          refine ev_icmp_ne (t := 220) i124_78 (by decide) (fun z78 => by exfalso; exact absurd rfl z78) (fun z78 => ?_)
          refine ev_aload_n i124_81 rfl ?_
          refine ev_get i124_82 ci124 fl8_72 (by assumption) rfl ?_
          refine ev_aload_n i124_85 rfl ?_
          refine ev_get i124_86 ci124 fl8_66 (by assumption) rfl ?_
          refine evn_icmp_ge (t := 220) i124_89 (by decide) (by omega) (fun z89 => by exfalso; omega) (fun z89 => ?_)
          refine ev_aload_n i124_92 rfl ?_
          refine ev_get i124_93 ci124 fl8_28 (by assumption) rfl ?_
          refine ev_aload_n i124_96 rfl ?_
          refine ev_get i124_97 ci124 fl8_72 (by assumption) rfl ?_
          refine ev_iald_n i124_100 (by assumption) (by omega) ?_
          rw [hmt p (by omega)]
          refine ev_bipush (v := nI 71) i124_101 (by decide) ?_
          refine evn_icmp_ne (t := 169) i124_103 (by decide) (by omega) (fun z103 => ?_) (fun z103 => by exfalso; exact hG z103)
          refine ev_aload_n i124_169 rfl ?_
          refine ev_get i124_170 ci124 fl8_28 (by assumption) rfl ?_
          refine ev_aload_n i124_173 rfl ?_
          refine ev_get i124_174 ci124 fl8_72 (by assumption) rfl ?_
          refine ev_iald_n i124_177 (by assumption) (by omega) ?_
          rw [hmt p (by omega)]
          refine ev_bipush (v := nI 75) i124_178 (by decide) ?_
          refine evn_icmp_ne (t := 209) i124_180 (by decide) (by omega) (fun z180 => ?_) (fun z180 => by exfalso; exact hK z180)
          refine ev_aload_n i124_209 rfl ?_
          refine ev_aload_n i124_210 rfl ?_
          refine ev_get i124_211 ci124 fl8_72 (by assumption) rfl ?_
          refine evs_put (fs' := [.int (nI n), .ref 112, .ref 113, .ref 114, .ref 115, .ref 116, .ref 117, .int (nI t.1), .int (nI gr), .int (nI tk), .ref 118, .int (nI ln), .int (nI p), .int (nI p), .int (f 6), .int (f 7), .ref 119, .ref 120, .int (f 8), .ref 121, .ref 122, .ref 123, .ref 124, .long sed, .ref 125, .ref 126]) i124_214 ci124 fl8_69 (by assumption) ⟨Nat.le_of_ble_eq_true rfl, rfl, Or.inl rfl⟩ rfl (fun H2 hH2 => ?_)
          have c0 : H2[111]? = some (.inr (8, [.int (nI n), .ref 112, .ref 113, .ref 114, .ref 115, .ref 116, .ref 117, .int (nI t.1), .int (nI gr), .int (nI tk), .ref 118, .int (nI ln), .int (nI p), .int (nI p), .int (f 6), .int (f 7), .ref 119, .ref 120, .int (f 8), .ref 121, .ref 122, .ref 123, .ref 124, .long sed, .ref 125, .ref 126])) := by rw [hH2]; exact set_self c0
          have a5 : H2[115]? = some (.inl (0, 27, .inl R)) := by rw [hH2]; exact set_ne a5 (by omega)
          have a6 : H2[116]? = some (.inl (0, 6, .inl rs)) := by rw [hH2]; exact set_ne a6 (by omega)
          have a7 : H2[117]? = some (.inl (0, 6, .inl rkk)) := by rw [hH2]; exact set_ne a7 (by omega)
          have t0 : H2[118]? = some (.inl (0, 64, .inl mt)) := by rw [hH2]; exact set_ne t0 (by omega)
          have hO : Off (fun j => j = 111 ∨ (115 ≤ j ∧ j ≤ 117)) H H2 := by rw [hH2]; exact hO.set (by first | exact Or.inl rfl | exact Or.inr ⟨by decide, by decide⟩)
          refine ev_goto (t := 72) i124_217 (by decide) ?_
          refine ev_aload_n i124_72 rfl ?_
          refine ev_get i124_73 ci124 fl8_69 (by assumption) rfl ?_
          refine ev_bipush (v := (-9)) i124_76 (by decide) ?_
          refine ev_icmp_ne (t := 220) i124_78 (by decide) (fun z78 => ?_) (fun z78 => by exfalso; exact absurd z78 (m9_ne (by omega)))
          refine ev_aload_n i124_220 rfl ?_
          refine ev_get i124_221 ci124 fl8_69 (by assumption) rfl ?_
          refine ev_iret i124_224 (by decide +kernel) ?_
          exact ⟨rfl, _, _, _, _, _, _, _, _, c0, a5, a6, a7, hO, fun q => absurd q (m9_ne (by omega))⟩
theorem lq124z {tb : dxT} {H : dxH} {n : Nat} {f : Nat → Int32} {sed : Int64} {ln : Nat} {Q : Option Value → dxH → Prop} : ∀ (d i : Nat) (H1 : dxH) (R : Nat → Int32), i + d = 27 → H1[111]? = some (pOb n f sed ln (nI 0) (nI 0) (nI 0) (nI 0) (-9)) → H1[115]? = some (.inl (0, 27, .inl R)) → (∀ j, j < i → R j = nI 0) → Off (fun j => j = 115) H H1 → (∀ H3 R3, H3[111]? = some (pOb n f sed ln (nI 0) (nI 0) (nI 0) (nI 0) (-9)) → H3[115]? = some (.inl (0, 27, .inl R3)) → (∀ j, j < 27 → R3 j = nI 0) → Off (fun j => j = 115) H H3 → Ev tb 124 47 [some (.ref 111), some (.int (nI 27))] [] H3 Q) → Ev tb 124 28 [some (.ref 111), some (.int (nI i))] [] H1 Q
  | 0, i, H1, R, hi, c0, a5, hz, hO, hQ => by
    obtain rfl : i = 27 := by omega
    refine ev_iload_n i124_28 rfl ?_
    refine ev_bipush (v := nI 27) i124_29 (by decide) ?_
    refine evn_icmp_ge (t := 47) i124_31 (by decide) (by omega) (fun z31 => ?_) (fun z31 => by exfalso; omega)
    exact hQ H1 R c0 a5 hz hO
  | d + 1, i, H1, R, hi, c0, a5, hz, hO, hQ => by
    unfold pOb at c0
    refine ev_iload_n i124_28 rfl ?_
    refine ev_bipush (v := nI 27) i124_29 (by decide) ?_
    refine evn_icmp_ge (t := 47) i124_31 (by decide) (by omega) (fun z31 => by exfalso; omega) (fun z31 => ?_)
    refine ev_aload_n i124_34 rfl ?_
    refine ev_get i124_35 ci124 fl8_19 (by assumption) rfl ?_
    refine ev_iload_n i124_38 rfl ?_
    refine ev_iconst (v := nI 0) i124_39 (by decide) ?_
    refine evs_iastw i124_40 (by assumption) (by omega) (fun H2 hH2 => ?_)
    have c0 : H2[111]? = some (.inr (8, [.int (nI n), .ref 112, .ref 113, .ref 114, .ref 115, .ref 116, .ref 117, .int (nI 0), .int (nI 0), .int (nI 0), .ref 118, .int (nI ln), .int (nI 0), .int (-9), .int (f 6), .int (f 7), .ref 119, .ref 120, .int (f 8), .ref 121, .ref 122, .ref 123, .ref 124, .long sed, .ref 125, .ref 126])) := by rw [hH2]; exact set_ne c0 (by omega)
    have a5 : H2[115]? = some (.inl (0, 27, .inl (upd R i (nI 0)))) := by rw [hH2]; exact set_self a5
    have hO : Off (fun j => j = 115) H H2 := by rw [hH2]; exact hO.set (by rfl)
    refine evn_iinc (d := 1) (L' := [some (.ref 111), some (.int (nI (i + 1)))]) i124_41 rfl rfl (by decide) rfl ?_
    refine ev_goto (t := 28) i124_44 (by decide) ?_
    exact lq124z d (i + 1) _ _ (by omega) c0 a5 (fun j hj => by
      unfold upd
      by_cases q : j = i
      · rw [if_pos q]
      · rw [if_neg q]; exact hz j (by omega)) hO hQ
theorem c124 {tb : dxT} {H : dxH} {n : Nat} {f : Nat → Int32} {sed : Int64} {ln : Nat} {mt : Nat → Int32} {tx : Nat → Nat} {sd kd : Nat → Nat} {s : Sn} {R rs rkk : Nat → Int32} (c0 : H[111]? = some (mOb n f sed)) (e3 : f 3 = nI ln) (T0 : H[118]? = some (.inl (0, 64, .inl mt))) (hmt : ∀ j, j < ln → mt j = nI (tx j)) (hln : ln ≤ 64) (htx : ∀ j, tx j < 256) (a5 : H[115]? = some (.inl (0, 27, .inl R))) (a6 : H[116]? = some (.inl (0, 6, .inl rs))) (a7 : H[117]? = some (.inl (0, 6, .inl rkk))) : Cl tb 124 [.ref 111] H (fun r H' => r = some (.int (fplP tx ln)) ∧ ∃ (rc rv rl at_ fa : Int32) (R rs rkk : Nat → Int32), H'[111]? = some (pOb n f sed ln rc rv rl at_ fa) ∧ H'[115]? = some (.inl (0, 27, .inl R)) ∧ H'[116]? = some (.inl (0, 6, .inl rs)) ∧ H'[117]? = some (.inl (0, 6, .inl rkk)) ∧ Off (fun j => j = 111 ∨ (115 ≤ j ∧ j ≤ 117)) H H' ∧ (fplP tx ln = -9 → rc = nI (telL tx ln 64 1 (0, sd, kd, fun _ => 0, s.1, s.2.2.2.1)).1 ∧ RI R rs rkk (telL tx ln 64 1 (0, sd, kd, fun _ => 0, s.1, s.2.2.2.1)))) := by
  unfold mOb at c0
  rw [e3] at c0
  have hO : Off (fun j => j = 111 ∨ (115 ≤ j ∧ j ≤ 117)) H H := Off.rf
  show Ev tb 124 0 [some (.ref 111), none] [] H _
  refine ev_aload_n i124_0 rfl ?_
  refine ev_iconst (v := nI 0) i124_1 (by decide) ?_
  refine evs_put (fs' := [.int (nI n), .ref 112, .ref 113, .ref 114, .ref 115, .ref 116, .ref 117, .int (f 0), .int (f 1), .int (f 2), .ref 118, .int (nI ln), .int (nI 0), .int (f 5), .int (f 6), .int (f 7), .ref 119, .ref 120, .int (f 8), .ref 121, .ref 122, .ref 123, .ref 124, .long sed, .ref 125, .ref 126]) i124_2 ci124 fl8_72 (by assumption) ⟨Nat.le_of_ble_eq_true rfl, rfl, Or.inl rfl⟩ rfl (fun H1 hH1 => ?_)
  have c0 : H1[111]? = some (.inr (8, [.int (nI n), .ref 112, .ref 113, .ref 114, .ref 115, .ref 116, .ref 117, .int (f 0), .int (f 1), .int (f 2), .ref 118, .int (nI ln), .int (nI 0), .int (f 5), .int (f 6), .int (f 7), .ref 119, .ref 120, .int (f 8), .ref 121, .ref 122, .ref 123, .ref 124, .long sed, .ref 125, .ref 126])) := by rw [hH1]; exact set_self c0
  have a5 : H1[115]? = some (.inl (0, 27, .inl R)) := by rw [hH1]; exact set_ne a5 (by omega)
  have a6 : H1[116]? = some (.inl (0, 6, .inl rs)) := by rw [hH1]; exact set_ne a6 (by omega)
  have a7 : H1[117]? = some (.inl (0, 6, .inl rkk)) := by rw [hH1]; exact set_ne a7 (by omega)
  have hO : Off (fun j => j = 111 ∨ (115 ≤ j ∧ j ≤ 117)) H H1 := by rw [hH1]; exact hO.set (by first | exact Or.inl rfl | exact Or.inr ⟨by decide, by decide⟩)
  refine ev_aload_n i124_5 rfl ?_
  refine ev_bipush (v := (-9)) i124_6 (by decide) ?_
  refine evs_put (fs' := [.int (nI n), .ref 112, .ref 113, .ref 114, .ref 115, .ref 116, .ref 117, .int (f 0), .int (f 1), .int (f 2), .ref 118, .int (nI ln), .int (nI 0), .int (-9), .int (f 6), .int (f 7), .ref 119, .ref 120, .int (f 8), .ref 121, .ref 122, .ref 123, .ref 124, .long sed, .ref 125, .ref 126]) i124_8 ci124 fl8_69 (by assumption) ⟨Nat.le_of_ble_eq_true rfl, rfl, Or.inl rfl⟩ rfl (fun H2 hH2 => ?_)
  have c0 : H2[111]? = some (.inr (8, [.int (nI n), .ref 112, .ref 113, .ref 114, .ref 115, .ref 116, .ref 117, .int (f 0), .int (f 1), .int (f 2), .ref 118, .int (nI ln), .int (nI 0), .int (-9), .int (f 6), .int (f 7), .ref 119, .ref 120, .int (f 8), .ref 121, .ref 122, .ref 123, .ref 124, .long sed, .ref 125, .ref 126])) := by rw [hH2]; exact set_self c0
  have a5 : H2[115]? = some (.inl (0, 27, .inl R)) := by rw [hH2]; exact set_ne a5 (by omega)
  have a6 : H2[116]? = some (.inl (0, 6, .inl rs)) := by rw [hH2]; exact set_ne a6 (by omega)
  have a7 : H2[117]? = some (.inl (0, 6, .inl rkk)) := by rw [hH2]; exact set_ne a7 (by omega)
  have hO : Off (fun j => j = 111 ∨ (115 ≤ j ∧ j ≤ 117)) H H2 := by rw [hH2]; exact hO.set (by first | exact Or.inl rfl | exact Or.inr ⟨by decide, by decide⟩)
  refine ev_aload_n i124_11 rfl ?_
  refine ev_iconst (v := nI 0) i124_12 (by decide) ?_
  refine evs_put (fs' := [.int (nI n), .ref 112, .ref 113, .ref 114, .ref 115, .ref 116, .ref 117, .int (nI 0), .int (f 1), .int (f 2), .ref 118, .int (nI ln), .int (nI 0), .int (-9), .int (f 6), .int (f 7), .ref 119, .ref 120, .int (f 8), .ref 121, .ref 122, .ref 123, .ref 124, .long sed, .ref 125, .ref 126]) i124_13 ci124 fl8_81 (by assumption) ⟨Nat.le_of_ble_eq_true rfl, rfl, Or.inl rfl⟩ rfl (fun H3 hH3 => ?_)
  have c0 : H3[111]? = some (.inr (8, [.int (nI n), .ref 112, .ref 113, .ref 114, .ref 115, .ref 116, .ref 117, .int (nI 0), .int (f 1), .int (f 2), .ref 118, .int (nI ln), .int (nI 0), .int (-9), .int (f 6), .int (f 7), .ref 119, .ref 120, .int (f 8), .ref 121, .ref 122, .ref 123, .ref 124, .long sed, .ref 125, .ref 126])) := by rw [hH3]; exact set_self c0
  have a5 : H3[115]? = some (.inl (0, 27, .inl R)) := by rw [hH3]; exact set_ne a5 (by omega)
  have a6 : H3[116]? = some (.inl (0, 6, .inl rs)) := by rw [hH3]; exact set_ne a6 (by omega)
  have a7 : H3[117]? = some (.inl (0, 6, .inl rkk)) := by rw [hH3]; exact set_ne a7 (by omega)
  have hO : Off (fun j => j = 111 ∨ (115 ≤ j ∧ j ≤ 117)) H H3 := by rw [hH3]; exact hO.set (by first | exact Or.inl rfl | exact Or.inr ⟨by decide, by decide⟩)
  refine ev_aload_n i124_16 rfl ?_
  refine ev_iconst (v := nI 0) i124_17 (by decide) ?_
  refine evs_put (fs' := [.int (nI n), .ref 112, .ref 113, .ref 114, .ref 115, .ref 116, .ref 117, .int (nI 0), .int (nI 0), .int (f 2), .ref 118, .int (nI ln), .int (nI 0), .int (-9), .int (f 6), .int (f 7), .ref 119, .ref 120, .int (f 8), .ref 121, .ref 122, .ref 123, .ref 124, .long sed, .ref 125, .ref 126]) i124_18 ci124 fl8_84 (by assumption) ⟨Nat.le_of_ble_eq_true rfl, rfl, Or.inl rfl⟩ rfl (fun H4 hH4 => ?_)
  have c0 : H4[111]? = some (.inr (8, [.int (nI n), .ref 112, .ref 113, .ref 114, .ref 115, .ref 116, .ref 117, .int (nI 0), .int (nI 0), .int (f 2), .ref 118, .int (nI ln), .int (nI 0), .int (-9), .int (f 6), .int (f 7), .ref 119, .ref 120, .int (f 8), .ref 121, .ref 122, .ref 123, .ref 124, .long sed, .ref 125, .ref 126])) := by rw [hH4]; exact set_self c0
  have a5 : H4[115]? = some (.inl (0, 27, .inl R)) := by rw [hH4]; exact set_ne a5 (by omega)
  have a6 : H4[116]? = some (.inl (0, 6, .inl rs)) := by rw [hH4]; exact set_ne a6 (by omega)
  have a7 : H4[117]? = some (.inl (0, 6, .inl rkk)) := by rw [hH4]; exact set_ne a7 (by omega)
  have hO : Off (fun j => j = 111 ∨ (115 ≤ j ∧ j ≤ 117)) H H4 := by rw [hH4]; exact hO.set (by first | exact Or.inl rfl | exact Or.inr ⟨by decide, by decide⟩)
  refine ev_aload_n i124_21 rfl ?_
  refine ev_iconst (v := nI 0) i124_22 (by decide) ?_
  refine evs_put (fs' := [.int (nI n), .ref 112, .ref 113, .ref 114, .ref 115, .ref 116, .ref 117, .int (nI 0), .int (nI 0), .int (nI 0), .ref 118, .int (nI ln), .int (nI 0), .int (-9), .int (f 6), .int (f 7), .ref 119, .ref 120, .int (f 8), .ref 121, .ref 122, .ref 123, .ref 124, .long sed, .ref 125, .ref 126]) i124_23 ci124 fl8_87 (by assumption) ⟨Nat.le_of_ble_eq_true rfl, rfl, Or.inl rfl⟩ rfl (fun H5 hH5 => ?_)
  have c0 : H5[111]? = some (.inr (8, [.int (nI n), .ref 112, .ref 113, .ref 114, .ref 115, .ref 116, .ref 117, .int (nI 0), .int (nI 0), .int (nI 0), .ref 118, .int (nI ln), .int (nI 0), .int (-9), .int (f 6), .int (f 7), .ref 119, .ref 120, .int (f 8), .ref 121, .ref 122, .ref 123, .ref 124, .long sed, .ref 125, .ref 126])) := by rw [hH5]; exact set_self c0
  have a5 : H5[115]? = some (.inl (0, 27, .inl R)) := by rw [hH5]; exact set_ne a5 (by omega)
  have a6 : H5[116]? = some (.inl (0, 6, .inl rs)) := by rw [hH5]; exact set_ne a6 (by omega)
  have a7 : H5[117]? = some (.inl (0, 6, .inl rkk)) := by rw [hH5]; exact set_ne a7 (by omega)
  have hO : Off (fun j => j = 111 ∨ (115 ≤ j ∧ j ≤ 117)) H H5 := by rw [hH5]; exact hO.set (by first | exact Or.inl rfl | exact Or.inr ⟨by decide, by decide⟩)
  refine ev_iconst (v := nI 0) i124_26 (by decide) ?_
  refine ev_istore_n (L' := [some (.ref 111), some (.int (nI 0))]) i124_27 ⟨Nat.le_of_ble_eq_true rfl, rfl⟩ rfl ?_
  refine lq124z (H := H5) 27 0 _ R (by omega) c0 a5 (fun j hj => absurd hj (Nat.not_lt_zero _)) Off.rf (fun H8 R8 c8 a58 hz hA8 => ?_)
  have c0 := c8
  have a5 := a58
  have hO8 : Off (fun j => j = 111 ∨ (115 ≤ j ∧ j ≤ 117)) H H8 := hO.trans hA8 (fun _ q => q) (fun _ q => Or.inr (by omega))
  have a6 := hA8.at a6 (by decide)
  have a7 := hA8.at a7 (by decide)
  have t0 := hO8.at T0 (by omega)
  unfold pOb at c0
  have hO := hO8
  refine ev_aload_n i124_47 rfl ?_
  refine ev_get i124_48 ci124 fl8_66 (by assumption) rfl ?_
  refine evn_if_eq (t := 65) i124_51 (by decide) (by omega) (fun z51 => ?_) (fun z51 => ?_)
  · refine ev_iconst (v := nI 0) i124_65 (by decide) ?_
    refine ev_iret i124_66 (by decide +kernel) ?_
    rw [show fplP tx ln = nI 0 by unfold fplP; exact if_neg (by omega)]
    exact ⟨rfl, _, _, _, _, _, _, _, _, c0, a5, a6, a7, hO, fun q => absurd q (m9_ne (by omega))⟩
  · refine ev_aload_n i124_54 rfl ?_
    refine ev_get i124_55 ci124 fl8_28 (by assumption) rfl ?_
    refine ev_iconst (v := nI 0) i124_58 (by decide) ?_
    refine ev_iald_n i124_59 (by assumption) (by omega) ?_
    rw [hmt 0 (by omega)]
    have htp0 := htx 0
    refine ev_bipush (v := nI 77) i124_60 (by decide) ?_
    refine evn_icmp_eq (t := 67) i124_62 (by decide) (by omega) (fun z62 => ?_) (fun z62 => ?_)
    · refine ev_aload_n i124_67 rfl ?_
      refine ev_iconst (v := nI 1) i124_68 (by decide) ?_
      refine evs_put (fs' := [.int (nI n), .ref 112, .ref 113, .ref 114, .ref 115, .ref 116, .ref 117, .int (nI 0), .int (nI 0), .int (nI 0), .ref 118, .int (nI ln), .int (nI 1), .int (-9), .int (f 6), .int (f 7), .ref 119, .ref 120, .int (f 8), .ref 121, .ref 122, .ref 123, .ref 124, .long sed, .ref 125, .ref 126]) i124_69 ci124 fl8_72 (by assumption) ⟨Nat.le_of_ble_eq_true rfl, rfl, Or.inl rfl⟩ rfl (fun H9 hH9 => ?_)
      have c0 : H9[111]? = some (.inr (8, [.int (nI n), .ref 112, .ref 113, .ref 114, .ref 115, .ref 116, .ref 117, .int (nI 0), .int (nI 0), .int (nI 0), .ref 118, .int (nI ln), .int (nI 1), .int (-9), .int (f 6), .int (f 7), .ref 119, .ref 120, .int (f 8), .ref 121, .ref 122, .ref 123, .ref 124, .long sed, .ref 125, .ref 126])) := by rw [hH9]; exact set_self c0
      have a5 : H9[115]? = some (.inl (0, 27, .inl R8)) := by rw [hH9]; exact set_ne a5 (by omega)
      have a6 : H9[116]? = some (.inl (0, 6, .inl rs)) := by rw [hH9]; exact set_ne a6 (by omega)
      have a7 : H9[117]? = some (.inl (0, 6, .inl rkk)) := by rw [hH9]; exact set_ne a7 (by omega)
      have t0 : H9[118]? = some (.inl (0, 64, .inl mt)) := by rw [hH9]; exact set_ne t0 (by omega)
      have hO : Off (fun j => j = 111 ∨ (115 ≤ j ∧ j ≤ 117)) H H9 := by rw [hH9]; exact hO.set (by first | exact Or.inl rfl | exact Or.inr ⟨by decide, by decide⟩)
      rw [show fplP tx ln = fplL tx ln 64 0 0 1 by unfold fplP; rw [if_pos (by omega), if_pos z62]]
      exact lq124 T0 hmt hln htx 64 0 0 1 (0, sd, kd, fun _ => 0, s.1, s.2.2.2.1) _ R8 rs rkk (by omega) (by decide) (by decide) (by omega) (by show (0 : Nat) = popN 0; decide) (by show (0 : Nat) ≤ 6; decide) ⟨fun j hj => hz j (by omega), fun k hk => absurd hk (Nat.not_lt_zero _), fun j h1 h2 => hz j h2⟩ c0 a5 a6 a7 hO _
    · refine ev_iconst (v := nI 0) i124_65 (by decide) ?_
      refine ev_iret i124_66 (by decide +kernel) ?_
      rw [show fplP tx ln = nI 0 by unfold fplP; rw [if_pos (by omega)]; exact if_neg z62]
      exact ⟨rfl, _, _, _, _, _, _, _, _, c0, a5, a6, a7, hO, fun q => absurd q (m9_ne (by omega))⟩
theorem MRest.prs {H H' : dxH} {tx : Nat → Nat} {ln n n' am am' nx : Nat} {stk : Nat → Sn} {kp kp' : Nat → Bool} {ks : Nat → Sn} {tm : Nat} {tc th : Nat → Nat} {td : Nat → Bool} {A : Nat → Prop} {R rs rkk : Nat → Int32} {kq : Nat → Bool} (h : MRest H tx ln n am nx stk kp ks tm tc th td) (hO : Off A H H') (hA : ∀ j, 115 ≤ j → j ≤ 126 → ¬ (115 ≤ j ∧ j ≤ 117) → ¬ j = 125 → ¬ A j) (a5 : H'[115]? = some (.inl (0, 27, .inl R))) (a6 : H'[116]? = some (.inl (0, 6, .inl rs))) (a7 : H'[117]? = some (.inl (0, 6, .inl rkk))) (ak : H'[125]? = some (ZA 2 kq)) (hk : ∀ i, i < 2 → kq i = kp' i) (hn : (n' = n ∧ am' = am ∧ kp' = kp) ∨ (am' = 0 ∧ ∀ i, i < 2 → kp' i = false)) : MRest H' tx ln n' am' nx stk kp' ks tm tc th td := by
  obtain ⟨⟨rw, h1, h2⟩, ⟨mt, h3, h4⟩, ⟨a, b, c, h5, h6, h7, h8⟩, ⟨_, kg, h9, i1, i2, i3⟩, _, _, _, ⟨q4, i7⟩, q5, i8⟩ := h
  have o : ∀ (j : Nat) (e : dxE), 115 ≤ j → j ≤ 126 → ¬ (115 ≤ j ∧ j ≤ 117) → ¬ j = 125 → H[j]? = some e → H'[j]? = some e := fun j e a b c d hj => hO.at hj (hA j a b c d)
  refine ⟨⟨rw, o _ _ (by decide) (by decide) (by decide) (by decide) h1, ?_⟩, ⟨mt, o _ _ (by decide) (by decide) (by decide) (by decide) h3, h4⟩, ⟨a, b, c, o _ _ (by decide) (by decide) (by decide) (by decide) h5, o _ _ (by decide) (by decide) (by decide) (by decide) h6, o _ _ (by decide) (by decide) (by decide) (by decide) h7, h8⟩, ⟨kq, kg, ak, hk, o _ _ (by decide) (by decide) (by decide) (by decide) i2, ?_⟩, ⟨R, a5⟩, ⟨rs, a6⟩, ⟨rkk, a7⟩, ⟨q4, o _ _ (by decide) (by decide) (by decide) (by decide) i7⟩, q5, o _ _ (by decide) (by decide) (by decide) (by decide) i8⟩
  · rcases hn with ⟨e1, e2, _⟩ | ⟨e1, _⟩
    · rw [e1, e2]; exact h2
    · intro i hi
      rw [e1] at hi
      exact absurd hi (Nat.not_lt_zero _)
  · rcases hn with ⟨e1, _, e2⟩ | ⟨_, e2⟩
    · rw [e1, e2]; exact i3
    · intro i hi hq
      rw [e2 i hi] at hq
      cases hq
def fP (f : Nat → Int32) (ln : Nat) (rc rv rl at_ fa : Int32) : Nat → Int32 := fun j => if j = 0 then rc else if j = 1 then rv else if j = 2 then rl else if j = 3 then nI ln else if j = 4 then at_ else if j = 5 then fa else f j
theorem y126 {tb : dxT} {H : dxH} {tx : Nat → Nat} {ln n : Nat} {sd kd : Nat → Nat} {s : Sn} {am : Nat} {stk : Nat → Sn} {kp : Nat → Bool} {ks : Nat → Sn} {tm : Nat} {tc th : Nat → Nat} {td : Nat → Bool} {sed : Int64} (hI : MInv H tx ln n sd kd s am stk kp ks tm tc th td sed) (hS : SpOK tx ln n sd kd s am stk kp ks tm tc th) : Cl tb 126 [.ref 111] H (fun r H' => r = some (.int (fplP tx ln)) ∧ MInv H' tx ln n sd kd s am stk kp ks tm tc th td sed ∧ Off mC H H') := by
  obtain ⟨f, g, nx, ⟨hC, hL, e3, e6, e7, e8, hnx⟩, hR⟩ := id hI
  obtain ⟨⟨b1, b2⟩, b3, b4, b5, b6, b7, b8, b9, b10, b11⟩ := id hS
  obtain ⟨c0, ⟨ms, mk, c1, c2, c3, c4⟩, c5⟩ := id hC
  unfold mOb at c0
  have c0x := hC.1
  obtain ⟨_, ⟨mt, t0, t1⟩, _, ⟨kq, kg, k0, k1, k2, k3⟩, ⟨R, a5⟩, ⟨rs, a6⟩, ⟨rkk, a7⟩, _⟩ := id hR
  show Ev tb 126 0 [some (.ref 111)] [] H _
  refine ev_aload_n i126_0 rfl ?_
  refine ev_callV (vs := []) (rest := []) i126_1 ci126 lk8_101 (congrArg (fun q => q + 1) np124) ci124 (by decide) (by decide +kernel) (Nat.le_of_ble_eq_true rfl) ⟨rfl, rfl, Nat.le_of_ble_eq_true rfl⟩ rfl (by assumption) (c124 (s := s) (sd := sd) (kd := kd) c0x e3 t0 t1 b1 b2 a5 a6 a7) (fun r H1 hq => ?_)
  obtain ⟨rfl, rc, rv, rl, at_, fa, R1, rs1, rk1, d0, d5, d6, d7, hO, hfin⟩ := hq
  show Ev tb 126 4 [some (.ref 111)] [.int (fplP tx ln)] H1 _
  refine ev_iret i126_4 (by decide +kernel) ?_
  exact ⟨rfl, ⟨fP f ln rc rv rl at_ fa, g, nx, ⟨⟨d0, ⟨ms, mk, hO.at c1 (by omega), c2, hO.at c3 (by omega), c4⟩, hO.at c5 (by omega)⟩, hL, rfl, e6, e7, e8, hnx⟩, hR.prs hO (fun j a b c d => by omega) d5 d6 d7 (hO.at k0 (by omega)) k1 (Or.inl ⟨rfl, rfl, rfl⟩)⟩, hO.weaken (fun j q => by unfold mC; omega)⟩
theorem y127f {tb : dxT} {H : dxH} {tx : Nat → Nat} {ln n : Nat} {sd kd : Nat → Nat} {s : Sn} {am : Nat} {stk : Nat → Sn} {kp : Nat → Bool} {ks : Nat → Sn} {tm : Nat} {tc th : Nat → Nat} {td : Nat → Bool} {sed : Int64} (hI : MInv H tx ln n sd kd s am stk kp ks tm tc th td sed) (hS : SpOK tx ln n sd kd s am stk kp ks tm tc th) (h : ¬ fplP tx ln = -9) : Cl tb 127 [.ref 111] H (fun r H' => r = some (.int (-3)) ∧ MInv H' tx ln n sd kd s am stk kp ks tm tc th td sed ∧ Off mC H H') := by
  obtain ⟨f, g, nx, ⟨hC, hL, e3, e6, e7, e8, hnx⟩, hR⟩ := id hI
  obtain ⟨⟨b1, b2⟩, b3, b4, b5, b6, b7, b8, b9, b10, b11⟩ := id hS
  obtain ⟨c0, ⟨ms, mk, c1, c2, c3, c4⟩, c5⟩ := id hC
  unfold mOb at c0
  have c0x := hC.1
  obtain ⟨_, ⟨mt, t0, t1⟩, _, ⟨kq, kg, k0, k1, k2, k3⟩, ⟨R, a5⟩, ⟨rs, a6⟩, ⟨rkk, a7⟩, _⟩ := id hR
  show Ev tb 127 0 [some (.ref 111), none] [] H _
  refine ev_aload_n i127_0 rfl ?_
  refine ev_callV (vs := []) (rest := []) i127_1 ci127 lk8_101 (congrArg (fun q => q + 1) np124) ci124 (by decide) (by decide +kernel) (Nat.le_of_ble_eq_true rfl) ⟨rfl, rfl, Nat.le_of_ble_eq_true rfl⟩ rfl (by assumption) (c124 (s := s) (sd := sd) (kd := kd) c0x e3 t0 t1 b1 b2 a5 a6 a7) (fun r H1 hq => ?_)
  obtain ⟨rfl, rc, rv, rl, at_, fa, R1, rs1, rk1, d0, d5, d6, d7, hO, hfin⟩ := hq
  show Ev tb 127 4 [some (.ref 111), none] [.int (fplP tx ln)] H1 _
  refine ev_bipush (v := (-9)) i127_4 (by decide) ?_
  refine ev_icmp_eq (t := 12) i127_6 (by decide) (fun z6 => by exfalso; exact h z6) (fun z6 => ?_)
  refine ev_bipush (v := (-3)) i127_9 (by decide) ?_
  refine ev_iret i127_11 (by decide +kernel) ?_
  exact ⟨rfl, ⟨fP f ln rc rv rl at_ fa, g, nx, ⟨⟨d0, ⟨ms, mk, hO.at c1 (by omega), c2, hO.at c3 (by omega), c4⟩, hO.at c5 (by omega)⟩, hL, rfl, e6, e7, e8, hnx⟩, hR.prs hO (fun j a b c d => by omega) d5 d6 d7 (hO.at k0 (by omega)) k1 (Or.inl ⟨rfl, rfl, rfl⟩)⟩, hO.weaken (fun j q => by unfold mC; omega)⟩
theorem lq127a {tb : dxT} {H : dxH} {n2 : Nat} {f : Nat → Int32} {sed : Int64} {ln : Nat} {rv rl at_ fa : Int32} {rs rkk : Nat → Int32} {Q : Option Value → dxH → Prop} : ∀ (d i : Nat) (H1 : dxH) (ms mq : Nat → Int32), i + d = 6 → H1[111]? = some (pOb n2 f sed ln (nI n2) rv rl at_ fa) → H1[112]? = some (.inl (0, 6, .inl ms)) → H1[113]? = some (.inl (0, 6, .inl mq)) → H1[116]? = some (.inl (0, 6, .inl rs)) → H1[117]? = some (.inl (0, 6, .inl rkk)) → (∀ j, j < i → ms j = rs j ∧ mq j = rkk j) → Off (fun j => j = 112 ∨ j = 113) H H1 → (∀ H3 ms3 mk3, H3[111]? = some (pOb n2 f sed ln (nI n2) rv rl at_ fa) → H3[112]? = some (.inl (0, 6, .inl ms3)) → H3[113]? = some (.inl (0, 6, .inl mk3)) → H3[116]? = some (.inl (0, 6, .inl rs)) → H3[117]? = some (.inl (0, 6, .inl rkk)) → (∀ j, j < 6 → ms3 j = rs j ∧ mk3 j = rkk j) → Off (fun j => j = 112 ∨ j = 113) H H3 → Ev tb 127 58 [some (.ref 111), some (.int (nI 6))] [] H3 Q) → Ev tb 127 22 [some (.ref 111), some (.int (nI i))] [] H1 Q
  | 0, i, H1, ms, mq, hi, c0, c1, c3, a6, a7, hz, hO, hQ => by
    obtain rfl : i = 6 := by omega
    refine ev_iload_n i127_22 rfl ?_
    refine ev_bipush (v := nI 6) i127_23 (by decide) ?_
    refine evn_icmp_ge (t := 58) i127_25 (by decide) (by omega) (fun z25 => ?_) (fun z25 => by exfalso; omega)
    exact hQ H1 ms mq c0 c1 c3 a6 a7 hz hO
  | d + 1, i, H1, ms, mq, hi, c0, c1, c3, a6, a7, hz, hO, hQ => by
    unfold pOb at c0
    refine ev_iload_n i127_22 rfl ?_
    refine ev_bipush (v := nI 6) i127_23 (by decide) ?_
    refine evn_icmp_ge (t := 58) i127_25 (by decide) (by omega) (fun z25 => by exfalso; omega) (fun z25 => ?_)
    refine ev_aload_n i127_28 rfl ?_
    refine ev_get i127_29 ci127 fl8_7 (by assumption) rfl ?_
    refine ev_iload_n i127_32 rfl ?_
    refine ev_aload_n i127_33 rfl ?_
    refine ev_get i127_34 ci127 fl8_22 (by assumption) rfl ?_
    refine ev_iload_n i127_37 rfl ?_
    refine ev_iald_n i127_38 (by assumption) (by omega) ?_
    refine evs_iastw i127_39 (by assumption) (by omega) (fun H2 hH2 => ?_)
    have c0 : H2[111]? = some (.inr (8, [.int (nI n2), .ref 112, .ref 113, .ref 114, .ref 115, .ref 116, .ref 117, .int (nI n2), .int rv, .int rl, .ref 118, .int (nI ln), .int at_, .int fa, .int (f 6), .int (f 7), .ref 119, .ref 120, .int (f 8), .ref 121, .ref 122, .ref 123, .ref 124, .long sed, .ref 125, .ref 126])) := by rw [hH2]; exact set_ne c0 (by omega)
    have c1 : H2[112]? = some (.inl (0, 6, .inl (upd ms i (rs i)))) := by rw [hH2]; exact set_self c1
    have c3 : H2[113]? = some (.inl (0, 6, .inl mq)) := by rw [hH2]; exact set_ne c3 (by omega)
    have a6 : H2[116]? = some (.inl (0, 6, .inl rs)) := by rw [hH2]; exact set_ne a6 (by omega)
    have a7 : H2[117]? = some (.inl (0, 6, .inl rkk)) := by rw [hH2]; exact set_ne a7 (by omega)
    have hO : Off (fun j => j = 112 ∨ j = 113) H H2 := by rw [hH2]; exact hO.set (by first | exact Or.inl rfl | exact Or.inr rfl)
    refine ev_aload_n i127_40 rfl ?_
    refine ev_get i127_41 ci127 fl8_13 (by assumption) rfl ?_
    refine ev_iload_n i127_44 rfl ?_
    refine ev_aload_n i127_45 rfl ?_
    refine ev_get i127_46 ci127 fl8_25 (by assumption) rfl ?_
    refine ev_iload_n i127_49 rfl ?_
    refine ev_iald_n i127_50 (by assumption) (by omega) ?_
    refine evs_iastw i127_51 (by assumption) (by omega) (fun H3 hH3 => ?_)
    have c0 : H3[111]? = some (.inr (8, [.int (nI n2), .ref 112, .ref 113, .ref 114, .ref 115, .ref 116, .ref 117, .int (nI n2), .int rv, .int rl, .ref 118, .int (nI ln), .int at_, .int fa, .int (f 6), .int (f 7), .ref 119, .ref 120, .int (f 8), .ref 121, .ref 122, .ref 123, .ref 124, .long sed, .ref 125, .ref 126])) := by rw [hH3]; exact set_ne c0 (by omega)
    have c1 : H3[112]? = some (.inl (0, 6, .inl (upd ms i (rs i)))) := by rw [hH3]; exact set_ne c1 (by omega)
    have c3 : H3[113]? = some (.inl (0, 6, .inl (upd mq i (rkk i)))) := by rw [hH3]; exact set_self c3
    have a6 : H3[116]? = some (.inl (0, 6, .inl rs)) := by rw [hH3]; exact set_ne a6 (by omega)
    have a7 : H3[117]? = some (.inl (0, 6, .inl rkk)) := by rw [hH3]; exact set_ne a7 (by omega)
    have hO : Off (fun j => j = 112 ∨ j = 113) H H3 := by rw [hH3]; exact hO.set (by first | exact Or.inl rfl | exact Or.inr rfl)
    refine evn_iinc (d := 1) (L' := [some (.ref 111), some (.int (nI (i + 1)))]) i127_52 rfl rfl (by decide) rfl ?_
    refine ev_goto (t := 22) i127_55 (by decide) ?_
    exact lq127a d (i + 1) _ _ _ (by omega) c0 c1 c3 a6 a7 (fun j hj => by
      unfold upd
      by_cases q : j = i
      · rw [if_pos q, if_pos q, q]; exact ⟨rfl, rfl⟩
      · rw [if_neg q, if_neg q]; exact hz j (by omega)) hO hQ
theorem lq127b {tb : dxT} {H : dxH} {n2 : Nat} {f : Nat → Int32} {sed : Int64} {ln : Nat} {rv rl at_ fa : Int32} {R : Nat → Int32} {Q : Option Value → dxH → Prop} : ∀ (d i : Nat) (H1 : dxH) (g : Nat → Int32), i + d = 27 → H1[111]? = some (pOb n2 f sed ln (nI n2) rv rl at_ fa) → H1[114]? = some (.inl (0, 54, .inl g)) → H1[115]? = some (.inl (0, 27, .inl R)) → (∀ j, j < i → g j = R j) → Off (fun j => j = 114) H H1 → (∀ H3 g3, H3[111]? = some (pOb n2 f sed ln (nI n2) rv rl at_ fa) → H3[114]? = some (.inl (0, 54, .inl g3)) → H3[115]? = some (.inl (0, 27, .inl R)) → (∀ j, j < 27 → g3 j = R j) → Off (fun j => j = 114) H H3 → Ev tb 127 84 [some (.ref 111), some (.int (nI 27))] [] H3 Q) → Ev tb 127 60 [some (.ref 111), some (.int (nI i))] [] H1 Q
  | 0, i, H1, g, hi, c0, c5, a5, hz, hO, hQ => by
    obtain rfl : i = 27 := by omega
    refine ev_iload_n i127_60 rfl ?_
    refine ev_bipush (v := nI 27) i127_61 (by decide) ?_
    refine evn_icmp_ge (t := 84) i127_63 (by decide) (by omega) (fun z63 => ?_) (fun z63 => by exfalso; omega)
    exact hQ H1 g c0 c5 a5 hz hO
  | d + 1, i, H1, g, hi, c0, c5, a5, hz, hO, hQ => by
    unfold pOb at c0
    refine ev_iload_n i127_60 rfl ?_
    refine ev_bipush (v := nI 27) i127_61 (by decide) ?_
    refine evn_icmp_ge (t := 84) i127_63 (by decide) (by omega) (fun z63 => by exfalso; omega) (fun z63 => ?_)
    refine ev_aload_n i127_66 rfl ?_
    refine ev_get i127_67 ci127 fl8_16 (by assumption) rfl ?_
    refine ev_iload_n i127_70 rfl ?_
    refine ev_aload_n i127_71 rfl ?_
    refine ev_get i127_72 ci127 fl8_19 (by assumption) rfl ?_
    refine ev_iload_n i127_75 rfl ?_
    refine ev_iald_n i127_76 (by assumption) (by omega) ?_
    refine evs_iastw i127_77 (by assumption) (by omega) (fun H2 hH2 => ?_)
    have c0 : H2[111]? = some (.inr (8, [.int (nI n2), .ref 112, .ref 113, .ref 114, .ref 115, .ref 116, .ref 117, .int (nI n2), .int rv, .int rl, .ref 118, .int (nI ln), .int at_, .int fa, .int (f 6), .int (f 7), .ref 119, .ref 120, .int (f 8), .ref 121, .ref 122, .ref 123, .ref 124, .long sed, .ref 125, .ref 126])) := by rw [hH2]; exact set_ne c0 (by omega)
    have c5 : H2[114]? = some (.inl (0, 54, .inl (upd g i (R i)))) := by rw [hH2]; exact set_self c5
    have a5 : H2[115]? = some (.inl (0, 27, .inl R)) := by rw [hH2]; exact set_ne a5 (by omega)
    have hO : Off (fun j => j = 114) H H2 := by rw [hH2]; exact hO.set (by rfl)
    refine evn_iinc (d := 1) (L' := [some (.ref 111), some (.int (nI (i + 1)))]) i127_78 rfl rfl (by decide) rfl ?_
    refine ev_goto (t := 60) i127_81 (by decide) ?_
    exact lq127b d (i + 1) _ _ (by omega) c0 c5 a5 (fun j hj => by
      unfold upd
      by_cases q : j = i
      · rw [if_pos q, q]
      · rw [if_neg q]; exact hz j (by omega)) hO hQ
theorem RI.lv {R rs rkk g : Nat → Int32} {t : Tl} (h : RI R rs rkk t) (hz : ∀ j, j < 27 → g j = R j) (ht : t.1 ≤ 6) : LvS g 0 t.1 (tlS t) := by
  obtain ⟨h1, h2, h3⟩ := h
  refine ⟨fun j hj => ?_, fun k hk => ?_, fun k hk => ?_, ?_, fun i hi => ?_, ?_, ?_⟩
  · rw [Nat.zero_add, hz j (by omega)]; exact h1 j hj
  · rw [show 0 + 10 + k = 10 + k by omega, hz _ (by omega)]; exact (h2 k hk).1
  · rw [show 0 + 16 + k = 16 + k by omega, hz _ (by omega)]; exact (h2 k hk).2.1
  · rw [show 0 + 22 = 22 from rfl, hz _ (by omega), h3 22 (by omega) (by omega)]; rfl
  · rw [hz _ (by omega), h3 _ (by omega) (by omega)]; rfl
  · rw [show 0 + 25 = 25 from rfl, hz _ (by omega), h3 25 (by omega) (by omega)]; rfl
  · rw [show 0 + 26 = 26 from rfl, hz _ (by omega), h3 26 (by omega) (by omega)]; rfl
theorem y127 {tb : dxT} {H : dxH} {tx : Nat → Nat} {ln n : Nat} {sd kd : Nat → Nat} {s : Sn} {am : Nat} {stk : Nat → Sn} {kp : Nat → Bool} {ks : Nat → Sn} {tm : Nat} {tc th : Nat → Nat} {td : Nat → Bool} {sed : Int64} (hI : MInv H tx ln n sd kd s am stk kp ks tm tc th td sed) (hS : SpOK tx ln n sd kd s am stk kp ks tm tc th) (h : fplP tx ln = -9) : Cl tb 127 [.ref 111] H (fun r H' => r = some (.int (nI (telP tx ln sd kd s).1)) ∧ MInv H' tx ln ((telP tx ln sd kd s).1) ((telP tx ln sd kd s).2.1) ((telP tx ln sd kd s).2.2.1) (tlS (telP tx ln sd kd s)) 0 stk (updB (updB kp 0 false) 1 false) ks tm tc th td sed ∧ Off mC H H') := by
  obtain ⟨f, g, nx, ⟨hC, hL, e3, e6, e7, e8, hnx⟩, hR⟩ := id hI
  obtain ⟨⟨b1, b2⟩, b3, b4, b5, b6, b7, b8, b9, b10, b11⟩ := id hS
  obtain ⟨c0, ⟨ms, mk, c1, c2, c3, c4⟩, c5⟩ := id hC
  unfold mOb at c0
  have c0x := hC.1
  obtain ⟨_, ⟨mt, t0, t1⟩, _, ⟨kq, kg, k0, k1, k2, k3⟩, ⟨R, a5⟩, ⟨rs, a6⟩, ⟨rkk, a7⟩, _⟩ := id hR
  have hS2 := tel_sp (stk' := stk) (kp' := updB (updB kp 0 false) 1 false) hS h (fun i hi => by rcases (show i = 0 ∨ i = 1 by omega) with rfl | rfl <;> rfl)
  have ht6 : (telP tx ln sd kd s).1 ≤ 6 := hS2.2.1
  show Ev tb 127 0 [some (.ref 111), none] [] H _
  refine ev_aload_n i127_0 rfl ?_
  refine ev_callV (vs := []) (rest := []) i127_1 ci127 lk8_101 (congrArg (fun q => q + 1) np124) ci124 (by decide) (by decide +kernel) (Nat.le_of_ble_eq_true rfl) ⟨rfl, rfl, Nat.le_of_ble_eq_true rfl⟩ rfl (by assumption) (c124 (s := s) (sd := sd) (kd := kd) c0x e3 t0 t1 b1 b2 a5 a6 a7) (fun r H1 hq => ?_)
  obtain ⟨rfl, rc, rv, rl, at_, fa, R1, rs1, rk1, d0, d5, d6, d7, hO, hfin⟩ := hq
  obtain ⟨hrc, hRI⟩ := hfin h
  have hRI : RI R1 rs1 rk1 (telP tx ln sd kd s) := hRI
  have hrc : rc = nI (telP tx ln sd kd s).1 := hrc
  subst hrc
  unfold pOb at d0
  have c1b := hO.at c1 (by omega)
  have c3b := hO.at c3 (by omega)
  have c5b := hO.at c5 (by omega)
  have k0 := hO.at k0 (by omega)
  rw [h]
  show Ev tb 127 4 [some (.ref 111), none] [.int (-9)] H1 _
  refine ev_bipush (v := (-9)) i127_4 (by decide) ?_
  refine ev_icmp_eq (t := 12) i127_6 (by decide) (fun z6 => ?_) (fun z6 => by exfalso; exact z6 rfl)
  refine ev_aload_n i127_12 rfl ?_
  refine ev_aload_n i127_13 rfl ?_
  refine ev_get i127_14 ci127 fl8_81 (by assumption) rfl ?_
  refine evs_put (fs' := [.int (nI ((telP tx ln sd kd s).1)), .ref 112, .ref 113, .ref 114, .ref 115, .ref 116, .ref 117, .int (nI ((telP tx ln sd kd s).1)), .int rv, .int rl, .ref 118, .int (nI ln), .int at_, .int fa, .int (f 6), .int (f 7), .ref 119, .ref 120, .int (f 8), .ref 121, .ref 122, .ref 123, .ref 124, .long sed, .ref 125, .ref 126]) i127_17 ci127 fl8_56 (by assumption) ⟨Nat.le_of_ble_eq_true rfl, rfl, Or.inl rfl⟩ rfl (fun H2 hH2 => ?_)
  have d0 : H2[111]? = some (.inr (8, [.int (nI ((telP tx ln sd kd s).1)), .ref 112, .ref 113, .ref 114, .ref 115, .ref 116, .ref 117, .int (nI ((telP tx ln sd kd s).1)), .int rv, .int rl, .ref 118, .int (nI ln), .int at_, .int fa, .int (f 6), .int (f 7), .ref 119, .ref 120, .int (f 8), .ref 121, .ref 122, .ref 123, .ref 124, .long sed, .ref 125, .ref 126])) := by rw [hH2]; exact set_self d0
  have c1b : H2[112]? = some (.inl (0, 6, .inl ms)) := by rw [hH2]; exact set_ne c1b (by omega)
  have c3b : H2[113]? = some (.inl (0, 6, .inl mk)) := by rw [hH2]; exact set_ne c3b (by omega)
  have c5b : H2[114]? = some (.inl (0, 54, .inl g)) := by rw [hH2]; exact set_ne c5b (by omega)
  have d5 : H2[115]? = some (.inl (0, 27, .inl R1)) := by rw [hH2]; exact set_ne d5 (by omega)
  have d6 : H2[116]? = some (.inl (0, 6, .inl rs1)) := by rw [hH2]; exact set_ne d6 (by omega)
  have d7 : H2[117]? = some (.inl (0, 6, .inl rk1)) := by rw [hH2]; exact set_ne d7 (by omega)
  have k0 : H2[125]? = some (ZA 2 kq) := by rw [hH2]; exact set_ne k0 (by omega)
  have hO : Off (fun j => j = 111 ∨ (115 ≤ j ∧ j ≤ 117)) H H2 := by rw [hH2]; exact hO.set (by first | exact Or.inl rfl | exact Or.inr ⟨by decide, by decide⟩)
  refine ev_iconst (v := nI 0) i127_20 (by decide) ?_
  refine ev_istore_n (L' := [some (.ref 111), some (.int (nI 0))]) i127_21 ⟨Nat.le_of_ble_eq_true rfl, rfl⟩ rfl ?_
  have c0b : H2[111]? = some (pOb (telP tx ln sd kd s).1 f sed ln (nI (telP tx ln sd kd s).1) rv rl at_ fa) := d0
  have hOa : Off (fun j => j = 111 ∨ (115 ≤ j ∧ j ≤ 117)) H H2 := hO
  refine lq127a (H := H2) (rs := rs1) (rkk := rk1) 6 0 H2 ms mk (by omega) c0b c1b c3b d6 d7 (fun j hj => absurd hj (Nat.not_lt_zero _)) Off.rf (fun H8 ms8 mk8 c08 c18 c38 d68 d78 hz8 hO8 => ?_)
  have c58 := hO8.at c5b (by omega)
  have d58 := hO8.at d5 (by omega)
  have k08 := hO8.at k0 (by omega)
  have hOs8 : Off (fun j => (111 ≤ j ∧ j ≤ 117) ∨ j = 125) H H8 := hOa.trans hO8 (fun _ q => by omega) (fun _ q => Or.inl (by omega))
  refine ev_iconst (v := nI 0) i127_58 (by decide) ?_
  refine ev_istore_n (L' := [some (.ref 111), some (.int (nI 0))]) i127_59 ⟨Nat.le_of_ble_eq_true rfl, rfl⟩ rfl ?_
  refine lq127b (H := H8) (R := R1) 27 0 H8 g (by omega) c08 c58 d58 (fun j hj => absurd hj (Nat.not_lt_zero _)) Off.rf (fun H9 g9 c09 c59 d59 hz9 hO9 => ?_)
  unfold pOb at c09
  have c0 := c09
  have k0 := hO9.at k08 (by omega)
  have hOs9 : Off (fun j => (111 ≤ j ∧ j ≤ 117) ∨ j = 125) H H9 := hOs8.trans hO9 (fun _ q => q) (fun _ q => Or.inl (by omega))
  have hO : Off (fun j => j = 111 ∨ j = 125) H9 H9 := Off.rf
  refine ev_aload_n i127_84 rfl ?_
  refine ev_iconst (v := nI 0) i127_85 (by decide) ?_
  refine evs_put (fs' := [.int (nI ((telP tx ln sd kd s).1)), .ref 112, .ref 113, .ref 114, .ref 115, .ref 116, .ref 117, .int (nI ((telP tx ln sd kd s).1)), .int rv, .int rl, .ref 118, .int (nI ln), .int at_, .int fa, .int (nI 0), .int (f 7), .ref 119, .ref 120, .int (f 8), .ref 121, .ref 122, .ref 123, .ref 124, .long sed, .ref 125, .ref 126]) i127_86 ci127 fl8_105 (by assumption) ⟨Nat.le_of_ble_eq_true rfl, rfl, Or.inl rfl⟩ rfl (fun H10 hH10 => ?_)
  have c0 : H10[111]? = some (.inr (8, [.int (nI ((telP tx ln sd kd s).1)), .ref 112, .ref 113, .ref 114, .ref 115, .ref 116, .ref 117, .int (nI ((telP tx ln sd kd s).1)), .int rv, .int rl, .ref 118, .int (nI ln), .int at_, .int fa, .int (nI 0), .int (f 7), .ref 119, .ref 120, .int (f 8), .ref 121, .ref 122, .ref 123, .ref 124, .long sed, .ref 125, .ref 126])) := by rw [hH10]; exact set_self c0
  have k0 : H10[125]? = some (ZA 2 kq) := by rw [hH10]; exact set_ne k0 (by omega)
  have hO : Off (fun j => j = 111 ∨ j = 125) H9 H10 := by rw [hH10]; exact hO.set (by first | exact Or.inl rfl | exact Or.inr rfl)
  refine ev_aload_n i127_89 rfl ?_
  refine ev_get i127_90 ci127 fl8_50 (by assumption) rfl ?_
  refine ev_iconst (v := nI 0) i127_93 (by decide) ?_
  refine ev_iconst (v := nI 0) i127_94 (by decide) ?_
  refine evz_bastf i127_95 (by assumption) (by omega) (fun H11 hH11 => ?_)
  have c0 : H11[111]? = some (.inr (8, [.int (nI ((telP tx ln sd kd s).1)), .ref 112, .ref 113, .ref 114, .ref 115, .ref 116, .ref 117, .int (nI ((telP tx ln sd kd s).1)), .int rv, .int rl, .ref 118, .int (nI ln), .int at_, .int fa, .int (nI 0), .int (f 7), .ref 119, .ref 120, .int (f 8), .ref 121, .ref 122, .ref 123, .ref 124, .long sed, .ref 125, .ref 126])) := by rw [hH11]; exact set_ne c0 (by omega)
  have k0 : H11[125]? = some (ZA 2 (updB kq 0 false)) := by rw [hH11]; exact set_self k0
  have hO : Off (fun j => j = 111 ∨ j = 125) H9 H11 := by rw [hH11]; exact hO.set (by first | exact Or.inl rfl | exact Or.inr rfl)
  refine ev_aload_n i127_96 rfl ?_
  refine ev_get i127_97 ci127 fl8_50 (by assumption) rfl ?_
  refine ev_iconst (v := nI 1) i127_100 (by decide) ?_
  refine ev_iconst (v := nI 0) i127_101 (by decide) ?_
  refine evz_bastf i127_102 (by assumption) (by omega) (fun H12 hH12 => ?_)
  have c0 : H12[111]? = some (.inr (8, [.int (nI ((telP tx ln sd kd s).1)), .ref 112, .ref 113, .ref 114, .ref 115, .ref 116, .ref 117, .int (nI ((telP tx ln sd kd s).1)), .int rv, .int rl, .ref 118, .int (nI ln), .int at_, .int fa, .int (nI 0), .int (f 7), .ref 119, .ref 120, .int (f 8), .ref 121, .ref 122, .ref 123, .ref 124, .long sed, .ref 125, .ref 126])) := by rw [hH12]; exact set_ne c0 (by omega)
  have k0 : H12[125]? = some (ZA 2 (updB (updB kq 0 false) 1 false)) := by rw [hH12]; exact set_self k0
  have hO : Off (fun j => j = 111 ∨ j = 125) H9 H12 := by rw [hH12]; exact hO.set (by first | exact Or.inl rfl | exact Or.inr rfl)
  refine ev_aload_n i127_103 rfl ?_
  refine ev_get i127_104 ci127 fl8_56 (by assumption) rfl ?_
  refine ev_iret i127_107 (by decide +kernel) ?_
  exact ⟨rfl, ⟨upd (fP f ln (nI (telP tx ln sd kd s).1) rv rl at_ fa) 6 (nI 0), g9, nx, ⟨⟨c0, ⟨ms8, mk8, hO.at (hO9.at c18 (by omega)) (by omega), fun k hk => (hz8 k (by omega)).1.trans (hRI.2.1 k hk).2.2.1, hO.at (hO9.at c38 (by omega)) (by omega), fun k hk => (hz8 k (by omega)).2.trans (hRI.2.1 k hk).2.2.2⟩, hO.at c59 (by omega)⟩, hRI.lv hz9 ht6, rfl, rfl, e7, e8, hnx⟩, hR.prs (A := (fun j => (111 ≤ j ∧ j ≤ 117) ∨ j = 125)) (hOs9.trans hO (fun _ q => q) (fun _ q => by omega)) (fun j a b c d => by omega) (hO.at d59 (by omega)) (hO.at (hO9.at d68 (by omega)) (by omega)) (hO.at (hO9.at d78 (by omega)) (by omega)) k0 (fun i hi => by
    rcases (show i = 0 ∨ i = 1 by omega) with rfl | rfl <;> rfl) (Or.inr ⟨rfl, fun i hi => by
    rcases (show i = 0 ∨ i = 1 by omega) with rfl | rfl <;> rfl⟩)⟩, (hOs9.trans hO (C := (fun j => (111 ≤ j ∧ j ≤ 117) ∨ j = 125)) (fun _ q => q) (fun _ q => by omega)).weaken (fun j q => by unfold mC; omega)⟩
