/-! the model's graze  -/
theorem lq150 {tb : dxT} {H : dxH} {n : Nat} {f : Nat → Int32} {sed : Int64} {sd kd : Nat → Nat} {s : Sn} {q m v : Nat} {u : Bool} (b3 : n ≤ 6) (b4 : ∀ j, sd j < 2) (b5 : ∀ j, kd j < 4) (b6 : SnOK n s) (hq : q < 2) (hm : m ≤ 8) (hv : v ≤ 2) : ∀ (d c b a : Nat) (H1 : dxH) (g : Nat → Int32), c + d = 61 → a ≤ 8 → b < 61 → MC H1 n f sed sd kd g → LvS g 0 n s → Off (fun j => j = 114) H H1 → ∀ v8 v9, Ev tb 150 47 [some (.ref 111), some (.int (nI q)), some (.int (nI m)), some (.int (bI u)), some (.int (nI v)), some (.int (nI b)), some (.int (nI a)), some (.int (nI c)), v8, v9] [] H1 (fun r H' => r = some (.int (gzA (upto (gmF n sd kd s q m u) d c (b, a)) v)) ∧ ∃ g', MC H' n f sed sd kd g' ∧ LvS g' 0 n s ∧ Off (fun j => j = 114) H H')
  | 0, c, b, a, H1, g, hk, ha8, hb61, hC, hL, hOO, v8, v9 => by
    obtain rfl : c = 61 := by omega
    obtain ⟨c0, ⟨ms, mk, c1, c2, c3, c4⟩, c5⟩ := id hC
    unfold mOb at c0
    refine ev_iload i150_47 rfl ?_
    refine ev_bipush (v := nI 61) i150_49 (by decide) ?_
    refine evn_icmp_ge (t := 151) i150_51 (by decide) (by omega) (fun z51 => ?_) (fun z51 => by exfalso; omega)
    refine ev_iload i150_151 rfl ?_
    refine ev_iconst (v := nI 2) i150_153 (by decide) ?_
    refine evn_icmp_ne (t := 162) i150_154 (by decide) (by omega) (fun z154 => ?_) (fun z154 => ?_)
    · refine ev_iload i150_162 rfl ?_
      refine evn_if_ne (t := 172) i150_164 (by decide) (by omega) (fun z164 => ?_) (fun z164 => ?_)
      · refine ev_iload i150_172 rfl ?_
        refine evn_if_ne (t := 187) i150_174 (by decide) (by omega) (fun z174 => ?_) (fun z174 => ?_)
        · refine ev_iload i150_187 rfl ?_
          refine ev_iconst (v := nI 1) i150_189 (by decide) ?_
          refine evn_isub i150_190 (by omega) ?_
          refine ev_bipush (v := nI 10) i150_191 (by decide) ?_
          refine evn_irem i150_193 (by first | omega | exact ⟨Nat.lt_of_le_of_lt (Nat.div_le_self _ _) (by omega), by decide, by decide⟩) ?_
          refine ev_iret i150_194 (by decide +kernel) ?_
          show some _ = some (Value.int (gzA (b, a) v)) ∧ _
          unfold gzA
          first
            | rw [if_pos (by assumption)]; exact ⟨rfl, g, hC, hL, hOO⟩
            | rw [if_neg (by assumption), if_pos (by assumption)]; exact ⟨rfl, g, hC, hL, hOO⟩
            | rw [if_neg (by assumption), if_neg (by assumption), if_pos (by assumption)]; exact ⟨rfl, g, hC, hL, hOO⟩
            | rw [if_neg (by assumption), if_neg (by assumption), if_neg (by assumption)]; exact ⟨rfl, g, hC, hL, hOO⟩
        · refine ev_iload i150_177 rfl ?_
          refine ev_iconst (v := nI 1) i150_179 (by decide) ?_
          refine evn_isub i150_180 (by omega) ?_
          refine ev_bipush (v := nI 10) i150_181 (by decide) ?_
          refine evn_idiv i150_183 (by omega) ?_
          refine ev_goto (t := 194) i150_184 (by decide) ?_
          refine ev_iret i150_194 (by decide +kernel) ?_
          show some _ = some (Value.int (gzA (b, a) v)) ∧ _
          unfold gzA
          first
            | rw [if_pos (by assumption)]; exact ⟨rfl, g, hC, hL, hOO⟩
            | rw [if_neg (by assumption), if_pos (by assumption)]; exact ⟨rfl, g, hC, hL, hOO⟩
            | rw [if_neg (by assumption), if_neg (by assumption), if_pos (by assumption)]; exact ⟨rfl, g, hC, hL, hOO⟩
            | rw [if_neg (by assumption), if_neg (by assumption), if_neg (by assumption)]; exact ⟨rfl, g, hC, hL, hOO⟩
      · refine ev_bipush (v := (-9)) i150_167 (by decide) ?_
        refine ev_goto (t := 194) i150_169 (by decide) ?_
        refine ev_iret i150_194 (by decide +kernel) ?_
        show some _ = some (Value.int (gzA (b, a) v)) ∧ _
        unfold gzA
        first
          | rw [if_pos (by assumption)]; exact ⟨rfl, g, hC, hL, hOO⟩
          | rw [if_neg (by assumption), if_pos (by assumption)]; exact ⟨rfl, g, hC, hL, hOO⟩
          | rw [if_neg (by assumption), if_neg (by assumption), if_pos (by assumption)]; exact ⟨rfl, g, hC, hL, hOO⟩
          | rw [if_neg (by assumption), if_neg (by assumption), if_neg (by assumption)]; exact ⟨rfl, g, hC, hL, hOO⟩
    · refine ev_iload i150_157 rfl ?_
      refine ev_goto (t := 194) i150_159 (by decide) ?_
      refine ev_iret i150_194 (by decide +kernel) ?_
      show some _ = some (Value.int (gzA (b, a) v)) ∧ _
      unfold gzA
      first
        | rw [if_pos (by assumption)]; exact ⟨rfl, g, hC, hL, hOO⟩
        | rw [if_neg (by assumption), if_pos (by assumption)]; exact ⟨rfl, g, hC, hL, hOO⟩
        | rw [if_neg (by assumption), if_neg (by assumption), if_pos (by assumption)]; exact ⟨rfl, g, hC, hL, hOO⟩
        | rw [if_neg (by assumption), if_neg (by assumption), if_neg (by assumption)]; exact ⟨rfl, g, hC, hL, hOO⟩
  | d + 1, c, b, a, H1, g, hk, ha8, hb61, hC, hL, hOO, v8, v9 => by
    have hon8 : onN n sd kd s m c ≤ 8 := Nat.le_trans onN_le hm
    obtain ⟨c0, ⟨ms, mk, c1, c2, c3, c4⟩, c5⟩ := id hC
    unfold mOb at c0
    refine ev_iload i150_47 rfl ?_
    refine ev_bipush (v := nI 61) i150_49 (by decide) ?_
    refine evn_icmp_ge (t := 151) i150_51 (by decide) (by omega) (fun z51 => by exfalso; omega) (fun z51 => ?_)
    refine ev_aload_n i150_54 rfl ?_
    refine ev_iload_n i150_55 rfl ?_
    refine ev_iload i150_56 rfl ?_
    refine ev_callV (vs := [.int (nI q), .int (nI c)]) (rest := []) i150_58 ci150 lk8_149 (congrArg (fun q => q + 1) np148) ci148 (by decide) (by decide +kernel) (Nat.le_of_ble_eq_true rfl) ⟨rfl, rfl, Nat.le_of_ble_eq_true rfl⟩ rfl (by assumption) (c148 hC b3 b4 hL b6.1 b5 (by omega) (by omega)) (fun r HH hq => ?_)
    obtain ⟨rfl, rfl⟩ := hq
    show Ev tb 150 61 [some (.ref 111), some (.int (nI q)), some (.int (nI m)), some (.int (bI u)), some (.int (nI v)), some (.int (nI b)), some (.int (nI a)), some (.int (nI c)), v8, v9] [.int (bI (okM n sd s q c))] H1 _
    refine evb_if_eq (t := 145) i150_61 (by decide) (fun z61 => ?_) (fun z61 => ?_)
    · refine evn_iinc (d := 1) (L' := [some (.ref 111), some (.int (nI q)), some (.int (nI m)), some (.int (bI u)), some (.int (nI v)), some (.int (nI b)), some (.int (nI a)), some (.int (nI (c + 1))), v8, v9]) i150_145 rfl rfl (by decide) rfl ?_
      refine ev_goto (t := 47) i150_148 (by decide) ?_
      have e1 : gmF n sd kd s q m u c (b, a) = (b, a) := by
        unfold gmF
        exact if_neg (by simp [z61])
      have e2 : upto (gmF n sd kd s q m u) (d + 1) c (b, a) = upto (gmF n sd kd s q m u) d (c + 1) (gmF n sd kd s q m u c (b, a)) := rfl
      rw [e2, e1]
      exact lq150 b3 b4 b5 b6 hq hm hv d (c + 1) _ _ H1 g (by omega) ha8 (by omega) hC hL hOO _ _
    · refine ev_aload_n i150_64 rfl ?_
      refine ev_callV (vs := []) (rest := []) i150_65 ci150 lk8_140 (congrArg (fun q => q + 1) np143) ci143 (by decide) (by decide +kernel) (Nat.le_of_ble_eq_true rfl) ⟨rfl, rfl, Nat.le_of_ble_eq_true rfl⟩ rfl (by assumption) (c143 b3 hC hL) (fun r H2 hq => ?_)
      obtain ⟨rfl, g2, hC, hL, hT, hO2⟩ := hq
      obtain ⟨c0, ⟨ms, mk, c1, c2, c3, c4⟩, c5⟩ := id hC
      unfold mOb at c0
      have hOO := hOO.trans hO2 (C := fun j => j = 114) (fun _ q => q) (fun _ q => q)
      show Ev tb 150 68 [some (.ref 111), some (.int (nI q)), some (.int (nI m)), some (.int (bI u)), some (.int (nI v)), some (.int (nI b)), some (.int (nI a)), some (.int (nI c)), v8, v9] [] H2 _
      refine ev_aload_n i150_68 rfl ?_
      refine ev_iload i150_69 rfl ?_
      refine ev_callV (vs := [.int (nI c)]) (rest := []) i150_71 ci150 lk8_152 (congrArg (fun q => q + 1) np149) ci149 (by decide) (by decide +kernel) (Nat.le_of_ble_eq_true rfl) ⟨rfl, rfl, Nat.le_of_ble_eq_true rfl⟩ rfl (by assumption) (c149 b3 hC hT (by omega) (okM_ok z61)) (fun r H3 hq => ?_)
      obtain ⟨rfl, g3, hC, hT, hG3, hO3⟩ := hq
      have hL := hL.of0 b3 hG3
      obtain ⟨c0, ⟨ms, mk, c1, c2, c3, c4⟩, c5⟩ := id hC
      unfold mOb at c0
      have hOO := hOO.trans hO3 (C := fun j => j = 114) (fun _ q => q) (fun _ q => q)
      show Ev tb 150 74 [some (.ref 111), some (.int (nI q)), some (.int (nI m)), some (.int (bI u)), some (.int (nI v)), some (.int (nI b)), some (.int (nI a)), some (.int (nI c)), v8, v9] [] H3 _
      refine ev_aload_n i150_74 rfl ?_
      refine ev_iload_n i150_75 rfl ?_
      refine ev_bipush (v := nI 63) i150_76 (by decide) ?_
      refine ev_iconst (v := nI 0) i150_78 (by decide) ?_
      refine ev_callV (vs := [.int (nI m), .int (nI 63), .int (nI 0)]) (rest := []) i150_79 ci150 lk8_143 (congrArg (fun q => q + 1) np145) ci145 (by decide) (by decide +kernel) (Nat.le_of_ble_eq_true rfl) ⟨rfl, rfl, Nat.le_of_ble_eq_true rfl⟩ rfl (by assumption) (c145 b3 b4 b5 (mvC_lt b6.1) (by decide) (by decide) (by omega) hC hT b6.2.2.1) (fun r H4 hq => ?_)
      obtain ⟨rfl, g4, hC, hT, _, hG4, hO4⟩ := hq
      rw [and63 n (by omega)]
      have hL := hL.of0 b3 hG4
      obtain ⟨c0, ⟨ms, mk, c1, c2, c3, c4⟩, c5⟩ := id hC
      unfold mOb at c0
      have hOO := hOO.trans hO4 (C := fun j => j = 114) (fun _ q => q) (fun _ q => q)
      show Ev tb 150 82 [some (.ref 111), some (.int (nI q)), some (.int (nI m)), some (.int (bI u)), some (.int (nI v)), some (.int (nI b)), some (.int (nI a)), some (.int (nI c)), v8, v9] [.int (nI (onN n sd kd s m c))] H4 _
      refine ev_istore (L' := [some (.ref 111), some (.int (nI q)), some (.int (nI m)), some (.int (bI u)), some (.int (nI v)), some (.int (nI b)), some (.int (nI a)), some (.int (nI c)), some (.int (nI (onN n sd kd s m c))), v9]) i150_82 ⟨Nat.le_of_ble_eq_true rfl, rfl⟩ rfl ?_
      refine ev_iload i150_84 rfl ?_
      refine evn_if_eq (t := 110) i150_86 (by decide) (by omega) (fun z86 => ?_) (fun z86 => ?_)
      · refine ev_iconst (v := nI 1) i150_110 (by decide) ?_
        refine ev_goto (t := 115) i150_111 (by decide) ?_
        refine ev_istore (L' := [some (.ref 111), some (.int (nI q)), some (.int (nI m)), some (.int (bI u)), some (.int (nI v)), some (.int (nI b)), some (.int (nI a)), some (.int (nI c)), some (.int (nI (onN n sd kd s m c))), some (.int (nI 1))]) i150_115 ⟨Nat.le_of_ble_eq_true rfl, rfl⟩ rfl ?_
        refine ev_iload i150_117 rfl ?_
        refine evn_if_eq (t := 127) i150_119 (by decide) (by omega) (fun z119 => by exfalso; omega) (fun z119 => ?_)
        refine ev_iload i150_122 rfl ?_
        refine ev_goto (t := 129) i150_124 (by decide) ?_
        refine ev_istore (L' := [some (.ref 111), some (.int (nI q)), some (.int (nI m)), some (.int (bI u)), some (.int (nI v)), some (.int (nI c)), some (.int (nI a)), some (.int (nI c)), some (.int (nI (onN n sd kd s m c))), some (.int (nI 1))]) i150_129 ⟨Nat.le_of_ble_eq_true rfl, rfl⟩ rfl ?_
        refine ev_iload i150_131 rfl ?_
        refine evn_if_eq (t := 141) i150_133 (by decide) (by omega) (fun z133 => by exfalso; omega) (fun z133 => ?_)
        refine ev_iload i150_136 rfl ?_
        refine ev_goto (t := 143) i150_138 (by decide) ?_
        refine ev_istore (L' := [some (.ref 111), some (.int (nI q)), some (.int (nI m)), some (.int (bI u)), some (.int (nI v)), some (.int (nI c)), some (.int (nI (onN n sd kd s m c))), some (.int (nI c)), some (.int (nI (onN n sd kd s m c))), some (.int (nI 1))]) i150_143 ⟨Nat.le_of_ble_eq_true rfl, rfl⟩ rfl ?_
        refine evn_iinc (d := 1) (L' := [some (.ref 111), some (.int (nI q)), some (.int (nI m)), some (.int (bI u)), some (.int (nI v)), some (.int (nI c)), some (.int (nI (onN n sd kd s m c))), some (.int (nI (c + 1))), some (.int (nI (onN n sd kd s m c))), some (.int (nI 1))]) i150_145 rfl rfl (by decide) rfl ?_
        refine ev_goto (t := 47) i150_148 (by decide) ?_
        have e1 : gmF n sd kd s q m u c (b, a) = (c, (onN n sd kd s m c)) := by
          unfold gmF
          rw [if_pos z61]
          exact if_pos (Or.inl z86)
        have e2 : upto (gmF n sd kd s q m u) (d + 1) c (b, a) = upto (gmF n sd kd s q m u) d (c + 1) (gmF n sd kd s q m u c (b, a)) := rfl
        rw [e2, e1]
        exact lq150 b3 b4 b5 b6 hq hm hv d (c + 1) _ _ H4 g4 (by omega) hon8 (by omega) hC hL hOO _ _
      · refine ev_iload_n i150_89 rfl ?_
        refine evb_if_eq (t := 103) i150_90 (by decide) (fun z90 => ?_) (fun z90 => ?_)
        · refine ev_iload i150_103 rfl ?_
          refine ev_iload i150_105 rfl ?_
          refine evn_icmp_ge (t := 114) i150_107 (by decide) (by omega) (fun z107 => ?_) (fun z107 => ?_)
          · refine ev_iconst (v := nI 0) i150_114 (by decide) ?_
            refine ev_istore (L' := [some (.ref 111), some (.int (nI q)), some (.int (nI m)), some (.int (bI u)), some (.int (nI v)), some (.int (nI b)), some (.int (nI a)), some (.int (nI c)), some (.int (nI (onN n sd kd s m c))), some (.int (nI 0))]) i150_115 ⟨Nat.le_of_ble_eq_true rfl, rfl⟩ rfl ?_
            refine ev_iload i150_117 rfl ?_
            refine evn_if_eq (t := 127) i150_119 (by decide) (by omega) (fun z119 => ?_) (fun z119 => by exfalso; omega)
            refine ev_iload i150_127 rfl ?_
            refine ev_istore (L' := [some (.ref 111), some (.int (nI q)), some (.int (nI m)), some (.int (bI u)), some (.int (nI v)), some (.int (nI b)), some (.int (nI a)), some (.int (nI c)), some (.int (nI (onN n sd kd s m c))), some (.int (nI 0))]) i150_129 ⟨Nat.le_of_ble_eq_true rfl, rfl⟩ rfl ?_
            refine ev_iload i150_131 rfl ?_
            refine evn_if_eq (t := 141) i150_133 (by decide) (by omega) (fun z133 => ?_) (fun z133 => by exfalso; omega)
            refine ev_iload i150_141 rfl ?_
            refine ev_istore (L' := [some (.ref 111), some (.int (nI q)), some (.int (nI m)), some (.int (bI u)), some (.int (nI v)), some (.int (nI b)), some (.int (nI a)), some (.int (nI c)), some (.int (nI (onN n sd kd s m c))), some (.int (nI 0))]) i150_143 ⟨Nat.le_of_ble_eq_true rfl, rfl⟩ rfl ?_
            refine evn_iinc (d := 1) (L' := [some (.ref 111), some (.int (nI q)), some (.int (nI m)), some (.int (bI u)), some (.int (nI v)), some (.int (nI b)), some (.int (nI a)), some (.int (nI (c + 1))), some (.int (nI (onN n sd kd s m c))), some (.int (nI 0))]) i150_145 rfl rfl (by decide) rfl ?_
            refine ev_goto (t := 47) i150_148 (by decide) ?_
            have e1 : gmF n sd kd s q m u c (b, a) = (b, a) := by
              unfold gmF
              rw [if_pos z61]
              refine if_neg (fun h => ?_)
              simp only [z90, if_true, if_false, Bool.false_eq_true] at h
              omega
            have e2 : upto (gmF n sd kd s q m u) (d + 1) c (b, a) = upto (gmF n sd kd s q m u) d (c + 1) (gmF n sd kd s q m u c (b, a)) := rfl
            rw [e2, e1]
            exact lq150 b3 b4 b5 b6 hq hm hv d (c + 1) _ _ H4 g4 (by omega) ha8 (by omega) hC hL hOO _ _
          · refine ev_iconst (v := nI 1) i150_110 (by decide) ?_
            refine ev_goto (t := 115) i150_111 (by decide) ?_
            refine ev_istore (L' := [some (.ref 111), some (.int (nI q)), some (.int (nI m)), some (.int (bI u)), some (.int (nI v)), some (.int (nI b)), some (.int (nI a)), some (.int (nI c)), some (.int (nI (onN n sd kd s m c))), some (.int (nI 1))]) i150_115 ⟨Nat.le_of_ble_eq_true rfl, rfl⟩ rfl ?_
            refine ev_iload i150_117 rfl ?_
            refine evn_if_eq (t := 127) i150_119 (by decide) (by omega) (fun z119 => by exfalso; omega) (fun z119 => ?_)
            refine ev_iload i150_122 rfl ?_
            refine ev_goto (t := 129) i150_124 (by decide) ?_
            refine ev_istore (L' := [some (.ref 111), some (.int (nI q)), some (.int (nI m)), some (.int (bI u)), some (.int (nI v)), some (.int (nI c)), some (.int (nI a)), some (.int (nI c)), some (.int (nI (onN n sd kd s m c))), some (.int (nI 1))]) i150_129 ⟨Nat.le_of_ble_eq_true rfl, rfl⟩ rfl ?_
            refine ev_iload i150_131 rfl ?_
            refine evn_if_eq (t := 141) i150_133 (by decide) (by omega) (fun z133 => by exfalso; omega) (fun z133 => ?_)
            refine ev_iload i150_136 rfl ?_
            refine ev_goto (t := 143) i150_138 (by decide) ?_
            refine ev_istore (L' := [some (.ref 111), some (.int (nI q)), some (.int (nI m)), some (.int (bI u)), some (.int (nI v)), some (.int (nI c)), some (.int (nI (onN n sd kd s m c))), some (.int (nI c)), some (.int (nI (onN n sd kd s m c))), some (.int (nI 1))]) i150_143 ⟨Nat.le_of_ble_eq_true rfl, rfl⟩ rfl ?_
            refine evn_iinc (d := 1) (L' := [some (.ref 111), some (.int (nI q)), some (.int (nI m)), some (.int (bI u)), some (.int (nI v)), some (.int (nI c)), some (.int (nI (onN n sd kd s m c))), some (.int (nI (c + 1))), some (.int (nI (onN n sd kd s m c))), some (.int (nI 1))]) i150_145 rfl rfl (by decide) rfl ?_
            refine ev_goto (t := 47) i150_148 (by decide) ?_
            have e1 : gmF n sd kd s q m u c (b, a) = (c, (onN n sd kd s m c)) := by
              unfold gmF
              rw [if_pos z61]
              refine if_pos (Or.inr ?_)
              simp only [z90, if_true, if_false, Bool.false_eq_true]
              omega
            have e2 : upto (gmF n sd kd s q m u) (d + 1) c (b, a) = upto (gmF n sd kd s q m u) d (c + 1) (gmF n sd kd s q m u c (b, a)) := rfl
            rw [e2, e1]
            exact lq150 b3 b4 b5 b6 hq hm hv d (c + 1) _ _ H4 g4 (by omega) hon8 (by omega) hC hL hOO _ _
        · refine ev_iload i150_93 rfl ?_
          refine ev_iload i150_95 rfl ?_
          refine evn_icmp_le (t := 114) i150_97 (by decide) (by omega) (fun z97 => ?_) (fun z97 => ?_)
          · refine ev_iconst (v := nI 0) i150_114 (by decide) ?_
            refine ev_istore (L' := [some (.ref 111), some (.int (nI q)), some (.int (nI m)), some (.int (bI u)), some (.int (nI v)), some (.int (nI b)), some (.int (nI a)), some (.int (nI c)), some (.int (nI (onN n sd kd s m c))), some (.int (nI 0))]) i150_115 ⟨Nat.le_of_ble_eq_true rfl, rfl⟩ rfl ?_
            refine ev_iload i150_117 rfl ?_
            refine evn_if_eq (t := 127) i150_119 (by decide) (by omega) (fun z119 => ?_) (fun z119 => by exfalso; omega)
            refine ev_iload i150_127 rfl ?_
            refine ev_istore (L' := [some (.ref 111), some (.int (nI q)), some (.int (nI m)), some (.int (bI u)), some (.int (nI v)), some (.int (nI b)), some (.int (nI a)), some (.int (nI c)), some (.int (nI (onN n sd kd s m c))), some (.int (nI 0))]) i150_129 ⟨Nat.le_of_ble_eq_true rfl, rfl⟩ rfl ?_
            refine ev_iload i150_131 rfl ?_
            refine evn_if_eq (t := 141) i150_133 (by decide) (by omega) (fun z133 => ?_) (fun z133 => by exfalso; omega)
            refine ev_iload i150_141 rfl ?_
            refine ev_istore (L' := [some (.ref 111), some (.int (nI q)), some (.int (nI m)), some (.int (bI u)), some (.int (nI v)), some (.int (nI b)), some (.int (nI a)), some (.int (nI c)), some (.int (nI (onN n sd kd s m c))), some (.int (nI 0))]) i150_143 ⟨Nat.le_of_ble_eq_true rfl, rfl⟩ rfl ?_
            refine evn_iinc (d := 1) (L' := [some (.ref 111), some (.int (nI q)), some (.int (nI m)), some (.int (bI u)), some (.int (nI v)), some (.int (nI b)), some (.int (nI a)), some (.int (nI (c + 1))), some (.int (nI (onN n sd kd s m c))), some (.int (nI 0))]) i150_145 rfl rfl (by decide) rfl ?_
            refine ev_goto (t := 47) i150_148 (by decide) ?_
            have e1 : gmF n sd kd s q m u c (b, a) = (b, a) := by
              unfold gmF
              rw [if_pos z61]
              refine if_neg (fun h => ?_)
              simp only [z90, if_true, if_false, Bool.false_eq_true] at h
              omega
            have e2 : upto (gmF n sd kd s q m u) (d + 1) c (b, a) = upto (gmF n sd kd s q m u) d (c + 1) (gmF n sd kd s q m u c (b, a)) := rfl
            rw [e2, e1]
            exact lq150 b3 b4 b5 b6 hq hm hv d (c + 1) _ _ H4 g4 (by omega) ha8 (by omega) hC hL hOO _ _
          · refine ev_goto (t := 110) i150_100 (by decide) ?_
            refine ev_iconst (v := nI 1) i150_110 (by decide) ?_
            refine ev_goto (t := 115) i150_111 (by decide) ?_
            refine ev_istore (L' := [some (.ref 111), some (.int (nI q)), some (.int (nI m)), some (.int (bI u)), some (.int (nI v)), some (.int (nI b)), some (.int (nI a)), some (.int (nI c)), some (.int (nI (onN n sd kd s m c))), some (.int (nI 1))]) i150_115 ⟨Nat.le_of_ble_eq_true rfl, rfl⟩ rfl ?_
            refine ev_iload i150_117 rfl ?_
            refine evn_if_eq (t := 127) i150_119 (by decide) (by omega) (fun z119 => by exfalso; omega) (fun z119 => ?_)
            refine ev_iload i150_122 rfl ?_
            refine ev_goto (t := 129) i150_124 (by decide) ?_
            refine ev_istore (L' := [some (.ref 111), some (.int (nI q)), some (.int (nI m)), some (.int (bI u)), some (.int (nI v)), some (.int (nI c)), some (.int (nI a)), some (.int (nI c)), some (.int (nI (onN n sd kd s m c))), some (.int (nI 1))]) i150_129 ⟨Nat.le_of_ble_eq_true rfl, rfl⟩ rfl ?_
            refine ev_iload i150_131 rfl ?_
            refine evn_if_eq (t := 141) i150_133 (by decide) (by omega) (fun z133 => by exfalso; omega) (fun z133 => ?_)
            refine ev_iload i150_136 rfl ?_
            refine ev_goto (t := 143) i150_138 (by decide) ?_
            refine ev_istore (L' := [some (.ref 111), some (.int (nI q)), some (.int (nI m)), some (.int (bI u)), some (.int (nI v)), some (.int (nI c)), some (.int (nI (onN n sd kd s m c))), some (.int (nI c)), some (.int (nI (onN n sd kd s m c))), some (.int (nI 1))]) i150_143 ⟨Nat.le_of_ble_eq_true rfl, rfl⟩ rfl ?_
            refine evn_iinc (d := 1) (L' := [some (.ref 111), some (.int (nI q)), some (.int (nI m)), some (.int (bI u)), some (.int (nI v)), some (.int (nI c)), some (.int (nI (onN n sd kd s m c))), some (.int (nI (c + 1))), some (.int (nI (onN n sd kd s m c))), some (.int (nI 1))]) i150_145 rfl rfl (by decide) rfl ?_
            refine ev_goto (t := 47) i150_148 (by decide) ?_
            have e1 : gmF n sd kd s q m u c (b, a) = (c, (onN n sd kd s m c)) := by
              unfold gmF
              rw [if_pos z61]
              refine if_pos (Or.inr ?_)
              simp only [z90, if_true, if_false, Bool.false_eq_true]
              omega
            have e2 : upto (gmF n sd kd s q m u) (d + 1) c (b, a) = upto (gmF n sd kd s q m u) d (c + 1) (gmF n sd kd s q m u c (b, a)) := rfl
            rw [e2, e1]
            exact lq150 b3 b4 b5 b6 hq hm hv d (c + 1) _ _ H4 g4 (by omega) hon8 (by omega) hC hL hOO _ _
theorem y150 {tb : dxT} {H : dxH} {tx : Nat → Nat} {ln n : Nat} {sd kd : Nat → Nat} {s : Sn} {am : Nat} {stk : Nat → Sn} {kp : Nat → Bool} {ks : Nat → Sn} {tm : Nat} {tc th : Nat → Nat} {td : Nat → Bool} {sed : Int64} {q m v : Nat} {u : Bool} (hI : MInv H tx ln n sd kd s am stk kp ks tm tc th td sed) (hS : SpOK tx ln n sd kd s am stk kp ks tm tc th) (hq : q < 2) (hm1 : 1 ≤ m) (hm : m ≤ 8) (hv : v ≤ 2) : Cl tb 150 [.ref 111, .int (nI q), .int (nI m), .int (bI u), .int (nI v)] H (fun r H' => r = some (.int (grzI n sd kd s q m u v)) ∧ MInv H' tx ln n sd kd s am stk kp ks tm tc th td sed ∧ Off mC H H') := by
  obtain ⟨f, g, nx, ⟨hC, hL, e3, e6, e7, e8, hnx⟩, hR⟩ := id hI
  obtain ⟨⟨b1, b2⟩, b3, b4, b5, b6, b7, b8, b9, b10, b11⟩ := id hS
  obtain ⟨c0, ⟨ms, mk, c1, c2, c3, c4⟩, c5⟩ := id hC
  unfold mOb at c0
  unfold grzI
  rw [gz_mod b3 b6]
  show Ev tb 150 0 [some (.ref 111), some (.int (nI q)), some (.int (nI m)), some (.int (bI u)), some (.int (nI v)), none, none, none, none, none] [] H _
  refine ev_iload_n i150_0 rfl ?_
  refine ev_i2l i150_1 ?_
  refine ev_lconst (v := 0) i150_2 (by decide) ?_
  refine ev_lconst (v := 1) i150_3 (by decide) ?_
  refine ev_callS (vs := [.long ((nI q).toInt64), .long 0, .long 1]) (rest := []) i150_4 ci150 lk8_62 (Or.inl rfl) np117 (by decide +kernel) (Nat.le_of_ble_eq_true rfl) ⟨rfl, rfl, Nat.le_of_ble_eq_true rfl⟩ rfl (c117) (fun r HH hq => ?_)
  obtain ⟨rfl, rfl⟩ := hq
  rw [inJ_R (x := nI q) (m := 2) (by decide) (by decide), inR_n (by omega) (by decide), decide_eq_true hq]
  show Ev tb 150 7 [some (.ref 111), some (.int (nI q)), some (.int (nI m)), some (.int (bI u)), some (.int (nI v)), none, none, none, none, none] [.int (bI true)] H _
  refine evb_if_eq (t := 35) i150_7 (by decide) (fun z7 => by exfalso; cases z7) (fun z7 => ?_)
  refine ev_iload_n i150_10 rfl ?_
  refine ev_i2l i150_11 ?_
  refine ev_lconst (v := 1) i150_12 (by decide) ?_
  refine ev_ldc2 i150_13 ci150 ks8_138 ?_
  refine ev_callS (vs := [.long ((nI m).toInt64), .long 1, .long 8]) (rest := []) i150_16 ci150 lk8_62 (Or.inl rfl) np117 (by decide +kernel) (Nat.le_of_ble_eq_true rfl) ⟨rfl, rfl, Nat.le_of_ble_eq_true rfl⟩ rfl (c117) (fun r HH hq => ?_)
  obtain ⟨rfl, rfl⟩ := hq
  rw [inJ_M (x := (nI m)) (a := 1) (b := 8) (by decide) (by decide) (by decide) (by decide), show inM (nI m) 1 8 = true from ahd_n hm1 hm]
  show Ev tb 150 19 [some (.ref 111), some (.int (nI q)), some (.int (nI m)), some (.int (bI u)), some (.int (nI v)), none, none, none, none, none] [.int (bI true)] H _
  refine evb_if_eq (t := 35) i150_19 (by decide) (fun z19 => by exfalso; cases z19) (fun z19 => ?_)
  refine ev_iload i150_22 rfl ?_
  refine ev_i2l i150_24 ?_
  refine ev_lconst (v := 0) i150_25 (by decide) ?_
  refine ev_ldc2 i150_26 ci150 ks8_147 ?_
  refine ev_callS (vs := [.long ((nI v).toInt64), .long 0, .long 2]) (rest := []) i150_29 ci150 lk8_62 (Or.inl rfl) np117 (by decide +kernel) (Nat.le_of_ble_eq_true rfl) ⟨rfl, rfl, Nat.le_of_ble_eq_true rfl⟩ rfl (c117) (fun r HH hq => ?_)
  obtain ⟨rfl, rfl⟩ := hq
  rw [inJ_R (x := nI v) (m := 3) (by decide) (by decide), inR_n (by omega) (by decide), decide_eq_true (show v < 3 by omega)]
  show Ev tb 150 32 [some (.ref 111), some (.int (nI q)), some (.int (nI m)), some (.int (bI u)), some (.int (nI v)), none, none, none, none, none] [.int (bI true)] H _
  refine evb_if_ne (t := 38) i150_32 (by decide) (fun z32 => ?_) (fun z32 => by exfalso; cases z32)
  refine ev_iconst (v := nI 0) i150_38 (by decide) ?_
  refine ev_istore (L' := [some (.ref 111), some (.int (nI q)), some (.int (nI m)), some (.int (bI u)), some (.int (nI v)), some (.int (nI 0)), none, none, none, none]) i150_39 ⟨Nat.le_of_ble_eq_true rfl, rfl⟩ rfl ?_
  refine ev_iconst (v := nI 0) i150_41 (by decide) ?_
  refine ev_istore (L' := [some (.ref 111), some (.int (nI q)), some (.int (nI m)), some (.int (bI u)), some (.int (nI v)), some (.int (nI 0)), some (.int (nI 0)), none, none, none]) i150_42 ⟨Nat.le_of_ble_eq_true rfl, rfl⟩ rfl ?_
  refine ev_iconst (v := nI 0) i150_44 (by decide) ?_
  refine ev_istore (L' := [some (.ref 111), some (.int (nI q)), some (.int (nI m)), some (.int (bI u)), some (.int (nI v)), some (.int (nI 0)), some (.int (nI 0)), some (.int (nI 0)), none, none]) i150_45 ⟨Nat.le_of_ble_eq_true rfl, rfl⟩ rfl ?_
  refine (lq150 b3 b4 b5 b6 hq hm hv 61 0 0 0 H g (by omega) (by omega) (by omega) hC hL Off.rf _ _).post (fun r H' hq2 => ?_)
  obtain ⟨h1, g2, hC2, hL2, hO2⟩ := hq2
  exact ⟨h1, MInv.tr (H := H) hC2 hL2 ⟨e3, e6, e7, e8, hnx⟩ hR hO2⟩
theorem y150s {tb : dxT} {H : dxH} {tx : Nat → Nat} {ln n : Nat} {sd kd : Nat → Nat} {s : Sn} {am : Nat} {stk : Nat → Sn} {kp : Nat → Bool} {ks : Nat → Sn} {tm : Nat} {tc th : Nat → Nat} {td : Nat → Bool} {sed : Int64} {x y v : Int32} {u : Bool} (hI : MInv H tx ln n sd kd s am stk kp ks tm tc th td sed) (hS : SpOK tx ln n sd kd s am stk kp ks tm tc th) (h : inR y 2 = false) : Cl tb 150 [.ref 111, .int y, .int x, .int (bI u), .int v] H (fun r H' => r = some (.int (-2)) ∧ MInv H' tx ln n sd kd s am stk kp ks tm tc th td sed ∧ Off mC H H') := by
  obtain ⟨f, g, nx, ⟨hC, hL, e3, e6, e7, e8, hnx⟩, hR⟩ := id hI
  obtain ⟨⟨b1, b2⟩, b3, b4, b5, b6, b7, b8, b9, b10, b11⟩ := id hS
  obtain ⟨c0, ⟨ms, mk, c1, c2, c3, c4⟩, c5⟩ := id hC
  unfold mOb at c0
  show Ev tb 150 0 [some (.ref 111), some (.int y), some (.int x), some (.int (bI u)), some (.int v), none, none, none, none, none] [] H _
  refine ev_iload_n i150_0 rfl ?_
  refine ev_i2l i150_1 ?_
  refine ev_lconst (v := 0) i150_2 (by decide) ?_
  refine ev_lconst (v := 1) i150_3 (by decide) ?_
  refine ev_callS (vs := [.long y.toInt64, .long 0, .long 1]) (rest := []) i150_4 ci150 lk8_62 (Or.inl rfl) np117 (by decide +kernel) (Nat.le_of_ble_eq_true rfl) ⟨rfl, rfl, Nat.le_of_ble_eq_true rfl⟩ rfl (c117) (fun r HH hq => ?_)
  obtain ⟨rfl, rfl⟩ := hq
  rw [inJ_R (x := y) (m := 2) (by decide) (by decide), h]
  show Ev tb 150 7 [some (.ref 111), some (.int y), some (.int x), some (.int (bI u)), some (.int v), none, none, none, none, none] [.int (bI false)] H _
  refine evb_if_eq (t := 35) i150_7 (by decide) (fun z7 => ?_) (fun z7 => by exfalso; cases z7)
  refine ev_bipush (v := (-2)) i150_35 (by decide) ?_
  refine ev_iret i150_37 (by decide +kernel) ?_
  exact ⟨rfl, hI, Off.rf⟩
theorem y150f {tb : dxT} {H : dxH} {tx : Nat → Nat} {ln n : Nat} {sd kd : Nat → Nat} {s : Sn} {am : Nat} {stk : Nat → Sn} {kp : Nat → Bool} {ks : Nat → Sn} {tm : Nat} {tc th : Nat → Nat} {td : Nat → Bool} {sed : Int64} {q : Nat} {x v : Int32} {u : Bool} (hI : MInv H tx ln n sd kd s am stk kp ks tm tc th td sed) (hS : SpOK tx ln n sd kd s am stk kp ks tm tc th) (hq : q < 2) (h : ahdB x = false) : Cl tb 150 [.ref 111, .int (nI q), .int x, .int (bI u), .int v] H (fun r H' => r = some (.int (-2)) ∧ MInv H' tx ln n sd kd s am stk kp ks tm tc th td sed ∧ Off mC H H') := by
  obtain ⟨f, g, nx, ⟨hC, hL, e3, e6, e7, e8, hnx⟩, hR⟩ := id hI
  obtain ⟨⟨b1, b2⟩, b3, b4, b5, b6, b7, b8, b9, b10, b11⟩ := id hS
  obtain ⟨c0, ⟨ms, mk, c1, c2, c3, c4⟩, c5⟩ := id hC
  unfold mOb at c0
  show Ev tb 150 0 [some (.ref 111), some (.int (nI q)), some (.int x), some (.int (bI u)), some (.int v), none, none, none, none, none] [] H _
  refine ev_iload_n i150_0 rfl ?_
  refine ev_i2l i150_1 ?_
  refine ev_lconst (v := 0) i150_2 (by decide) ?_
  refine ev_lconst (v := 1) i150_3 (by decide) ?_
  refine ev_callS (vs := [.long ((nI q).toInt64), .long 0, .long 1]) (rest := []) i150_4 ci150 lk8_62 (Or.inl rfl) np117 (by decide +kernel) (Nat.le_of_ble_eq_true rfl) ⟨rfl, rfl, Nat.le_of_ble_eq_true rfl⟩ rfl (c117) (fun r HH hq => ?_)
  obtain ⟨rfl, rfl⟩ := hq
  rw [inJ_R (x := nI q) (m := 2) (by decide) (by decide), inR_n (by omega) (by decide), decide_eq_true hq]
  show Ev tb 150 7 [some (.ref 111), some (.int (nI q)), some (.int x), some (.int (bI u)), some (.int v), none, none, none, none, none] [.int (bI true)] H _
  refine evb_if_eq (t := 35) i150_7 (by decide) (fun z7 => by exfalso; cases z7) (fun z7 => ?_)
  refine ev_iload_n i150_10 rfl ?_
  refine ev_i2l i150_11 ?_
  refine ev_lconst (v := 1) i150_12 (by decide) ?_
  refine ev_ldc2 i150_13 ci150 ks8_138 ?_
  refine ev_callS (vs := [.long x.toInt64, .long 1, .long 8]) (rest := []) i150_16 ci150 lk8_62 (Or.inl rfl) np117 (by decide +kernel) (Nat.le_of_ble_eq_true rfl) ⟨rfl, rfl, Nat.le_of_ble_eq_true rfl⟩ rfl (c117) (fun r HH hq => ?_)
  obtain ⟨rfl, rfl⟩ := hq
  rw [inJ_M (x := x) (a := 1) (b := 8) (by decide) (by decide) (by decide) (by decide), show inM x 1 8 = false from h]
  show Ev tb 150 19 [some (.ref 111), some (.int (nI q)), some (.int x), some (.int (bI u)), some (.int v), none, none, none, none, none] [.int (bI false)] H _
  refine evb_if_eq (t := 35) i150_19 (by decide) (fun z19 => ?_) (fun z19 => by exfalso; cases z19)
  refine ev_bipush (v := (-2)) i150_35 (by decide) ?_
  refine ev_iret i150_37 (by decide +kernel) ?_
  exact ⟨rfl, hI, Off.rf⟩
theorem y150o {tb : dxT} {H : dxH} {tx : Nat → Nat} {ln n : Nat} {sd kd : Nat → Nat} {s : Sn} {am : Nat} {stk : Nat → Sn} {kp : Nat → Bool} {ks : Nat → Sn} {tm : Nat} {tc th : Nat → Nat} {td : Nat → Bool} {sed : Int64} {q m : Nat} {v : Int32} {u : Bool} (hI : MInv H tx ln n sd kd s am stk kp ks tm tc th td sed) (hS : SpOK tx ln n sd kd s am stk kp ks tm tc th) (hq : q < 2) (hm1 : 1 ≤ m) (hm : m ≤ 8) (h : inR v 3 = false) : Cl tb 150 [.ref 111, .int (nI q), .int (nI m), .int (bI u), .int v] H (fun r H' => r = some (.int (-2)) ∧ MInv H' tx ln n sd kd s am stk kp ks tm tc th td sed ∧ Off mC H H') := by
  obtain ⟨f, g, nx, ⟨hC, hL, e3, e6, e7, e8, hnx⟩, hR⟩ := id hI
  obtain ⟨⟨b1, b2⟩, b3, b4, b5, b6, b7, b8, b9, b10, b11⟩ := id hS
  obtain ⟨c0, ⟨ms, mk, c1, c2, c3, c4⟩, c5⟩ := id hC
  unfold mOb at c0
  show Ev tb 150 0 [some (.ref 111), some (.int (nI q)), some (.int (nI m)), some (.int (bI u)), some (.int v), none, none, none, none, none] [] H _
  refine ev_iload_n i150_0 rfl ?_
  refine ev_i2l i150_1 ?_
  refine ev_lconst (v := 0) i150_2 (by decide) ?_
  refine ev_lconst (v := 1) i150_3 (by decide) ?_
  refine ev_callS (vs := [.long ((nI q).toInt64), .long 0, .long 1]) (rest := []) i150_4 ci150 lk8_62 (Or.inl rfl) np117 (by decide +kernel) (Nat.le_of_ble_eq_true rfl) ⟨rfl, rfl, Nat.le_of_ble_eq_true rfl⟩ rfl (c117) (fun r HH hq => ?_)
  obtain ⟨rfl, rfl⟩ := hq
  rw [inJ_R (x := nI q) (m := 2) (by decide) (by decide), inR_n (by omega) (by decide), decide_eq_true hq]
  show Ev tb 150 7 [some (.ref 111), some (.int (nI q)), some (.int (nI m)), some (.int (bI u)), some (.int v), none, none, none, none, none] [.int (bI true)] H _
  refine evb_if_eq (t := 35) i150_7 (by decide) (fun z7 => by exfalso; cases z7) (fun z7 => ?_)
  refine ev_iload_n i150_10 rfl ?_
  refine ev_i2l i150_11 ?_
  refine ev_lconst (v := 1) i150_12 (by decide) ?_
  refine ev_ldc2 i150_13 ci150 ks8_138 ?_
  refine ev_callS (vs := [.long ((nI m).toInt64), .long 1, .long 8]) (rest := []) i150_16 ci150 lk8_62 (Or.inl rfl) np117 (by decide +kernel) (Nat.le_of_ble_eq_true rfl) ⟨rfl, rfl, Nat.le_of_ble_eq_true rfl⟩ rfl (c117) (fun r HH hq => ?_)
  obtain ⟨rfl, rfl⟩ := hq
  rw [inJ_M (x := (nI m)) (a := 1) (b := 8) (by decide) (by decide) (by decide) (by decide), show inM (nI m) 1 8 = true from ahd_n hm1 hm]
  show Ev tb 150 19 [some (.ref 111), some (.int (nI q)), some (.int (nI m)), some (.int (bI u)), some (.int v), none, none, none, none, none] [.int (bI true)] H _
  refine evb_if_eq (t := 35) i150_19 (by decide) (fun z19 => by exfalso; cases z19) (fun z19 => ?_)
  refine ev_iload i150_22 rfl ?_
  refine ev_i2l i150_24 ?_
  refine ev_lconst (v := 0) i150_25 (by decide) ?_
  refine ev_ldc2 i150_26 ci150 ks8_147 ?_
  refine ev_callS (vs := [.long v.toInt64, .long 0, .long 2]) (rest := []) i150_29 ci150 lk8_62 (Or.inl rfl) np117 (by decide +kernel) (Nat.le_of_ble_eq_true rfl) ⟨rfl, rfl, Nat.le_of_ble_eq_true rfl⟩ rfl (c117) (fun r HH hq => ?_)
  obtain ⟨rfl, rfl⟩ := hq
  rw [inJ_R (x := v) (m := 3) (by decide) (by decide), h]
  show Ev tb 150 32 [some (.ref 111), some (.int (nI q)), some (.int (nI m)), some (.int (bI u)), some (.int v), none, none, none, none, none] [.int (bI false)] H _
  refine evb_if_ne (t := 38) i150_32 (by decide) (fun z32 => by exfalso; cases z32) (fun z32 => ?_)
  refine ev_bipush (v := (-2)) i150_35 (by decide) ?_
  refine ev_iret i150_37 (by decide +kernel) ?_
  exact ⟨rfl, hI, Off.rf⟩
