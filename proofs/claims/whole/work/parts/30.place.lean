/-! the class's text read: the place of the fault  -/
def tbOK (tb : dxT) : Prop := tb 0 = (2, fun q => [0, 1].getD q 0) ∧ tb 1 = (2, fun q => [9, 9].getD q 0) ∧ tb 2 = (4, fun q => [0, 0, 0, 0].getD q 0) ∧ tb 3 = (4, fun q => [9, 1, 9, 3].getD q 0)
theorem fop_ok {tx : Nat → Nat} {ln : Nat} {g : Bool} {us p d i : Nat} (hln : ln ≤ 64) (hp : p < 100) (hi : i < 4) (h : fopL tx ln g us p (d + 1) i = -9) : p + 1 + i < ln ∧ okP tx g us p i = true ∧ fopL tx ln g us p d (i + 1) = -9 := by
  unfold fopL at h
  by_cases h1 : ln ≤ p + 1 + i
  · rw [if_pos h1] at h
    exact absurd h (m9_ne (by omega))
  · rw [if_neg h1] at h
    by_cases h2 : okP tx g us p i = true
    · rw [if_pos h2] at h
      exact ⟨by omega, h2, h⟩
    · rw [if_neg h2] at h
      exact absurd h (m9_ne (by omega))
theorem okP_in {tx : Nat → Nat} {g : Bool} {us p i : Nat} (h : okP tx g us p i = true) : 48 + plo g i ≤ tx (p + 1 + i) ∧ tx (p + 1 + i) ≤ 48 + phi g i := by
  unfold okP at h
  rw [Bool.and_eq_true] at h
  exact of_decide_eq_true h.1
theorem okP_dg {tx : Nat → Nat} {g : Bool} {us p i : Nat} (h : okP tx g us p i = true) : 48 ≤ tx (p + 1 + i) ∧ tx (p + 1 + i) ≤ 57 := by
  have h1 := okP_in h
  have h2 := phi_le (g := g) (i := i)
  omega
theorem okP_us {tx : Nat → Nat} {g : Bool} {us p : Nat} (h : okP tx g us p 0 = true) : us.testBit (tx (p + 1) - 48) = false := by
  unfold okP at h
  rw [Bool.and_eq_true] at h
  have h2 := h.2
  cases hb : us.testBit (tx (p + 1) - 48)
  · rfl
  · rw [show us.testBit (tx (p + 1 + 0) - 48) = true from hb] at h2
    exact absurd h2 (by decide)
theorem pop_le (a : Nat) : popN a ≤ 10 := by
  unfold popN
  have h := fun i => Bool.toNat_le (a.testBit i)
  have := h 0; have := h 1; have := h 2; have := h 3; have := h 4; have := h 5; have := h 6; have := h 7; have := h 8; have := h 9
  omega
theorem pop_or : ∀ f, f < 10 → ∀ a, a < 1024 → a.testBit f = false → popN (a ||| 2 ^ f) = popN a + 1 := by decide +kernel
theorem or0z (x : Int32) : x ||| nI 0 = x := Int32.or_zero
/-- the fault of the parts from p on: cells with clover told, cells with cows told -/
def fplL (tx : Nat → Nat) (ln : Nat) : Nat → Nat → Nat → Nat → Int32
  | 0, _, _, _ => -9
  | d + 1, gr, tk, p => if ln ≤ p then -9 else if tx p = 71 then (if gr = 1023 then nI p else if fopL tx ln true gr p (pln true) 0 = -9 then fplL tx ln d (gr ||| 2 ^ (tx (p + 1) - 48)) tk (p + 3) else fopL tx ln true gr p (pln true) 0) else if tx p = 75 then (if popN tk < 6 then (if fopL tx ln false tk p (pln false) 0 = -9 then fplL tx ln d gr (tk ||| 2 ^ (tx (p + 1) - 48)) (p + 5) else fopL tx ln false tk p (pln false) 0) else nI p) else nI p
def fplP (tx : Nat → Nat) (ln : Nat) : Int32 := if 0 < ln then (if tx 0 = 77 then fplL tx ln 64 0 0 1 else nI 0) else nI 0
theorem c55G {tb : dxT} {H : dxH} (hTb : tbOK tb) {tx : Nat → Nat} {ln : Nat} (hX : TxtAt H tx ln) (hln : ln ≤ 64) (htx : ∀ j, tx j < 256) {us p : Nat} (hus : us < 1024) (hp : p < 100) : Cl tb 55 [.ref 1, .int (nI p), .float (UInt32.ofNat 0), .float (UInt32.ofNat 1), .int (nI us)] H (Rt (.int (fopL tx ln true us p (pln true) 0)) H) := by
  refine c55 (g := true) (by decide) (by decide) hTb.1 hTb.2.1 (fun i hi => ?_) (fun i hi => ?_) hX hln htx hus hp
  · rcases (show i = 0 ∨ i = 1 by have : i < 2 := hi; omega) with rfl | rfl <;> decide
  · rcases (show i = 0 ∨ i = 1 by have : i < 2 := hi; omega) with rfl | rfl <;> decide
theorem c55K {tb : dxT} {H : dxH} (hTb : tbOK tb) {tx : Nat → Nat} {ln : Nat} (hX : TxtAt H tx ln) (hln : ln ≤ 64) (htx : ∀ j, tx j < 256) {us p : Nat} (hus : us < 1024) (hp : p < 100) : Cl tb 55 [.ref 1, .int (nI p), .float (UInt32.ofNat 2), .float (UInt32.ofNat 3), .int (nI us)] H (Rt (.int (fopL tx ln false us p (pln false) 0)) H) := by
  refine c55 (g := false) (by decide) (by decide) hTb.2.2.1 hTb.2.2.2 (fun i hi => ?_) (fun i hi => ?_) hX hln htx hus hp
  · rcases (show i = 0 ∨ i = 1 ∨ i = 2 ∨ i = 3 by have : i < 4 := hi; omega) with rfl | rfl | rfl | rfl <;> decide
  · rcases (show i = 0 ∨ i = 1 ∨ i = 2 ∨ i = 3 by have : i < 4 := hi; omega) with rfl | rfl | rfl | rfl <;> decide
theorem lq54 {tb : dxT} {H : dxH} (hTb : tbOK tb) {tx : Nat → Nat} {ln : Nat} (hX : TxtAt H tx ln) (hln : ln ≤ 64) (htx : ∀ j, tx j < 256) : ∀ (d k gr tk p : Nat), k + d = 64 → gr < 1024 → tk < 1024 → p ≤ 69 → ∀ w5 w6 w7, Ev tb 54 21 [some (.ref 1), some (.int (nI gr)), some (.int (nI tk)), some (.int (nI p)), some (.int (nI k)), w5, w6, w7] [] H (Rt (.int (fplL tx ln d gr tk p)) H)
  | 0, k, gr, tk, p, hk, hg, ht, hp, w5, w6, w7 => by
    obtain rfl : k = 64 := by omega
    refine ev_iload i54_21 rfl ?_
    refine ev_bipush (v := nI 64) i54_23 (by decide) ?_
    refine evn_icmp_ge (t := 191) i54_25 (by decide) (by omega) (fun z25 => ?_) (fun z25 => by exfalso; omega)
    refine ev_bipush (v := (-9)) i54_191 (by decide) ?_
    refine ev_iret i54_193 (by decide +kernel) ?_
    exact ⟨rfl, rfl⟩
  | d + 1, k, gr, tk, p, hk, hg, ht, hp, w5, w6, w7 => by
    have htp := htx p
    have hpo := pop_le tk
    obtain ⟨x0, x1⟩ := id hX
    refine ev_iload i54_21 rfl ?_
    refine ev_bipush (v := nI 64) i54_23 (by decide) ?_
    refine evn_icmp_ge (t := 191) i54_25 (by decide) (by omega) (fun z25 => by exfalso; omega) (fun z25 => ?_)
    refine ev_iload_n i54_28 rfl ?_
    refine ev_aload_n i54_29 rfl ?_
    refine ev_get i54_30 ci54 fl4_15 (by assumption) rfl ?_
    refine evn_icmp_ge (t := 191) i54_33 (by decide) (by omega) (fun z33 => ?_) (fun z33 => ?_)
    · refine ev_bipush (v := (-9)) i54_191 (by decide) ?_
      refine ev_iret i54_193 (by decide +kernel) ?_
      unfold fplL
      rw [if_pos (by omega)]
      exact ⟨rfl, rfl⟩
    · refine ev_aload_n i54_36 rfl ?_
      refine ev_iload_n i54_37 rfl ?_
      refine ev_callV (vs := [.int (nI p)]) (rest := []) i54_38 ci54 lk4_19 (congrArg (fun q => q + 1) np52) ci52 (by decide) (by decide +kernel) (Nat.le_of_ble_eq_true rfl) ⟨rfl, rfl, Nat.le_of_ble_eq_true rfl⟩ rfl (by assumption) (c52t hX hln (by omega)) (fun r HH hq => ?_)
      obtain ⟨rfl, rfl⟩ := hq
      show Ev tb 54 41 [some (.ref 1), some (.int (nI gr)), some (.int (nI tk)), some (.int (nI p)), some (.int (nI k)), w5, w6, w7] [.int (nI (tx p))] H _
      refine ev_bipush (v := nI 71) i54_41 (by decide) ?_
      refine evn_icmp_ne (t := 50) i54_43 (by decide) (by omega) (fun z43 => ?_) (fun z43 => ?_)
      · refine ev_iconst (v := nI 0) i54_50 (by decide) ?_
        refine ev_istore (L' := [some (.ref 1), some (.int (nI gr)), some (.int (nI tk)), some (.int (nI p)), some (.int (nI k)), some (.int (nI 0)), w6, w7]) i54_51 ⟨Nat.le_of_ble_eq_true rfl, rfl⟩ rfl ?_
        refine ev_iload i54_53 rfl ?_
        refine evn_if_eq (t := 68) i54_55 (by decide) (by omega) (fun z55 => ?_) (fun z55 => by exfalso; omega)
        refine ev_aload_n i54_68 rfl ?_
        refine ev_iload_n i54_69 rfl ?_
        refine ev_callV (vs := [.int (nI p)]) (rest := []) i54_70 ci54 lk4_19 (congrArg (fun q => q + 1) np52) ci52 (by decide) (by decide +kernel) (Nat.le_of_ble_eq_true rfl) ⟨rfl, rfl, Nat.le_of_ble_eq_true rfl⟩ rfl (by assumption) (c52t hX hln (by omega)) (fun r HH hq => ?_)
        obtain ⟨rfl, rfl⟩ := hq
        show Ev tb 54 73 [some (.ref 1), some (.int (nI gr)), some (.int (nI tk)), some (.int (nI p)), some (.int (nI k)), some (.int (nI 0)), w6, w7] [.int (nI (tx p))] H _
        refine ev_bipush (v := nI 75) i54_73 (by decide) ?_
        refine evn_icmp_ne (t := 87) i54_75 (by decide) (by omega) (fun z75 => ?_) (fun z75 => ?_)
        · refine ev_iload_n i54_87 rfl ?_
          refine ev_iret i54_88 (by decide +kernel) ?_
          unfold fplL
          rw [if_neg (by omega)]
          rw [if_neg z43]
          rw [if_neg z75]
          exact ⟨rfl, rfl⟩
        · refine ev_iload_n i54_78 rfl ?_
          refine ev_callS (vs := [.int (nI tk)]) (rest := []) i54_79 ci54 lk4_23 (Or.inl rfl) np172 (by decide +kernel) (Nat.le_of_ble_eq_true rfl) ⟨rfl, rfl, Nat.le_of_ble_eq_true rfl⟩ rfl (c172 ht) (fun r HH hq => ?_)
          obtain ⟨rfl, rfl⟩ := hq
          show Ev tb 54 82 [some (.ref 1), some (.int (nI gr)), some (.int (nI tk)), some (.int (nI p)), some (.int (nI k)), some (.int (nI 0)), w6, w7] [.int (nI (popN tk))] H _
          refine ev_bipush (v := nI 6) i54_82 (by decide) ?_
          refine evn_icmp_lt (t := 89) i54_84 (by decide) (by omega) (fun z84 => ?_) (fun z84 => ?_)
          · refine ev_iload i54_89 rfl ?_
            refine evn_if_eq (t := 109) i54_91 (by decide) (by omega) (fun z91 => ?_) (fun z91 => by exfalso; omega)
            refine ev_aload_n i54_109 rfl ?_
            refine ev_iload_n i54_110 rfl ?_
            refine ev_gets i54_111 ci54 st4_38 ?_
            refine ev_gets i54_114 ci54 st4_41 ?_
            refine ev_iload_n i54_117 rfl ?_
            refine ev_callV (vs := [.int (nI p), .float (UInt32.ofNat 2), .float (UInt32.ofNat 3), .int (nI tk)]) (rest := []) i54_118 ci54 lk4_34 (congrArg (fun q => q + 1) np55) ci55 (by decide) (by decide +kernel) (Nat.le_of_ble_eq_true rfl) ⟨rfl, rfl, Nat.le_of_ble_eq_true rfl⟩ rfl (by assumption) (c55K hTb hX hln htx ht (by omega)) (fun r HH hq => ?_)
            obtain ⟨rfl, rfl⟩ := hq
            show Ev tb 54 121 [some (.ref 1), some (.int (nI gr)), some (.int (nI tk)), some (.int (nI p)), some (.int (nI k)), some (.int (nI 0)), w6, w7] [.int (fopL tx ln false tk p (pln false) 0)] H _
            refine ev_istore (L' := [some (.ref 1), some (.int (nI gr)), some (.int (nI tk)), some (.int (nI p)), some (.int (nI k)), some (.int (nI 0)), some (.int (fopL tx ln false tk p (pln false) 0)), w7]) i54_121 ⟨Nat.le_of_ble_eq_true rfl, rfl⟩ rfl ?_
            refine ev_iload i54_123 rfl ?_
            refine ev_bipush (v := (-9)) i54_125 (by decide) ?_
            refine ev_icmp_eq (t := 133) i54_127 (by decide) (fun z127 => ?_) (fun z127 => ?_)
            · obtain ⟨hq1, hq2, _⟩ := fop_ok (d := 3) (i := 0) hln (by omega) (by decide) z127
              have hq3 : 48 ≤ tx (p + 1) ∧ tx (p + 1) ≤ 57 := okP_dg hq2
              refine ev_iconst (v := nI 1) i54_133 (by decide) ?_
              refine ev_aload_n i54_134 rfl ?_
              refine ev_iload_n i54_135 rfl ?_
              refine ev_iconst (v := nI 1) i54_136 (by decide) ?_
              refine evn_iadd i54_137 ?_
              refine ev_callV (vs := [.int (nI (p + 1))]) (rest := [.int (nI 1)]) i54_138 ci54 lk4_44 (congrArg (fun q => q + 1) np53) ci53 (by decide) (by decide +kernel) (Nat.le_of_ble_eq_true rfl) ⟨rfl, rfl, Nat.le_of_ble_eq_true rfl⟩ rfl (by assumption) (c53t hX hln htx (by omega) hq3.1 hq3.2) (fun r HH hq => ?_)
              obtain ⟨rfl, rfl⟩ := hq
              show Ev tb 54 141 [some (.ref 1), some (.int (nI gr)), some (.int (nI tk)), some (.int (nI p)), some (.int (nI k)), some (.int (nI 0)), some (.int (fopL tx ln false tk p (pln false) 0)), w7] [.int (nI (tx (p + 1) - 48)), .int (nI 1)] H _
              refine ev_ishl i54_141 ?_
              refine ev_istore (L' := [some (.ref 1), some (.int (nI gr)), some (.int (nI tk)), some (.int (nI p)), some (.int (nI k)), some (.int (nI 0)), some (.int (fopL tx ln false tk p (pln false) 0)), some (.int ((nI 1) <<< ((nI (tx (p + 1) - 48)) &&& 31)))]) i54_142 ⟨Nat.le_of_ble_eq_true rfl, rfl⟩ rfl ?_
              refine ev_iload_n i54_144 rfl ?_
              refine ev_iload i54_145 rfl ?_
              refine evn_if_eq (t := 155) i54_147 (by decide) (by omega) (fun z147 => ?_) (fun z147 => by exfalso; omega)
              refine ev_iconst (v := nI 0) i54_155 (by decide) ?_
              refine ev_ior i54_156 ?_
              rw [or0z (nI gr)]
              refine ev_istore_n (L' := [some (.ref 1), some (.int (nI gr)), some (.int (nI tk)), some (.int (nI p)), some (.int (nI k)), some (.int (nI 0)), some (.int (fopL tx ln false tk p (pln false) 0)), some (.int ((nI 1) <<< ((nI (tx (p + 1) - 48)) &&& 31)))]) i54_157 ⟨Nat.le_of_ble_eq_true rfl, rfl⟩ rfl ?_
              refine ev_iload_n i54_158 rfl ?_
              refine ev_iload i54_159 rfl ?_
              refine evn_if_eq (t := 168) i54_161 (by decide) (by omega) (fun z161 => ?_) (fun z161 => by exfalso; omega)
              refine ev_iload i54_168 rfl ?_
              refine ev_ior i54_170 ?_
              rw [or10 tk ht (tx (p + 1) - 48) (by omega)]
              refine ev_istore_n (L' := [some (.ref 1), some (.int (nI gr)), some (.int (nI (tk ||| 2 ^ (tx (p + 1) - 48)))), some (.int (nI p)), some (.int (nI k)), some (.int (nI 0)), some (.int (fopL tx ln false tk p (pln false) 0)), some (.int ((nI 1) <<< ((nI (tx (p + 1) - 48)) &&& 31)))]) i54_171 ⟨Nat.le_of_ble_eq_true rfl, rfl⟩ rfl ?_
              refine ev_iload_n i54_172 rfl ?_
              refine ev_iload i54_173 rfl ?_
              refine evn_if_eq (t := 182) i54_175 (by decide) (by omega) (fun z175 => ?_) (fun z175 => by exfalso; omega)
              refine ev_iconst (v := nI 5) i54_182 (by decide) ?_
              refine evn_iadd i54_183 ?_
              refine ev_istore_n (L' := [some (.ref 1), some (.int (nI gr)), some (.int (nI (tk ||| 2 ^ (tx (p + 1) - 48)))), some (.int (nI (p + 5))), some (.int (nI k)), some (.int (nI 0)), some (.int (fopL tx ln false tk p (pln false) 0)), some (.int ((nI 1) <<< ((nI (tx (p + 1) - 48)) &&& 31)))]) i54_184 ⟨Nat.le_of_ble_eq_true rfl, rfl⟩ rfl ?_
              refine evn_iinc (d := 1) (L' := [some (.ref 1), some (.int (nI gr)), some (.int (nI (tk ||| 2 ^ (tx (p + 1) - 48)))), some (.int (nI (p + 5))), some (.int (nI (k + 1))), some (.int (nI 0)), some (.int (fopL tx ln false tk p (pln false) 0)), some (.int ((nI 1) <<< ((nI (tx (p + 1) - 48)) &&& 31)))]) i54_185 rfl rfl (by decide) rfl ?_
              refine ev_goto (t := 21) i54_188 (by decide) ?_
              unfold fplL
              rw [if_neg (by omega), if_neg z43, if_pos z75, if_pos (by omega), if_pos z127]
              exact lq54 hTb hX hln htx d (k + 1) _ _ _ (by omega) hg (or10_lt (m := 10) ht (by omega)) (by omega) _ _ _
            · refine ev_iload i54_130 rfl ?_
              refine ev_iret i54_132 (by decide +kernel) ?_
              unfold fplL
              rw [if_neg (by omega)]
              rw [if_neg z43]
              rw [if_pos z75]
              rw [if_pos (by omega), if_neg z127]
              exact ⟨rfl, rfl⟩
          · refine ev_iload_n i54_87 rfl ?_
            refine ev_iret i54_88 (by decide +kernel) ?_
            unfold fplL
            rw [if_neg (by omega)]
            rw [if_neg z43]
            rw [if_pos z75]
            rw [if_neg (by omega)]
            exact ⟨rfl, rfl⟩
      · refine ev_iconst (v := nI 1) i54_46 (by decide) ?_
        refine ev_goto (t := 51) i54_47 (by decide) ?_
        refine ev_istore (L' := [some (.ref 1), some (.int (nI gr)), some (.int (nI tk)), some (.int (nI p)), some (.int (nI k)), some (.int (nI 1)), w6, w7]) i54_51 ⟨Nat.le_of_ble_eq_true rfl, rfl⟩ rfl ?_
        refine ev_iload i54_53 rfl ?_
        refine evn_if_eq (t := 68) i54_55 (by decide) (by omega) (fun z55 => by exfalso; omega) (fun z55 => ?_)
        refine ev_iload_n i54_58 rfl ?_
        refine ev_sipush (v := nI 1023) i54_59 (by decide) ?_
        refine evn_icmp_ne (t := 89) i54_62 (by decide) (by omega) (fun z62 => ?_) (fun z62 => ?_)
        · refine ev_iload i54_89 rfl ?_
          refine evn_if_eq (t := 109) i54_91 (by decide) (by omega) (fun z91 => by exfalso; omega) (fun z91 => ?_)
          refine ev_aload_n i54_94 rfl ?_
          refine ev_iload_n i54_95 rfl ?_
          refine ev_gets i54_96 ci54 st4_28 ?_
          refine ev_gets i54_99 ci54 st4_31 ?_
          refine ev_iload_n i54_102 rfl ?_
          refine ev_callV (vs := [.int (nI p), .float (UInt32.ofNat 0), .float (UInt32.ofNat 1), .int (nI gr)]) (rest := []) i54_103 ci54 lk4_34 (congrArg (fun q => q + 1) np55) ci55 (by decide) (by decide +kernel) (Nat.le_of_ble_eq_true rfl) ⟨rfl, rfl, Nat.le_of_ble_eq_true rfl⟩ rfl (by assumption) (c55G hTb hX hln htx hg (by omega)) (fun r HH hq => ?_)
          obtain ⟨rfl, rfl⟩ := hq
          show Ev tb 54 106 [some (.ref 1), some (.int (nI gr)), some (.int (nI tk)), some (.int (nI p)), some (.int (nI k)), some (.int (nI 1)), w6, w7] [.int (fopL tx ln true gr p (pln true) 0)] H _
          refine ev_goto (t := 121) i54_106 (by decide) ?_
          refine ev_istore (L' := [some (.ref 1), some (.int (nI gr)), some (.int (nI tk)), some (.int (nI p)), some (.int (nI k)), some (.int (nI 1)), some (.int (fopL tx ln true gr p (pln true) 0)), w7]) i54_121 ⟨Nat.le_of_ble_eq_true rfl, rfl⟩ rfl ?_
          refine ev_iload i54_123 rfl ?_
          refine ev_bipush (v := (-9)) i54_125 (by decide) ?_
          refine ev_icmp_eq (t := 133) i54_127 (by decide) (fun z127 => ?_) (fun z127 => ?_)
          · obtain ⟨hq1, hq2, _⟩ := fop_ok (d := 1) (i := 0) hln (by omega) (by decide) z127
            have hq3 : 48 ≤ tx (p + 1) ∧ tx (p + 1) ≤ 57 := okP_dg hq2
            refine ev_iconst (v := nI 1) i54_133 (by decide) ?_
            refine ev_aload_n i54_134 rfl ?_
            refine ev_iload_n i54_135 rfl ?_
            refine ev_iconst (v := nI 1) i54_136 (by decide) ?_
            refine evn_iadd i54_137 ?_
            refine ev_callV (vs := [.int (nI (p + 1))]) (rest := [.int (nI 1)]) i54_138 ci54 lk4_44 (congrArg (fun q => q + 1) np53) ci53 (by decide) (by decide +kernel) (Nat.le_of_ble_eq_true rfl) ⟨rfl, rfl, Nat.le_of_ble_eq_true rfl⟩ rfl (by assumption) (c53t hX hln htx (by omega) hq3.1 hq3.2) (fun r HH hq => ?_)
            obtain ⟨rfl, rfl⟩ := hq
            show Ev tb 54 141 [some (.ref 1), some (.int (nI gr)), some (.int (nI tk)), some (.int (nI p)), some (.int (nI k)), some (.int (nI 1)), some (.int (fopL tx ln true gr p (pln true) 0)), w7] [.int (nI (tx (p + 1) - 48)), .int (nI 1)] H _
            refine ev_ishl i54_141 ?_
            refine ev_istore (L' := [some (.ref 1), some (.int (nI gr)), some (.int (nI tk)), some (.int (nI p)), some (.int (nI k)), some (.int (nI 1)), some (.int (fopL tx ln true gr p (pln true) 0)), some (.int ((nI 1) <<< ((nI (tx (p + 1) - 48)) &&& 31)))]) i54_142 ⟨Nat.le_of_ble_eq_true rfl, rfl⟩ rfl ?_
            refine ev_iload_n i54_144 rfl ?_
            refine ev_iload i54_145 rfl ?_
            refine evn_if_eq (t := 155) i54_147 (by decide) (by omega) (fun z147 => by exfalso; omega) (fun z147 => ?_)
            refine ev_iload i54_150 rfl ?_
            refine ev_goto (t := 156) i54_152 (by decide) ?_
            refine ev_ior i54_156 ?_
            rw [or10 gr hg (tx (p + 1) - 48) (by omega)]
            refine ev_istore_n (L' := [some (.ref 1), some (.int (nI (gr ||| 2 ^ (tx (p + 1) - 48)))), some (.int (nI tk)), some (.int (nI p)), some (.int (nI k)), some (.int (nI 1)), some (.int (fopL tx ln true gr p (pln true) 0)), some (.int ((nI 1) <<< ((nI (tx (p + 1) - 48)) &&& 31)))]) i54_157 ⟨Nat.le_of_ble_eq_true rfl, rfl⟩ rfl ?_
            refine ev_iload_n i54_158 rfl ?_
            refine ev_iload i54_159 rfl ?_
            refine evn_if_eq (t := 168) i54_161 (by decide) (by omega) (fun z161 => by exfalso; omega) (fun z161 => ?_)
            refine ev_iconst (v := nI 0) i54_164 (by decide) ?_
            refine ev_goto (t := 170) i54_165 (by decide) ?_
            refine ev_ior i54_170 ?_
            rw [or0z (nI tk)]
            refine ev_istore_n (L' := [some (.ref 1), some (.int (nI (gr ||| 2 ^ (tx (p + 1) - 48)))), some (.int (nI tk)), some (.int (nI p)), some (.int (nI k)), some (.int (nI 1)), some (.int (fopL tx ln true gr p (pln true) 0)), some (.int ((nI 1) <<< ((nI (tx (p + 1) - 48)) &&& 31)))]) i54_171 ⟨Nat.le_of_ble_eq_true rfl, rfl⟩ rfl ?_
            refine ev_iload_n i54_172 rfl ?_
            refine ev_iload i54_173 rfl ?_
            refine evn_if_eq (t := 182) i54_175 (by decide) (by omega) (fun z175 => by exfalso; omega) (fun z175 => ?_)
            refine ev_iconst (v := nI 3) i54_178 (by decide) ?_
            refine ev_goto (t := 183) i54_179 (by decide) ?_
            refine evn_iadd i54_183 ?_
            refine ev_istore_n (L' := [some (.ref 1), some (.int (nI (gr ||| 2 ^ (tx (p + 1) - 48)))), some (.int (nI tk)), some (.int (nI (p + 3))), some (.int (nI k)), some (.int (nI 1)), some (.int (fopL tx ln true gr p (pln true) 0)), some (.int ((nI 1) <<< ((nI (tx (p + 1) - 48)) &&& 31)))]) i54_184 ⟨Nat.le_of_ble_eq_true rfl, rfl⟩ rfl ?_
            refine evn_iinc (d := 1) (L' := [some (.ref 1), some (.int (nI (gr ||| 2 ^ (tx (p + 1) - 48)))), some (.int (nI tk)), some (.int (nI (p + 3))), some (.int (nI (k + 1))), some (.int (nI 1)), some (.int (fopL tx ln true gr p (pln true) 0)), some (.int ((nI 1) <<< ((nI (tx (p + 1) - 48)) &&& 31)))]) i54_185 rfl rfl (by decide) rfl ?_
            refine ev_goto (t := 21) i54_188 (by decide) ?_
            unfold fplL
            rw [if_neg (by omega), if_pos z43, if_neg z62, if_pos z127]
            exact lq54 hTb hX hln htx d (k + 1) _ _ _ (by omega) (or10_lt (m := 10) hg (by omega)) ht (by omega) _ _ _
          · refine ev_iload i54_130 rfl ?_
            refine ev_iret i54_132 (by decide +kernel) ?_
            unfold fplL
            rw [if_neg (by omega)]
            rw [if_pos z43]
            rw [if_neg z62, if_neg z127]
            exact ⟨rfl, rfl⟩
        · refine ev_goto (t := 87) i54_65 (by decide) ?_
          refine ev_iload_n i54_87 rfl ?_
          refine ev_iret i54_88 (by decide +kernel) ?_
          unfold fplL
          rw [if_neg (by omega)]
          rw [if_pos z43]
          rw [if_pos z62]
          exact ⟨rfl, rfl⟩
theorem c54 {tb : dxT} {H : dxH} (hTb : tbOK tb) {tx : Nat → Nat} {ln : Nat} (hX : TxtAt H tx ln) (hln : ln ≤ 64) (htx : ∀ j, tx j < 256) : Cl tb 54 [.ref 1] H (Rt (.int (fplP tx ln)) H) := by
  have ht0 := htx 0
  obtain ⟨x0, x1⟩ := id hX
  unfold fplP
  by_cases h0 : 0 < ln
  · rw [if_pos h0]
    show Ev tb 54 0 [some (.ref 1), none, none, none, none, none, none, none] [] H _
    refine ev_aload_n i54_0 rfl ?_
    refine ev_iconst (v := nI 0) i54_1 (by decide) ?_
    refine ev_callV (vs := [.int (nI 0)]) (rest := []) i54_2 ci54 lk4_19 (congrArg (fun q => q + 1) np52) ci52 (by decide) (by decide +kernel) (Nat.le_of_ble_eq_true rfl) ⟨rfl, rfl, Nat.le_of_ble_eq_true rfl⟩ rfl (by assumption) (c52t hX hln h0) (fun r HH hq => ?_)
    obtain ⟨rfl, rfl⟩ := hq
    show Ev tb 54 5 [some (.ref 1), none, none, none, none, none, none, none] [.int (nI (tx 0))] H _
    refine ev_bipush (v := nI 77) i54_5 (by decide) ?_
    refine evn_icmp_eq (t := 12) i54_7 (by decide) (by omega) (fun z7 => ?_) (fun z7 => ?_)
    · refine ev_iconst (v := nI 0) i54_12 (by decide) ?_
      refine ev_istore_n (L' := [some (.ref 1), some (.int (nI 0)), none, none, none, none, none, none]) i54_13 ⟨Nat.le_of_ble_eq_true rfl, rfl⟩ rfl ?_
      refine ev_iconst (v := nI 0) i54_14 (by decide) ?_
      refine ev_istore_n (L' := [some (.ref 1), some (.int (nI 0)), some (.int (nI 0)), none, none, none, none, none]) i54_15 ⟨Nat.le_of_ble_eq_true rfl, rfl⟩ rfl ?_
      refine ev_iconst (v := nI 1) i54_16 (by decide) ?_
      refine ev_istore_n (L' := [some (.ref 1), some (.int (nI 0)), some (.int (nI 0)), some (.int (nI 1)), none, none, none, none]) i54_17 ⟨Nat.le_of_ble_eq_true rfl, rfl⟩ rfl ?_
      refine ev_iconst (v := nI 0) i54_18 (by decide) ?_
      refine ev_istore (L' := [some (.ref 1), some (.int (nI 0)), some (.int (nI 0)), some (.int (nI 1)), some (.int (nI 0)), none, none, none]) i54_19 ⟨Nat.le_of_ble_eq_true rfl, rfl⟩ rfl ?_
      rw [if_pos (by omega)]
      exact lq54 hTb hX hln htx 64 0 0 0 1 rfl (by omega) (by omega) (by omega) _ _ _
    · refine ev_iconst (v := nI 0) i54_10 (by decide) ?_
      refine ev_iret i54_11 (by decide +kernel) ?_
      rw [if_neg (by omega)]
      exact ⟨rfl, rfl⟩
  · rw [if_neg h0]
    show Ev tb 54 0 [some (.ref 1), none, none, none, none, none, none, none] [] H _
    refine ev_aload_n i54_0 rfl ?_
    refine ev_iconst (v := nI 0) i54_1 (by decide) ?_
    refine ev_callV (vs := [.int (nI 0)]) (rest := []) i54_2 ci54 lk4_19 (congrArg (fun q => q + 1) np52) ci52 (by decide) (by decide +kernel) (Nat.le_of_ble_eq_true rfl) ⟨rfl, rfl, Nat.le_of_ble_eq_true rfl⟩ rfl (by assumption) (c52f hX hln (by omega) h0) (fun r HH hq => ?_)
    obtain ⟨rfl, rfl⟩ := hq
    show Ev tb 54 5 [some (.ref 1), none, none, none, none, none, none, none] [.int (-9)] H _
    refine ev_bipush (v := nI 77) i54_5 (by decide) ?_
    refine ev_icmp_eq (t := 12) i54_7 (by decide) (fun z7 => by exfalso; exact absurd z7 (by decide)) (fun z7 => ?_)
    refine ev_iconst (v := nI 0) i54_10 (by decide) ?_
    refine ev_iret i54_11 (by decide +kernel) ?_
    exact ⟨rfl, rfl⟩
