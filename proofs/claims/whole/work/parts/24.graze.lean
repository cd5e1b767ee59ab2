/-! the class's calls: choices, grazing  -/
def chs (n : Nat) (sd : Nat → Nat) (s : Sn) (q : Nat) : List Nat := upto (chF (HE n) sd s.1 q) 6 0 [0]
def allC (n : Nat) (l : List Nat) : Prop := ∀ c, c ∈ l → okC n c
theorem addC_all {n c : Nat} {l : List Nat} (h : allC n l) (hc : okC n c) : allC n (addC l c) := by
  unfold addC
  split
  · intro z hz
    rcases List.mem_append.mp hz with q | q
    · exact h z q
    · rcases List.mem_singleton.mp q with rfl
      exact hc
  · exact h
theorem chs_all {n : Nat} {sd : Nat → Nat} {s : Sn} {q : Nat} (hn : n ≤ 6) : allC n (chs n sd s q) := by
  refine upto_inv (N := 6) (P := allC n) (fun k l hk hl => ?_) 6 0 [0] (by decide) (fun c hc => by rcases List.mem_singleton.mp hc with rfl; exact Or.inl rfl)
  unfold chF
  split
  · rename_i hcond
    have hkn : k < n := by
      rw [HE_bit, Bool.and_eq_true] at hcond
      exact of_decide_eq_true hcond.1
    refine upto_inv (N := 10) (P := allC n) (fun c l hc hl => ?_) 10 0 l (by decide) hl
    unfold mvF
    split
    · exact hl
    · refine addC_all hl (Or.inr ⟨by omega, by omega, ?_⟩)
      rw [show 10 * k + c + 1 - 1 = 10 * k + c by omega]
      omega
  · exact hl
theorem getD_mem {l : List Nat} {i : Nat} (h : i < l.length) : l.getD i 0 ∈ l := by
  rw [List.getD_eq_getElem?_getD, List.getElem?_eq_getElem h]
  exact List.getElem_mem h
def onN (n : Nat) (sd kd : Nat → Nat) (s : Sn) (m c : Nat) : Nat := cntL (HE n) sd kd (mvC s.1 c) s.2.1 0 m s.2.2
theorem hon0 {n : Nat} {sd kd : Nat → Nat} {s : Sn} {m c : Nat} : honI n sd kd s c 0 m = nI (onN n sd kd s m c) := by
  unfold honI
  rw [if_neg (by simp [toB])]
  rfl
theorem onN_le {n : Nat} {sd kd : Nat → Nat} {s : Sn} {m c : Nat} : onN n sd kd s m c ≤ m := cntL_le
def gzS (n : Nat) (sd kd : Nat → Nat) (s : Sn) (m : Nat) (u : Bool) (p : Nat × Nat) (c : Nat) : Nat × Nat := if (if u = true then p.2 < onN n sd kd s m c else onN n sd kd s m c < p.2) then (c, onN n sd kd s m c) else p
def gzL (n : Nat) (sd kd : Nat → Nat) (s : Sn) (m : Nat) (u : Bool) (l : List Nat) : Nat → Nat → Nat × Nat → Nat × Nat
  | 0, _, p => p
  | d + 1, i, p => gzL n sd kd s m u l d (i + 1) (gzS n sd kd s m u p (l.getD i 0))
def gzA (p : Nat × Nat) (v : Nat) : Int32 := if v = 2 then nI p.2 else if p.1 = 0 then -9 else if v = 0 then nI ((p.1 - 1) / 10) else nI ((p.1 - 1) % 10)
theorem c108_0 {tb : dxT} {H : dxH} {n : Nat} {sd kd : Nat → Nat} {s : Sn} {sed : Int64} {l : List Nat} (f0 : CC H sed) (fH : HrdAt H n sd kd) (fM : MdX H 6 n s) (hT : ShpM H 11) (b3 : n ≤ 6) (b4 : ∀ j, sd j < 2) (b5 : ∀ j, kd j < 4) (b6 : SnOK n s) (hY0 : ChAt H 106 l) : Cl tb 108 [.ref 0, .int (nI 0)] H (fun r H' => r = some (.ref 106) ∧ ChAt H' 106 (chs n sd s 0) ∧ Off (chC 106) H H') := by
  have g0 := f0
  unfold CC at g0
  obtain ⟨m0, m1, m2, m3, m4⟩ := id fM
  obtain ⟨_, _, _, _, _, _, _, _, ⟨t0, _⟩, _⟩ := id hT
  have hb : HE n < 64 := HE_lt b3
  have ha : 6 ≤ 6 := Nat.le_refl 6
  obtain ⟨_, y0, _⟩ := id hY0
  show Ev tb 108 0 [some (.ref 0), some (.int (nI 0)), none] [] H _
  refine ev_iload_n i108_0 rfl ?_
  refine evn_if_ne (t := 11) i108_1 (by decide) (by omega) (fun z1 => by exfalso; omega) (fun z1 => ?_)
  refine ev_aload_n i108_4 rfl ?_
  refine ev_get i108_5 ci108 fl7_65 (by assumption) rfl ?_
  refine ev_goto (t := 15) i108_8 (by decide) ?_
  refine ev_astore_n (L' := [some (.ref 0), some (.int (nI 0)), some (.ref 106)]) i108_15 ⟨Nat.le_of_ble_eq_true rfl, rfl⟩ rfl ?_
  refine ev_aload_n i108_16 rfl ?_
  refine ev_aload_n i108_17 rfl ?_
  refine ev_get i108_18 ci108 fl7_28 (by assumption) rfl ?_
  refine ev_iload_n i108_21 rfl ?_
  refine ev_callV (vs := [.ref 6, .int (nI 0)]) (rest := []) i108_22 ci108 lk7_279 (congrArg (fun q => q + 1) np6) ci6 (by decide) (by decide +kernel) (Nat.le_of_ble_eq_true rfl) ⟨rfl, rfl, Nat.le_of_ble_eq_true rfl⟩ rfl (by assumption) (c6 hb (by decide) b6.1 b4 (by decide) (by decide) fM fH hY0) (fun r H1 hq => ?_)
  obtain ⟨rfl, hY, hO1⟩ := hq
  show Ev tb 108 25 [some (.ref 0), some (.int (nI 0)), some (.ref 106)] [] H1 _
  refine ev_aload_n i108_25 rfl ?_
  refine ev_aret (n := "MilkTruce$Choices") i108_26 (by decide +kernel) ?_
  exact ⟨rfl, hY, hO1⟩
theorem c108_1 {tb : dxT} {H : dxH} {n : Nat} {sd kd : Nat → Nat} {s : Sn} {sed : Int64} {l : List Nat} (f0 : CC H sed) (fH : HrdAt H n sd kd) (fM : MdX H 6 n s) (hT : ShpM H 11) (b3 : n ≤ 6) (b4 : ∀ j, sd j < 2) (b5 : ∀ j, kd j < 4) (b6 : SnOK n s) (hY1 : ChAt H 108 l) : Cl tb 108 [.ref 0, .int (nI 1)] H (fun r H' => r = some (.ref 108) ∧ ChAt H' 108 (chs n sd s 1) ∧ Off (chC 108) H H') := by
  have g0 := f0
  unfold CC at g0
  obtain ⟨m0, m1, m2, m3, m4⟩ := id fM
  obtain ⟨_, _, _, _, _, _, _, _, ⟨t0, _⟩, _⟩ := id hT
  have hb : HE n < 64 := HE_lt b3
  have ha : 6 ≤ 6 := Nat.le_refl 6
  obtain ⟨_, y0, _⟩ := id hY1
  show Ev tb 108 0 [some (.ref 0), some (.int (nI 1)), none] [] H _
  refine ev_iload_n i108_0 rfl ?_
  refine evn_if_ne (t := 11) i108_1 (by decide) (by omega) (fun z1 => ?_) (fun z1 => by exfalso; omega)
  refine ev_aload_n i108_11 rfl ?_
  refine ev_get i108_12 ci108 fl7_69 (by assumption) rfl ?_
  refine ev_astore_n (L' := [some (.ref 0), some (.int (nI 1)), some (.ref 108)]) i108_15 ⟨Nat.le_of_ble_eq_true rfl, rfl⟩ rfl ?_
  refine ev_aload_n i108_16 rfl ?_
  refine ev_aload_n i108_17 rfl ?_
  refine ev_get i108_18 ci108 fl7_28 (by assumption) rfl ?_
  refine ev_iload_n i108_21 rfl ?_
  refine ev_callV (vs := [.ref 6, .int (nI 1)]) (rest := []) i108_22 ci108 lk7_279 (congrArg (fun q => q + 1) np6) ci6 (by decide) (by decide +kernel) (Nat.le_of_ble_eq_true rfl) ⟨rfl, rfl, Nat.le_of_ble_eq_true rfl⟩ rfl (by assumption) (c6 hb (by decide) b6.1 b4 (by decide) (by decide) fM fH hY1) (fun r H1 hq => ?_)
  obtain ⟨rfl, hY, hO1⟩ := hq
  show Ev tb 108 25 [some (.ref 0), some (.int (nI 1)), some (.ref 108)] [] H1 _
  refine ev_aload_n i108_25 rfl ?_
  refine ev_aret (n := "MilkTruce$Choices") i108_26 (by decide +kernel) ?_
  exact ⟨rfl, hY, hO1⟩
theorem lq81_0 {tb : dxT} {H : dxH} {n : Nat} {sd kd : Nat → Nat} {s : Sn} {sed : Int64} {m v : Nat} {u : Bool} (b3 : n ≤ 6) (b4 : ∀ j, sd j < 2) (b5 : ∀ j, kd j < 4) (b6 : SnOK n s) (hm : m ≤ 8) (hv : v ≤ 2) (F0 : CC H sed) (FH : HrdAt H n sd kd) (FM : MdX H 6 n s) (HY : ChAt H 106 (chs n sd s 0)) : ∀ (d i b a : Nat) (H2 : dxH), i + d = (chs n sd s 0).length → a ≤ 8 → (b = 0 ∨ 1 ≤ b ∧ b < 61) → Off (mdC 11) H H2 → ShpM H2 11 → ∀ v9, Ev tb 81 50 [some (.ref 0), some (.int (nI 0)), some (.int (nI m)), some (.int (bI u)), some (.int (nI v)), some (.ref 106), some (.int (nI b)), some (.int (nI a)), some (.int (nI i)), v9] [] H2 (fun r H' => r = some (.int (gzA (gzL n sd kd s m u (chs n sd s 0) d i (b, a)) v)) ∧ ShpM H' 11 ∧ Off (mdC 11) H H')
  | 0, i, b, a, H2, hi, ha2, hb9, hOO, hT, v9 => by
    obtain rfl : i = (chs n sd s 0).length := by omega
    have f0 := F0.off hOO (by unfold mdC; omega)
    have fH := FH.off hOO (by unfold mdC; omega) (by unfold mdC; omega) (by unfold mdC; omega)
    have fM := FM.off hOO (fun j u1 u2 => by unfold mdC; omega)
    have g0 := f0
    unfold CC at g0
    obtain ⟨m0, m1, m2, m3, m4⟩ := id fM
    obtain ⟨_, _, _, _, _, _, _, _, ⟨t0, _⟩, _⟩ := id hT
    have hb : HE n < 64 := HE_lt b3
    have hY := HY.off hOO (by unfold mdC; omega) (by unfold mdC; omega)
    obtain ⟨hl26, y0, _⟩ := id hY
    refine ev_iload i81_50 rfl ?_
    refine ev_aload i81_52 rfl ?_
    refine ev_callV (vs := []) (rest := [.int (nI ((chs n sd s 0).length))]) i81_54 ci81 lk7_179 (congrArg (fun q => q + 1) np9) ci9 (by decide) (by decide +kernel) (Nat.le_of_ble_eq_true rfl) ⟨rfl, rfl, Nat.le_of_ble_eq_true rfl⟩ rfl (by assumption) (c9 hY) (fun r HH hq => ?_)
    obtain ⟨rfl, rfl⟩ := hq
    show Ev tb 81 57 [some (.ref 0), some (.int (nI 0)), some (.int (nI m)), some (.int (bI u)), some (.int (nI v)), some (.ref 106), some (.int (nI b)), some (.int (nI a)), some (.int (nI ((chs n sd s 0).length))), v9] [.int (nI ((chs n sd s 0).length)), .int (nI ((chs n sd s 0).length))] H2 _
    refine evn_icmp_ge (t := 115) i81_57 (by decide) (by omega) (fun z57 => ?_) (fun z57 => by exfalso; omega)
    refine ev_iload i81_115 rfl ?_
    refine ev_iconst (v := nI 2) i81_117 (by decide) ?_
    refine evn_icmp_ne (t := 124) i81_118 (by decide) (by omega) (fun z118 => ?_) (fun z118 => ?_)
    · refine ev_iload i81_124 rfl ?_
      refine evn_if_ne (t := 132) i81_126 (by decide) (by omega) (fun z126 => ?_) (fun z126 => ?_)
      · refine ev_iload i81_132 rfl ?_
        refine evn_if_ne (t := 145) i81_134 (by decide) (by omega) (fun z134 => ?_) (fun z134 => ?_)
        · refine ev_iload i81_145 rfl ?_
          refine ev_callS (vs := [.int (nI b)]) (rest := []) i81_147 ci81 lk7_186 (Or.inl rfl) np101 (by decide +kernel) (Nat.le_of_ble_eq_true rfl) ⟨rfl, rfl, Nat.le_of_ble_eq_true rfl⟩ rfl (c101 (by omega) (by omega)) (fun r HH hq => ?_)
          obtain ⟨rfl, rfl⟩ := hq
          show Ev tb 81 150 [some (.ref 0), some (.int (nI 0)), some (.int (nI m)), some (.int (bI u)), some (.int (nI v)), some (.ref 106), some (.int (nI b)), some (.int (nI a)), some (.int (nI ((chs n sd s 0).length))), v9] [.int (nI ((b - 1) % 10))] H2 _
          refine ev_iret i81_150 (by decide +kernel) ?_
          unfold gzL gzA
          first
            | rw [if_pos (by assumption)]
            | rw [if_neg (by assumption), if_pos (by assumption)]
            | rw [if_neg (by assumption), if_neg (by assumption), if_pos (by assumption)]
            | rw [if_neg (by assumption), if_neg (by assumption), if_neg (by assumption)]
          exact ⟨rfl, hT, hOO⟩
        · refine ev_iload i81_137 rfl ?_
          refine ev_callS (vs := [.int (nI b)]) (rest := []) i81_139 ci81 lk7_183 (Or.inl rfl) np100 (by decide +kernel) (Nat.le_of_ble_eq_true rfl) ⟨rfl, rfl, Nat.le_of_ble_eq_true rfl⟩ rfl (c100 (by omega) (by omega)) (fun r HH hq => ?_)
          obtain ⟨rfl, rfl⟩ := hq
          show Ev tb 81 142 [some (.ref 0), some (.int (nI 0)), some (.int (nI m)), some (.int (bI u)), some (.int (nI v)), some (.ref 106), some (.int (nI b)), some (.int (nI a)), some (.int (nI ((chs n sd s 0).length))), v9] [.int (nI ((b - 1) / 10))] H2 _
          refine ev_goto (t := 150) i81_142 (by decide) ?_
          refine ev_iret i81_150 (by decide +kernel) ?_
          unfold gzL gzA
          first
            | rw [if_pos (by assumption)]
            | rw [if_neg (by assumption), if_pos (by assumption)]
            | rw [if_neg (by assumption), if_neg (by assumption), if_pos (by assumption)]
            | rw [if_neg (by assumption), if_neg (by assumption), if_neg (by assumption)]
          exact ⟨rfl, hT, hOO⟩
      · refine ev_bipush (v := (-9)) i81_129 (by decide) ?_
        refine ev_iret i81_131 (by decide +kernel) ?_
        unfold gzL gzA
        first
          | rw [if_pos (by assumption)]
          | rw [if_neg (by assumption), if_pos (by assumption)]
          | rw [if_neg (by assumption), if_neg (by assumption), if_pos (by assumption)]
          | rw [if_neg (by assumption), if_neg (by assumption), if_neg (by assumption)]
        exact ⟨rfl, hT, hOO⟩
    · refine ev_iload i81_121 rfl ?_
      refine ev_iret i81_123 (by decide +kernel) ?_
      unfold gzL gzA
      first
        | rw [if_pos (by assumption)]
        | rw [if_neg (by assumption), if_pos (by assumption)]
        | rw [if_neg (by assumption), if_neg (by assumption), if_pos (by assumption)]
        | rw [if_neg (by assumption), if_neg (by assumption), if_neg (by assumption)]
      exact ⟨rfl, hT, hOO⟩
  | d + 1, i, b, a, H2, hi, ha2, hb9, hOO, hT, v9 => by
    have f0 := F0.off hOO (by unfold mdC; omega)
    have fH := FH.off hOO (by unfold mdC; omega) (by unfold mdC; omega) (by unfold mdC; omega)
    have fM := FM.off hOO (fun j u1 u2 => by unfold mdC; omega)
    have g0 := f0
    unfold CC at g0
    obtain ⟨m0, m1, m2, m3, m4⟩ := id fM
    obtain ⟨_, _, _, _, _, _, _, _, ⟨t0, _⟩, _⟩ := id hT
    have hb : HE n < 64 := HE_lt b3
    have hY := HY.off hOO (by unfold mdC; omega) (by unfold mdC; omega)
    obtain ⟨hl26, y0, _⟩ := id hY
    have hok := chs_all (sd := sd) (s := s) (q := 0) b3 _ (getD_mem (show i < (chs n sd s 0).length by omega))
    have hon8 := onN_le (n := n) (sd := sd) (kd := kd) (s := s) (m := m) (c := (chs n sd s 0).getD i 0)
    have hgb : (chs n sd s 0).getD i 0 < 61 := by rcases hok with h | h <;> omega
    refine ev_iload i81_50 rfl ?_
    refine ev_aload i81_52 rfl ?_
    refine ev_callV (vs := []) (rest := [.int (nI i)]) i81_54 ci81 lk7_179 (congrArg (fun q => q + 1) np9) ci9 (by decide) (by decide +kernel) (Nat.le_of_ble_eq_true rfl) ⟨rfl, rfl, Nat.le_of_ble_eq_true rfl⟩ rfl (by assumption) (c9 hY) (fun r HH hq => ?_)
    obtain ⟨rfl, rfl⟩ := hq
    show Ev tb 81 57 [some (.ref 0), some (.int (nI 0)), some (.int (nI m)), some (.int (bI u)), some (.int (nI v)), some (.ref 106), some (.int (nI b)), some (.int (nI a)), some (.int (nI i)), v9] [.int (nI ((chs n sd s 0).length)), .int (nI i)] H2 _
    refine evn_icmp_ge (t := 115) i81_57 (by decide) (by omega) (fun z57 => by exfalso; omega) (fun z57 => ?_)
    refine ev_aload_n i81_60 rfl ?_
    refine ev_aload i81_61 rfl ?_
    refine ev_iload i81_63 rfl ?_
    refine ev_callV (vs := [.int (nI i)]) (rest := [.ref 0]) i81_65 ci81 lk7_180 (congrArg (fun q => q + 1) np10) ci10 (by decide) (by decide +kernel) (Nat.le_of_ble_eq_true rfl) ⟨rfl, rfl, Nat.le_of_ble_eq_true rfl⟩ rfl (by assumption) (c10 hY (by omega)) (fun r HH hq => ?_)
    obtain ⟨rfl, rfl⟩ := hq
    show Ev tb 81 68 [some (.ref 0), some (.int (nI 0)), some (.int (nI m)), some (.int (bI u)), some (.int (nI v)), some (.ref 106), some (.int (nI b)), some (.int (nI a)), some (.int (nI i)), v9] [.int (nI ((chs n sd s 0).getD i 0)), .ref 0] H2 _
    refine ev_iconst (v := nI 0) i81_68 (by decide) ?_
    refine ev_iload_n i81_69 rfl ?_
    refine ev_callV (vs := [.int (nI ((chs n sd s 0).getD i 0)), .int (nI 0), .int (nI m)]) (rest := []) i81_70 ci81 lk7_162 (congrArg (fun q => q + 1) np103) ci103 (by decide) (by decide +kernel) (Nat.le_of_ble_eq_true rfl) ⟨rfl, rfl, Nat.le_of_ble_eq_true rfl⟩ rfl (by assumption) (c103 f0 fH fM hT b3 b4 b5 b6 hok (Or.inl rfl) hm) (fun r H3 hq => ?_)
    rw [hon0] at hq
    obtain ⟨rfl, hT, hO3⟩ := hq
    have hY := hY.off hO3 (by unfold mdC; omega) (by unfold mdC; omega)
    obtain ⟨_, y0, _⟩ := id hY
    have hOO := hOO.trans hO3 (C := mdC 11) (fun _ q => q) (fun _ q => q)
    show Ev tb 81 73 [some (.ref 0), some (.int (nI 0)), some (.int (nI m)), some (.int (bI u)), some (.int (nI v)), some (.ref 106), some (.int (nI b)), some (.int (nI a)), some (.int (nI i)), v9] [.int (nI (onN n sd kd s m ((chs n sd s 0).getD i 0)))] H3 _
    refine ev_istore (L' := [some (.ref 0), some (.int (nI 0)), some (.int (nI m)), some (.int (bI u)), some (.int (nI v)), some (.ref 106), some (.int (nI b)), some (.int (nI a)), some (.int (nI i)), some (.int (nI (onN n sd kd s m ((chs n sd s 0).getD i 0))))]) i81_73 ⟨Nat.le_of_ble_eq_true rfl, rfl⟩ rfl ?_
    refine ev_iload_n i81_75 rfl ?_
    refine evb_if_eq (t := 89) i81_76 (by decide) (fun z76 => ?_) (fun z76 => ?_)
    · refine ev_iload i81_89 rfl ?_
      refine ev_iload i81_91 rfl ?_
      refine evn_icmp_ge (t := 109) i81_93 (by decide) (by omega) (fun z93 => ?_) (fun z93 => ?_)
      · refine evn_iinc (d := 1) (L' := [some (.ref 0), some (.int (nI 0)), some (.int (nI m)), some (.int (bI u)), some (.int (nI v)), some (.ref 106), some (.int (nI b)), some (.int (nI a)), some (.int (nI (i + 1))), some (.int (nI (onN n sd kd s m ((chs n sd s 0).getD i 0))))]) i81_109 rfl rfl (by decide) rfl ?_
        refine ev_goto (t := 50) i81_112 (by decide) ?_
        have e1 : gzS n sd kd s m u (b, a) ((chs n sd s 0).getD i 0) = (b, a) := by
          unfold gzS
          simp only [z76, if_true, if_false, Bool.false_eq_true]
          exact if_neg (by omega)
        refine (lq81_0 b3 b4 b5 b6 hm hv F0 FH FM HY d (i + 1) b a H3 (by omega) ha2 hb9 hOO hT _).post (fun r H' hq => ?_)
        unfold gzL
        rw [e1]
        exact hq
      · refine ev_aload i81_96 rfl ?_
        refine ev_iload i81_98 rfl ?_
        refine ev_callV (vs := [.int (nI i)]) (rest := []) i81_100 ci81 lk7_180 (congrArg (fun q => q + 1) np10) ci10 (by decide) (by decide +kernel) (Nat.le_of_ble_eq_true rfl) ⟨rfl, rfl, Nat.le_of_ble_eq_true rfl⟩ rfl (by assumption) (c10 hY (by omega)) (fun r HH hq => ?_)
        obtain ⟨rfl, rfl⟩ := hq
        show Ev tb 81 103 [some (.ref 0), some (.int (nI 0)), some (.int (nI m)), some (.int (bI u)), some (.int (nI v)), some (.ref 106), some (.int (nI b)), some (.int (nI a)), some (.int (nI i)), some (.int (nI (onN n sd kd s m ((chs n sd s 0).getD i 0))))] [.int (nI ((chs n sd s 0).getD i 0))] H3 _
        refine ev_istore (L' := [some (.ref 0), some (.int (nI 0)), some (.int (nI m)), some (.int (bI u)), some (.int (nI v)), some (.ref 106), some (.int (nI ((chs n sd s 0).getD i 0))), some (.int (nI a)), some (.int (nI i)), some (.int (nI (onN n sd kd s m ((chs n sd s 0).getD i 0))))]) i81_103 ⟨Nat.le_of_ble_eq_true rfl, rfl⟩ rfl ?_
        refine ev_iload i81_105 rfl ?_
        refine ev_istore (L' := [some (.ref 0), some (.int (nI 0)), some (.int (nI m)), some (.int (bI u)), some (.int (nI v)), some (.ref 106), some (.int (nI ((chs n sd s 0).getD i 0))), some (.int (nI (onN n sd kd s m ((chs n sd s 0).getD i 0)))), some (.int (nI i)), some (.int (nI (onN n sd kd s m ((chs n sd s 0).getD i 0))))]) i81_107 ⟨Nat.le_of_ble_eq_true rfl, rfl⟩ rfl ?_
        refine evn_iinc (d := 1) (L' := [some (.ref 0), some (.int (nI 0)), some (.int (nI m)), some (.int (bI u)), some (.int (nI v)), some (.ref 106), some (.int (nI ((chs n sd s 0).getD i 0))), some (.int (nI (onN n sd kd s m ((chs n sd s 0).getD i 0)))), some (.int (nI (i + 1))), some (.int (nI (onN n sd kd s m ((chs n sd s 0).getD i 0))))]) i81_109 rfl rfl (by decide) rfl ?_
        refine ev_goto (t := 50) i81_112 (by decide) ?_
        have e1 : gzS n sd kd s m u (b, a) ((chs n sd s 0).getD i 0) = (((chs n sd s 0).getD i 0), (onN n sd kd s m ((chs n sd s 0).getD i 0))) := by
          unfold gzS
          simp only [z76, if_true, if_false, Bool.false_eq_true]
          exact if_pos (by omega)
        refine (lq81_0 b3 b4 b5 b6 hm hv F0 FH FM HY d (i + 1) ((chs n sd s 0).getD i 0) (onN n sd kd s m ((chs n sd s 0).getD i 0)) H3 (by omega) (Nat.le_trans onN_le hm) (by rcases hok with h | h <;> omega) hOO hT _).post (fun r H' hq => ?_)
        unfold gzL
        rw [e1]
        exact hq
    · refine ev_iload i81_79 rfl ?_
      refine ev_iload i81_81 rfl ?_
      refine evn_icmp_le (t := 109) i81_83 (by decide) (by omega) (fun z83 => ?_) (fun z83 => ?_)
      · refine evn_iinc (d := 1) (L' := [some (.ref 0), some (.int (nI 0)), some (.int (nI m)), some (.int (bI u)), some (.int (nI v)), some (.ref 106), some (.int (nI b)), some (.int (nI a)), some (.int (nI (i + 1))), some (.int (nI (onN n sd kd s m ((chs n sd s 0).getD i 0))))]) i81_109 rfl rfl (by decide) rfl ?_
        refine ev_goto (t := 50) i81_112 (by decide) ?_
        have e1 : gzS n sd kd s m u (b, a) ((chs n sd s 0).getD i 0) = (b, a) := by
          unfold gzS
          simp only [z76, if_true, if_false, Bool.false_eq_true]
          exact if_neg (by omega)
        refine (lq81_0 b3 b4 b5 b6 hm hv F0 FH FM HY d (i + 1) b a H3 (by omega) ha2 hb9 hOO hT _).post (fun r H' hq => ?_)
        unfold gzL
        rw [e1]
        exact hq
      · refine ev_goto (t := 96) i81_86 (by decide) ?_
        refine ev_aload i81_96 rfl ?_
        refine ev_iload i81_98 rfl ?_
        refine ev_callV (vs := [.int (nI i)]) (rest := []) i81_100 ci81 lk7_180 (congrArg (fun q => q + 1) np10) ci10 (by decide) (by decide +kernel) (Nat.le_of_ble_eq_true rfl) ⟨rfl, rfl, Nat.le_of_ble_eq_true rfl⟩ rfl (by assumption) (c10 hY (by omega)) (fun r HH hq => ?_)
        obtain ⟨rfl, rfl⟩ := hq
        show Ev tb 81 103 [some (.ref 0), some (.int (nI 0)), some (.int (nI m)), some (.int (bI u)), some (.int (nI v)), some (.ref 106), some (.int (nI b)), some (.int (nI a)), some (.int (nI i)), some (.int (nI (onN n sd kd s m ((chs n sd s 0).getD i 0))))] [.int (nI ((chs n sd s 0).getD i 0))] H3 _
        refine ev_istore (L' := [some (.ref 0), some (.int (nI 0)), some (.int (nI m)), some (.int (bI u)), some (.int (nI v)), some (.ref 106), some (.int (nI ((chs n sd s 0).getD i 0))), some (.int (nI a)), some (.int (nI i)), some (.int (nI (onN n sd kd s m ((chs n sd s 0).getD i 0))))]) i81_103 ⟨Nat.le_of_ble_eq_true rfl, rfl⟩ rfl ?_
        refine ev_iload i81_105 rfl ?_
        refine ev_istore (L' := [some (.ref 0), some (.int (nI 0)), some (.int (nI m)), some (.int (bI u)), some (.int (nI v)), some (.ref 106), some (.int (nI ((chs n sd s 0).getD i 0))), some (.int (nI (onN n sd kd s m ((chs n sd s 0).getD i 0)))), some (.int (nI i)), some (.int (nI (onN n sd kd s m ((chs n sd s 0).getD i 0))))]) i81_107 ⟨Nat.le_of_ble_eq_true rfl, rfl⟩ rfl ?_
        refine evn_iinc (d := 1) (L' := [some (.ref 0), some (.int (nI 0)), some (.int (nI m)), some (.int (bI u)), some (.int (nI v)), some (.ref 106), some (.int (nI ((chs n sd s 0).getD i 0))), some (.int (nI (onN n sd kd s m ((chs n sd s 0).getD i 0)))), some (.int (nI (i + 1))), some (.int (nI (onN n sd kd s m ((chs n sd s 0).getD i 0))))]) i81_109 rfl rfl (by decide) rfl ?_
        refine ev_goto (t := 50) i81_112 (by decide) ?_
        have e1 : gzS n sd kd s m u (b, a) ((chs n sd s 0).getD i 0) = (((chs n sd s 0).getD i 0), (onN n sd kd s m ((chs n sd s 0).getD i 0))) := by
          unfold gzS
          simp only [z76, if_true, if_false, Bool.false_eq_true]
          exact if_pos (by omega)
        refine (lq81_0 b3 b4 b5 b6 hm hv F0 FH FM HY d (i + 1) ((chs n sd s 0).getD i 0) (onN n sd kd s m ((chs n sd s 0).getD i 0)) H3 (by omega) (Nat.le_trans onN_le hm) (by rcases hok with h | h <;> omega) hOO hT _).post (fun r H' hq => ?_)
        unfold gzL
        rw [e1]
        exact hq
theorem lq81_1 {tb : dxT} {H : dxH} {n : Nat} {sd kd : Nat → Nat} {s : Sn} {sed : Int64} {m v : Nat} {u : Bool} (b3 : n ≤ 6) (b4 : ∀ j, sd j < 2) (b5 : ∀ j, kd j < 4) (b6 : SnOK n s) (hm : m ≤ 8) (hv : v ≤ 2) (F0 : CC H sed) (FH : HrdAt H n sd kd) (FM : MdX H 6 n s) (HY : ChAt H 108 (chs n sd s 1)) : ∀ (d i b a : Nat) (H2 : dxH), i + d = (chs n sd s 1).length → a ≤ 8 → (b = 0 ∨ 1 ≤ b ∧ b < 61) → Off (mdC 11) H H2 → ShpM H2 11 → ∀ v9, Ev tb 81 50 [some (.ref 0), some (.int (nI 1)), some (.int (nI m)), some (.int (bI u)), some (.int (nI v)), some (.ref 108), some (.int (nI b)), some (.int (nI a)), some (.int (nI i)), v9] [] H2 (fun r H' => r = some (.int (gzA (gzL n sd kd s m u (chs n sd s 1) d i (b, a)) v)) ∧ ShpM H' 11 ∧ Off (mdC 11) H H')
  | 0, i, b, a, H2, hi, ha2, hb9, hOO, hT, v9 => by
    obtain rfl : i = (chs n sd s 1).length := by omega
    have f0 := F0.off hOO (by unfold mdC; omega)
    have fH := FH.off hOO (by unfold mdC; omega) (by unfold mdC; omega) (by unfold mdC; omega)
    have fM := FM.off hOO (fun j u1 u2 => by unfold mdC; omega)
    have g0 := f0
    unfold CC at g0
    obtain ⟨m0, m1, m2, m3, m4⟩ := id fM
    obtain ⟨_, _, _, _, _, _, _, _, ⟨t0, _⟩, _⟩ := id hT
    have hb : HE n < 64 := HE_lt b3
    have hY := HY.off hOO (by unfold mdC; omega) (by unfold mdC; omega)
    obtain ⟨hl26, y0, _⟩ := id hY
    refine ev_iload i81_50 rfl ?_
    refine ev_aload i81_52 rfl ?_
    refine ev_callV (vs := []) (rest := [.int (nI ((chs n sd s 1).length))]) i81_54 ci81 lk7_179 (congrArg (fun q => q + 1) np9) ci9 (by decide) (by decide +kernel) (Nat.le_of_ble_eq_true rfl) ⟨rfl, rfl, Nat.le_of_ble_eq_true rfl⟩ rfl (by assumption) (c9 hY) (fun r HH hq => ?_)
    obtain ⟨rfl, rfl⟩ := hq
    show Ev tb 81 57 [some (.ref 0), some (.int (nI 1)), some (.int (nI m)), some (.int (bI u)), some (.int (nI v)), some (.ref 108), some (.int (nI b)), some (.int (nI a)), some (.int (nI ((chs n sd s 1).length))), v9] [.int (nI ((chs n sd s 1).length)), .int (nI ((chs n sd s 1).length))] H2 _
    refine evn_icmp_ge (t := 115) i81_57 (by decide) (by omega) (fun z57 => ?_) (fun z57 => by exfalso; omega)
    refine ev_iload i81_115 rfl ?_
    refine ev_iconst (v := nI 2) i81_117 (by decide) ?_
    refine evn_icmp_ne (t := 124) i81_118 (by decide) (by omega) (fun z118 => ?_) (fun z118 => ?_)
    · refine ev_iload i81_124 rfl ?_
      refine evn_if_ne (t := 132) i81_126 (by decide) (by omega) (fun z126 => ?_) (fun z126 => ?_)
      · refine ev_iload i81_132 rfl ?_
        refine evn_if_ne (t := 145) i81_134 (by decide) (by omega) (fun z134 => ?_) (fun z134 => ?_)
        · refine ev_iload i81_145 rfl ?_
          refine ev_callS (vs := [.int (nI b)]) (rest := []) i81_147 ci81 lk7_186 (Or.inl rfl) np101 (by decide +kernel) (Nat.le_of_ble_eq_true rfl) ⟨rfl, rfl, Nat.le_of_ble_eq_true rfl⟩ rfl (c101 (by omega) (by omega)) (fun r HH hq => ?_)
          obtain ⟨rfl, rfl⟩ := hq
          show Ev tb 81 150 [some (.ref 0), some (.int (nI 1)), some (.int (nI m)), some (.int (bI u)), some (.int (nI v)), some (.ref 108), some (.int (nI b)), some (.int (nI a)), some (.int (nI ((chs n sd s 1).length))), v9] [.int (nI ((b - 1) % 10))] H2 _
          refine ev_iret i81_150 (by decide +kernel) ?_
          unfold gzL gzA
          first
            | rw [if_pos (by assumption)]
            | rw [if_neg (by assumption), if_pos (by assumption)]
            | rw [if_neg (by assumption), if_neg (by assumption), if_pos (by assumption)]
            | rw [if_neg (by assumption), if_neg (by assumption), if_neg (by assumption)]
          exact ⟨rfl, hT, hOO⟩
        · refine ev_iload i81_137 rfl ?_
          refine ev_callS (vs := [.int (nI b)]) (rest := []) i81_139 ci81 lk7_183 (Or.inl rfl) np100 (by decide +kernel) (Nat.le_of_ble_eq_true rfl) ⟨rfl, rfl, Nat.le_of_ble_eq_true rfl⟩ rfl (c100 (by omega) (by omega)) (fun r HH hq => ?_)
          obtain ⟨rfl, rfl⟩ := hq
          show Ev tb 81 142 [some (.ref 0), some (.int (nI 1)), some (.int (nI m)), some (.int (bI u)), some (.int (nI v)), some (.ref 108), some (.int (nI b)), some (.int (nI a)), some (.int (nI ((chs n sd s 1).length))), v9] [.int (nI ((b - 1) / 10))] H2 _
          refine ev_goto (t := 150) i81_142 (by decide) ?_
          refine ev_iret i81_150 (by decide +kernel) ?_
          unfold gzL gzA
          first
            | rw [if_pos (by assumption)]
            | rw [if_neg (by assumption), if_pos (by assumption)]
            | rw [if_neg (by assumption), if_neg (by assumption), if_pos (by assumption)]
            | rw [if_neg (by assumption), if_neg (by assumption), if_neg (by assumption)]
          exact ⟨rfl, hT, hOO⟩
      · refine ev_bipush (v := (-9)) i81_129 (by decide) ?_
        refine ev_iret i81_131 (by decide +kernel) ?_
        unfold gzL gzA
        first
          | rw [if_pos (by assumption)]
          | rw [if_neg (by assumption), if_pos (by assumption)]
          | rw [if_neg (by assumption), if_neg (by assumption), if_pos (by assumption)]
          | rw [if_neg (by assumption), if_neg (by assumption), if_neg (by assumption)]
        exact ⟨rfl, hT, hOO⟩
    · refine ev_iload i81_121 rfl ?_
      refine ev_iret i81_123 (by decide +kernel) ?_
      unfold gzL gzA
      first
        | rw [if_pos (by assumption)]
        | rw [if_neg (by assumption), if_pos (by assumption)]
        | rw [if_neg (by assumption), if_neg (by assumption), if_pos (by assumption)]
        | rw [if_neg (by assumption), if_neg (by assumption), if_neg (by assumption)]
      exact ⟨rfl, hT, hOO⟩
  | d + 1, i, b, a, H2, hi, ha2, hb9, hOO, hT, v9 => by
    have f0 := F0.off hOO (by unfold mdC; omega)
    have fH := FH.off hOO (by unfold mdC; omega) (by unfold mdC; omega) (by unfold mdC; omega)
    have fM := FM.off hOO (fun j u1 u2 => by unfold mdC; omega)
    have g0 := f0
    unfold CC at g0
    obtain ⟨m0, m1, m2, m3, m4⟩ := id fM
    obtain ⟨_, _, _, _, _, _, _, _, ⟨t0, _⟩, _⟩ := id hT
    have hb : HE n < 64 := HE_lt b3
    have hY := HY.off hOO (by unfold mdC; omega) (by unfold mdC; omega)
    obtain ⟨hl26, y0, _⟩ := id hY
    have hok := chs_all (sd := sd) (s := s) (q := 1) b3 _ (getD_mem (show i < (chs n sd s 1).length by omega))
    have hon8 := onN_le (n := n) (sd := sd) (kd := kd) (s := s) (m := m) (c := (chs n sd s 1).getD i 0)
    have hgb : (chs n sd s 1).getD i 0 < 61 := by rcases hok with h | h <;> omega
    refine ev_iload i81_50 rfl ?_
    refine ev_aload i81_52 rfl ?_
    refine ev_callV (vs := []) (rest := [.int (nI i)]) i81_54 ci81 lk7_179 (congrArg (fun q => q + 1) np9) ci9 (by decide) (by decide +kernel) (Nat.le_of_ble_eq_true rfl) ⟨rfl, rfl, Nat.le_of_ble_eq_true rfl⟩ rfl (by assumption) (c9 hY) (fun r HH hq => ?_)
    obtain ⟨rfl, rfl⟩ := hq
    show Ev tb 81 57 [some (.ref 0), some (.int (nI 1)), some (.int (nI m)), some (.int (bI u)), some (.int (nI v)), some (.ref 108), some (.int (nI b)), some (.int (nI a)), some (.int (nI i)), v9] [.int (nI ((chs n sd s 1).length)), .int (nI i)] H2 _
    refine evn_icmp_ge (t := 115) i81_57 (by decide) (by omega) (fun z57 => by exfalso; omega) (fun z57 => ?_)
    refine ev_aload_n i81_60 rfl ?_
    refine ev_aload i81_61 rfl ?_
    refine ev_iload i81_63 rfl ?_
    refine ev_callV (vs := [.int (nI i)]) (rest := [.ref 0]) i81_65 ci81 lk7_180 (congrArg (fun q => q + 1) np10) ci10 (by decide) (by decide +kernel) (Nat.le_of_ble_eq_true rfl) ⟨rfl, rfl, Nat.le_of_ble_eq_true rfl⟩ rfl (by assumption) (c10 hY (by omega)) (fun r HH hq => ?_)
    obtain ⟨rfl, rfl⟩ := hq
    show Ev tb 81 68 [some (.ref 0), some (.int (nI 1)), some (.int (nI m)), some (.int (bI u)), some (.int (nI v)), some (.ref 108), some (.int (nI b)), some (.int (nI a)), some (.int (nI i)), v9] [.int (nI ((chs n sd s 1).getD i 0)), .ref 0] H2 _
    refine ev_iconst (v := nI 0) i81_68 (by decide) ?_
    refine ev_iload_n i81_69 rfl ?_
    refine ev_callV (vs := [.int (nI ((chs n sd s 1).getD i 0)), .int (nI 0), .int (nI m)]) (rest := []) i81_70 ci81 lk7_162 (congrArg (fun q => q + 1) np103) ci103 (by decide) (by decide +kernel) (Nat.le_of_ble_eq_true rfl) ⟨rfl, rfl, Nat.le_of_ble_eq_true rfl⟩ rfl (by assumption) (c103 f0 fH fM hT b3 b4 b5 b6 hok (Or.inl rfl) hm) (fun r H3 hq => ?_)
    rw [hon0] at hq
    obtain ⟨rfl, hT, hO3⟩ := hq
    have hY := hY.off hO3 (by unfold mdC; omega) (by unfold mdC; omega)
    obtain ⟨_, y0, _⟩ := id hY
    have hOO := hOO.trans hO3 (C := mdC 11) (fun _ q => q) (fun _ q => q)
    show Ev tb 81 73 [some (.ref 0), some (.int (nI 1)), some (.int (nI m)), some (.int (bI u)), some (.int (nI v)), some (.ref 108), some (.int (nI b)), some (.int (nI a)), some (.int (nI i)), v9] [.int (nI (onN n sd kd s m ((chs n sd s 1).getD i 0)))] H3 _
    refine ev_istore (L' := [some (.ref 0), some (.int (nI 1)), some (.int (nI m)), some (.int (bI u)), some (.int (nI v)), some (.ref 108), some (.int (nI b)), some (.int (nI a)), some (.int (nI i)), some (.int (nI (onN n sd kd s m ((chs n sd s 1).getD i 0))))]) i81_73 ⟨Nat.le_of_ble_eq_true rfl, rfl⟩ rfl ?_
    refine ev_iload_n i81_75 rfl ?_
    refine evb_if_eq (t := 89) i81_76 (by decide) (fun z76 => ?_) (fun z76 => ?_)
    · refine ev_iload i81_89 rfl ?_
      refine ev_iload i81_91 rfl ?_
      refine evn_icmp_ge (t := 109) i81_93 (by decide) (by omega) (fun z93 => ?_) (fun z93 => ?_)
      · refine evn_iinc (d := 1) (L' := [some (.ref 0), some (.int (nI 1)), some (.int (nI m)), some (.int (bI u)), some (.int (nI v)), some (.ref 108), some (.int (nI b)), some (.int (nI a)), some (.int (nI (i + 1))), some (.int (nI (onN n sd kd s m ((chs n sd s 1).getD i 0))))]) i81_109 rfl rfl (by decide) rfl ?_
        refine ev_goto (t := 50) i81_112 (by decide) ?_
        have e1 : gzS n sd kd s m u (b, a) ((chs n sd s 1).getD i 0) = (b, a) := by
          unfold gzS
          simp only [z76, if_true, if_false, Bool.false_eq_true]
          exact if_neg (by omega)
        refine (lq81_1 b3 b4 b5 b6 hm hv F0 FH FM HY d (i + 1) b a H3 (by omega) ha2 hb9 hOO hT _).post (fun r H' hq => ?_)
        unfold gzL
        rw [e1]
        exact hq
      · refine ev_aload i81_96 rfl ?_
        refine ev_iload i81_98 rfl ?_
        refine ev_callV (vs := [.int (nI i)]) (rest := []) i81_100 ci81 lk7_180 (congrArg (fun q => q + 1) np10) ci10 (by decide) (by decide +kernel) (Nat.le_of_ble_eq_true rfl) ⟨rfl, rfl, Nat.le_of_ble_eq_true rfl⟩ rfl (by assumption) (c10 hY (by omega)) (fun r HH hq => ?_)
        obtain ⟨rfl, rfl⟩ := hq
        show Ev tb 81 103 [some (.ref 0), some (.int (nI 1)), some (.int (nI m)), some (.int (bI u)), some (.int (nI v)), some (.ref 108), some (.int (nI b)), some (.int (nI a)), some (.int (nI i)), some (.int (nI (onN n sd kd s m ((chs n sd s 1).getD i 0))))] [.int (nI ((chs n sd s 1).getD i 0))] H3 _
        refine ev_istore (L' := [some (.ref 0), some (.int (nI 1)), some (.int (nI m)), some (.int (bI u)), some (.int (nI v)), some (.ref 108), some (.int (nI ((chs n sd s 1).getD i 0))), some (.int (nI a)), some (.int (nI i)), some (.int (nI (onN n sd kd s m ((chs n sd s 1).getD i 0))))]) i81_103 ⟨Nat.le_of_ble_eq_true rfl, rfl⟩ rfl ?_
        refine ev_iload i81_105 rfl ?_
        refine ev_istore (L' := [some (.ref 0), some (.int (nI 1)), some (.int (nI m)), some (.int (bI u)), some (.int (nI v)), some (.ref 108), some (.int (nI ((chs n sd s 1).getD i 0))), some (.int (nI (onN n sd kd s m ((chs n sd s 1).getD i 0)))), some (.int (nI i)), some (.int (nI (onN n sd kd s m ((chs n sd s 1).getD i 0))))]) i81_107 ⟨Nat.le_of_ble_eq_true rfl, rfl⟩ rfl ?_
        refine evn_iinc (d := 1) (L' := [some (.ref 0), some (.int (nI 1)), some (.int (nI m)), some (.int (bI u)), some (.int (nI v)), some (.ref 108), some (.int (nI ((chs n sd s 1).getD i 0))), some (.int (nI (onN n sd kd s m ((chs n sd s 1).getD i 0)))), some (.int (nI (i + 1))), some (.int (nI (onN n sd kd s m ((chs n sd s 1).getD i 0))))]) i81_109 rfl rfl (by decide) rfl ?_
        refine ev_goto (t := 50) i81_112 (by decide) ?_
        have e1 : gzS n sd kd s m u (b, a) ((chs n sd s 1).getD i 0) = (((chs n sd s 1).getD i 0), (onN n sd kd s m ((chs n sd s 1).getD i 0))) := by
          unfold gzS
          simp only [z76, if_true, if_false, Bool.false_eq_true]
          exact if_pos (by omega)
        refine (lq81_1 b3 b4 b5 b6 hm hv F0 FH FM HY d (i + 1) ((chs n sd s 1).getD i 0) (onN n sd kd s m ((chs n sd s 1).getD i 0)) H3 (by omega) (Nat.le_trans onN_le hm) (by rcases hok with h | h <;> omega) hOO hT _).post (fun r H' hq => ?_)
        unfold gzL
        rw [e1]
        exact hq
    · refine ev_iload i81_79 rfl ?_
      refine ev_iload i81_81 rfl ?_
      refine evn_icmp_le (t := 109) i81_83 (by decide) (by omega) (fun z83 => ?_) (fun z83 => ?_)
      · refine evn_iinc (d := 1) (L' := [some (.ref 0), some (.int (nI 1)), some (.int (nI m)), some (.int (bI u)), some (.int (nI v)), some (.ref 108), some (.int (nI b)), some (.int (nI a)), some (.int (nI (i + 1))), some (.int (nI (onN n sd kd s m ((chs n sd s 1).getD i 0))))]) i81_109 rfl rfl (by decide) rfl ?_
        refine ev_goto (t := 50) i81_112 (by decide) ?_
        have e1 : gzS n sd kd s m u (b, a) ((chs n sd s 1).getD i 0) = (b, a) := by
          unfold gzS
          simp only [z76, if_true, if_false, Bool.false_eq_true]
          exact if_neg (by omega)
        refine (lq81_1 b3 b4 b5 b6 hm hv F0 FH FM HY d (i + 1) b a H3 (by omega) ha2 hb9 hOO hT _).post (fun r H' hq => ?_)
        unfold gzL
        rw [e1]
        exact hq
      · refine ev_goto (t := 96) i81_86 (by decide) ?_
        refine ev_aload i81_96 rfl ?_
        refine ev_iload i81_98 rfl ?_
        refine ev_callV (vs := [.int (nI i)]) (rest := []) i81_100 ci81 lk7_180 (congrArg (fun q => q + 1) np10) ci10 (by decide) (by decide +kernel) (Nat.le_of_ble_eq_true rfl) ⟨rfl, rfl, Nat.le_of_ble_eq_true rfl⟩ rfl (by assumption) (c10 hY (by omega)) (fun r HH hq => ?_)
        obtain ⟨rfl, rfl⟩ := hq
        show Ev tb 81 103 [some (.ref 0), some (.int (nI 1)), some (.int (nI m)), some (.int (bI u)), some (.int (nI v)), some (.ref 108), some (.int (nI b)), some (.int (nI a)), some (.int (nI i)), some (.int (nI (onN n sd kd s m ((chs n sd s 1).getD i 0))))] [.int (nI ((chs n sd s 1).getD i 0))] H3 _
        refine ev_istore (L' := [some (.ref 0), some (.int (nI 1)), some (.int (nI m)), some (.int (bI u)), some (.int (nI v)), some (.ref 108), some (.int (nI ((chs n sd s 1).getD i 0))), some (.int (nI a)), some (.int (nI i)), some (.int (nI (onN n sd kd s m ((chs n sd s 1).getD i 0))))]) i81_103 ⟨Nat.le_of_ble_eq_true rfl, rfl⟩ rfl ?_
        refine ev_iload i81_105 rfl ?_
        refine ev_istore (L' := [some (.ref 0), some (.int (nI 1)), some (.int (nI m)), some (.int (bI u)), some (.int (nI v)), some (.ref 108), some (.int (nI ((chs n sd s 1).getD i 0))), some (.int (nI (onN n sd kd s m ((chs n sd s 1).getD i 0)))), some (.int (nI i)), some (.int (nI (onN n sd kd s m ((chs n sd s 1).getD i 0))))]) i81_107 ⟨Nat.le_of_ble_eq_true rfl, rfl⟩ rfl ?_
        refine evn_iinc (d := 1) (L' := [some (.ref 0), some (.int (nI 1)), some (.int (nI m)), some (.int (bI u)), some (.int (nI v)), some (.ref 108), some (.int (nI ((chs n sd s 1).getD i 0))), some (.int (nI (onN n sd kd s m ((chs n sd s 1).getD i 0)))), some (.int (nI (i + 1))), some (.int (nI (onN n sd kd s m ((chs n sd s 1).getD i 0))))]) i81_109 rfl rfl (by decide) rfl ?_
        refine ev_goto (t := 50) i81_112 (by decide) ?_
        have e1 : gzS n sd kd s m u (b, a) ((chs n sd s 1).getD i 0) = (((chs n sd s 1).getD i 0), (onN n sd kd s m ((chs n sd s 1).getD i 0))) := by
          unfold gzS
          simp only [z76, if_true, if_false, Bool.false_eq_true]
          exact if_pos (by omega)
        refine (lq81_1 b3 b4 b5 b6 hm hv F0 FH FM HY d (i + 1) ((chs n sd s 1).getD i 0) (onN n sd kd s m ((chs n sd s 1).getD i 0)) H3 (by omega) (Nat.le_trans onN_le hm) (by rcases hok with h | h <;> omega) hOO hT _).post (fun r H' hq => ?_)
        unfold gzL
        rw [e1]
        exact hq
def grzI (n : Nat) (sd kd : Nat → Nat) (s : Sn) (q m : Nat) (u : Bool) (v : Nat) : Int32 := gzA (gzL n sd kd s m u (chs n sd s q) (chs n sd s q).length 0 (0, onN n sd kd s m 0)) v
theorem x81_0 {tb : dxT} {H : dxH} {tx : Nat → Nat} {ln n : Nat} {sd kd : Nat → Nat} {s : Sn} {am : Nat} {stk : Nat → Sn} {kp : Nat → Bool} {ks : Nat → Sn} {tm : Nat} {tc th : Nat → Nat} {td : Nat → Bool} {sed : Int64} {m v : Nat} {u : Bool} (hI : CInv H tx ln n sd kd s am stk kp ks tm tc th td sed) (hS : SpOK tx ln n sd kd s am stk kp ks tm tc th) (hm1 : 1 ≤ m) (hm : m ≤ 8) (hv : v ≤ 2) : Cl tb 81 [.ref 0, .int (nI 0), .int (nI m), .int (bI u), .int (nI v)] H (fun r H' => r = some (.int (grzI n sd kd s 0 m u v)) ∧ CInv H' tx ln n sd kd s am stk kp ks tm tc th td sed ∧ Off xC H H') := by
  obtain ⟨f0, fT, fH, fM, fA, fK, fL, fP⟩ := id hI
  obtain ⟨⟨b1, b2⟩, b3, b4, b5, b6, b7, b8, b9, b10, b11⟩ := id hS
  have hT := fP.1
  have g0 := f0
  unfold CC at g0
  obtain ⟨m0, m1, m2, m3, m4⟩ := id fM
  obtain ⟨_, _, _, _, _, _, _, _, ⟨t0, _⟩, _⟩ := id hT
  have hb : HE n < 64 := HE_lt b3
  have ha : 6 ≤ 6 := Nat.le_refl 6
  obtain ⟨l0, hY0⟩ := fP.2.1
  obtain ⟨l1, hY1⟩ := fP.2.2.1
  obtain ⟨fp, hpr⟩ := fP.2.2.2
  have hYy := hY0
  have hYo := hY1
  obtain ⟨_, y0, _⟩ := id hYy
  show Ev tb 81 0 [some (.ref 0), some (.int (nI 0)), some (.int (nI m)), some (.int (bI u)), some (.int (nI v)), none, none, none, none, none] [] H _
  refine ev_iload_n i81_0 rfl ?_
  refine ev_callS (vs := [.int (nI 0)]) (rest := []) i81_1 ci81 lk7_166 (Or.inl rfl) np97 (by decide +kernel) (Nat.le_of_ble_eq_true rfl) ⟨rfl, rfl, Nat.le_of_ble_eq_true rfl⟩ rfl (c97n (by omega)) (fun r HH hq => ?_)
  obtain ⟨rfl, rfl⟩ := hq
  show Ev tb 81 4 [some (.ref 0), some (.int (nI 0)), some (.int (nI m)), some (.int (bI u)), some (.int (nI v)), none, none, none, none, none] [.int (bI (decide (0 < 2)))] H _
  refine evd_if_eq (t := 25) i81_4 (by decide) (fun z4 => by exfalso; omega) (fun z4 => ?_)
  refine ev_iload_n i81_7 rfl ?_
  refine ev_callS (vs := [.int (nI m)]) (rest := []) i81_8 ci81 lk7_156 (Or.inl rfl) np99 (by decide +kernel) (Nat.le_of_ble_eq_true rfl) ⟨rfl, rfl, Nat.le_of_ble_eq_true rfl⟩ rfl (c99t (by omega) (by omega)) (fun r HH hq => ?_)
  obtain ⟨rfl, rfl⟩ := hq
  show Ev tb 81 11 [some (.ref 0), some (.int (nI 0)), some (.int (nI m)), some (.int (bI u)), some (.int (nI v)), none, none, none, none, none] [.int (bI true)] H _
  refine evb_if_eq (t := 25) i81_11 (by decide) (fun z11 => by exfalso; cases z11) (fun z11 => ?_)
  refine ev_iload i81_14 rfl ?_
  refine evn_if_lt (t := 25) i81_16 (by decide) (by omega) ?_
  refine ev_iload i81_19 rfl ?_
  refine ev_iconst (v := nI 2) i81_21 (by decide) ?_
  refine evn_icmp_le (t := 28) i81_22 (by decide) (by omega) (fun z22 => ?_) (fun z22 => by exfalso; omega)
  refine ev_aload_n i81_28 rfl ?_
  refine ev_iload_n i81_29 rfl ?_
  refine ev_callV (vs := [.int (nI 0)]) (rest := []) i81_30 ci81 lk7_175 (congrArg (fun q => q + 1) np108) ci108 (by decide) (by decide +kernel) (Nat.le_of_ble_eq_true rfl) ⟨rfl, rfl, Nat.le_of_ble_eq_true rfl⟩ rfl (by assumption) (c108_0 f0 fH fM hT b3 b4 b5 b6 hYy) (fun r H1 hq => ?_)
  obtain ⟨rfl, hY, hO1⟩ := hq
  have f0 := f0.off hO1 (by unfold chC; omega)
  have fH := fH.off hO1 (by unfold chC; omega) (by unfold chC; omega) (by unfold chC; omega)
  have fM := fM.off hO1 (fun j u1 u2 => by unfold chC; omega)
  have hT := hT.off hO1 (fun j u1 u2 => by unfold chC; omega)
  have g0 := f0
  unfold CC at g0
  show Ev tb 81 33 [some (.ref 0), some (.int (nI 0)), some (.int (nI m)), some (.int (bI u)), some (.int (nI v)), none, none, none, none, none] [.ref 106] H1 _
  refine ev_astore (L' := [some (.ref 0), some (.int (nI 0)), some (.int (nI m)), some (.int (bI u)), some (.int (nI v)), some (.ref 106), none, none, none, none]) i81_33 ⟨Nat.le_of_ble_eq_true rfl, rfl⟩ rfl ?_
  refine ev_iconst (v := nI 0) i81_35 (by decide) ?_
  refine ev_istore (L' := [some (.ref 0), some (.int (nI 0)), some (.int (nI m)), some (.int (bI u)), some (.int (nI v)), some (.ref 106), some (.int (nI 0)), none, none, none]) i81_36 ⟨Nat.le_of_ble_eq_true rfl, rfl⟩ rfl ?_
  refine ev_aload_n i81_38 rfl ?_
  refine ev_iconst (v := nI 0) i81_39 (by decide) ?_
  refine ev_iconst (v := nI 0) i81_40 (by decide) ?_
  refine ev_iload_n i81_41 rfl ?_
  refine ev_callV (vs := [.int (nI 0), .int (nI 0), .int (nI m)]) (rest := []) i81_42 ci81 lk7_162 (congrArg (fun q => q + 1) np103) ci103 (by decide) (by decide +kernel) (Nat.le_of_ble_eq_true rfl) ⟨rfl, rfl, Nat.le_of_ble_eq_true rfl⟩ rfl (by assumption) (c103 f0 fH fM hT b3 b4 b5 b6 (Or.inl rfl) (Or.inl rfl) hm) (fun r H2 hq => ?_)
  rw [hon0] at hq
  obtain ⟨rfl, hT2, hO2⟩ := hq
  show Ev tb 81 45 [some (.ref 0), some (.int (nI 0)), some (.int (nI m)), some (.int (bI u)), some (.int (nI v)), some (.ref 106), some (.int (nI 0)), none, none, none] [.int (nI (onN n sd kd s m 0))] H2 _
  refine ev_istore (L' := [some (.ref 0), some (.int (nI 0)), some (.int (nI m)), some (.int (bI u)), some (.int (nI v)), some (.ref 106), some (.int (nI 0)), some (.int (nI (onN n sd kd s m 0))), none, none]) i81_45 ⟨Nat.le_of_ble_eq_true rfl, rfl⟩ rfl ?_
  refine ev_iconst (v := nI 0) i81_47 (by decide) ?_
  refine ev_istore (L' := [some (.ref 0), some (.int (nI 0)), some (.int (nI m)), some (.int (bI u)), some (.int (nI v)), some (.ref 106), some (.int (nI 0)), some (.int (nI (onN n sd kd s m 0))), some (.int (nI 0)), none]) i81_48 ⟨Nat.le_of_ble_eq_true rfl, rfl⟩ rfl ?_
  have hon8 := onN_le (n := n) (sd := sd) (kd := kd) (s := s) (m := m) (c := 0)
  refine (lq81_0 b3 b4 b5 b6 hm hv f0 fH fM hY _ 0 0 _ H2 (Nat.zero_add _) (by omega) (Or.inl rfl) hO2 hT2 _).post (fun r H' hq => ?_)
  have hO4 := hO1.trans hq.2.2 (C := fun j => mdC 11 j ∨ chC 106 j) (fun _ q => Or.inr q) (fun _ q => Or.inl q)
  exact ⟨hq.1, hI.tmp (hO4.weaken (fun j q => by unfold mdC chC at q; unfold tmC; omega)) ⟨hq.2.1, ⟨_, (hY.off hq.2.2 (by unfold mdC; omega) (by unfold mdC; omega))⟩, ⟨_, hYo.off hO4 (by unfold mdC chC; omega) (by unfold mdC chC; omega)⟩, _, hO4.at hpr (by unfold mdC chC; omega)⟩, hO4.weaken (fun j q => by unfold mdC chC at q; unfold xC; omega)⟩
theorem x81_1 {tb : dxT} {H : dxH} {tx : Nat → Nat} {ln n : Nat} {sd kd : Nat → Nat} {s : Sn} {am : Nat} {stk : Nat → Sn} {kp : Nat → Bool} {ks : Nat → Sn} {tm : Nat} {tc th : Nat → Nat} {td : Nat → Bool} {sed : Int64} {m v : Nat} {u : Bool} (hI : CInv H tx ln n sd kd s am stk kp ks tm tc th td sed) (hS : SpOK tx ln n sd kd s am stk kp ks tm tc th) (hm1 : 1 ≤ m) (hm : m ≤ 8) (hv : v ≤ 2) : Cl tb 81 [.ref 0, .int (nI 1), .int (nI m), .int (bI u), .int (nI v)] H (fun r H' => r = some (.int (grzI n sd kd s 1 m u v)) ∧ CInv H' tx ln n sd kd s am stk kp ks tm tc th td sed ∧ Off xC H H') := by
  obtain ⟨f0, fT, fH, fM, fA, fK, fL, fP⟩ := id hI
  obtain ⟨⟨b1, b2⟩, b3, b4, b5, b6, b7, b8, b9, b10, b11⟩ := id hS
  have hT := fP.1
  have g0 := f0
  unfold CC at g0
  obtain ⟨m0, m1, m2, m3, m4⟩ := id fM
  obtain ⟨_, _, _, _, _, _, _, _, ⟨t0, _⟩, _⟩ := id hT
  have hb : HE n < 64 := HE_lt b3
  have ha : 6 ≤ 6 := Nat.le_refl 6
  obtain ⟨l0, hY0⟩ := fP.2.1
  obtain ⟨l1, hY1⟩ := fP.2.2.1
  obtain ⟨fp, hpr⟩ := fP.2.2.2
  have hYy := hY1
  have hYo := hY0
  obtain ⟨_, y0, _⟩ := id hYy
  show Ev tb 81 0 [some (.ref 0), some (.int (nI 1)), some (.int (nI m)), some (.int (bI u)), some (.int (nI v)), none, none, none, none, none] [] H _
  refine ev_iload_n i81_0 rfl ?_
  refine ev_callS (vs := [.int (nI 1)]) (rest := []) i81_1 ci81 lk7_166 (Or.inl rfl) np97 (by decide +kernel) (Nat.le_of_ble_eq_true rfl) ⟨rfl, rfl, Nat.le_of_ble_eq_true rfl⟩ rfl (c97n (by omega)) (fun r HH hq => ?_)
  obtain ⟨rfl, rfl⟩ := hq
  show Ev tb 81 4 [some (.ref 0), some (.int (nI 1)), some (.int (nI m)), some (.int (bI u)), some (.int (nI v)), none, none, none, none, none] [.int (bI (decide (1 < 2)))] H _
  refine evd_if_eq (t := 25) i81_4 (by decide) (fun z4 => by exfalso; omega) (fun z4 => ?_)
  refine ev_iload_n i81_7 rfl ?_
  refine ev_callS (vs := [.int (nI m)]) (rest := []) i81_8 ci81 lk7_156 (Or.inl rfl) np99 (by decide +kernel) (Nat.le_of_ble_eq_true rfl) ⟨rfl, rfl, Nat.le_of_ble_eq_true rfl⟩ rfl (c99t (by omega) (by omega)) (fun r HH hq => ?_)
  obtain ⟨rfl, rfl⟩ := hq
  show Ev tb 81 11 [some (.ref 0), some (.int (nI 1)), some (.int (nI m)), some (.int (bI u)), some (.int (nI v)), none, none, none, none, none] [.int (bI true)] H _
  refine evb_if_eq (t := 25) i81_11 (by decide) (fun z11 => by exfalso; cases z11) (fun z11 => ?_)
  refine ev_iload i81_14 rfl ?_
  refine evn_if_lt (t := 25) i81_16 (by decide) (by omega) ?_
  refine ev_iload i81_19 rfl ?_
  refine ev_iconst (v := nI 2) i81_21 (by decide) ?_
  refine evn_icmp_le (t := 28) i81_22 (by decide) (by omega) (fun z22 => ?_) (fun z22 => by exfalso; omega)
  refine ev_aload_n i81_28 rfl ?_
  refine ev_iload_n i81_29 rfl ?_
  refine ev_callV (vs := [.int (nI 1)]) (rest := []) i81_30 ci81 lk7_175 (congrArg (fun q => q + 1) np108) ci108 (by decide) (by decide +kernel) (Nat.le_of_ble_eq_true rfl) ⟨rfl, rfl, Nat.le_of_ble_eq_true rfl⟩ rfl (by assumption) (c108_1 f0 fH fM hT b3 b4 b5 b6 hYy) (fun r H1 hq => ?_)
  obtain ⟨rfl, hY, hO1⟩ := hq
  have f0 := f0.off hO1 (by unfold chC; omega)
  have fH := fH.off hO1 (by unfold chC; omega) (by unfold chC; omega) (by unfold chC; omega)
  have fM := fM.off hO1 (fun j u1 u2 => by unfold chC; omega)
  have hT := hT.off hO1 (fun j u1 u2 => by unfold chC; omega)
  have g0 := f0
  unfold CC at g0
  show Ev tb 81 33 [some (.ref 0), some (.int (nI 1)), some (.int (nI m)), some (.int (bI u)), some (.int (nI v)), none, none, none, none, none] [.ref 108] H1 _
  refine ev_astore (L' := [some (.ref 0), some (.int (nI 1)), some (.int (nI m)), some (.int (bI u)), some (.int (nI v)), some (.ref 108), none, none, none, none]) i81_33 ⟨Nat.le_of_ble_eq_true rfl, rfl⟩ rfl ?_
  refine ev_iconst (v := nI 0) i81_35 (by decide) ?_
  refine ev_istore (L' := [some (.ref 0), some (.int (nI 1)), some (.int (nI m)), some (.int (bI u)), some (.int (nI v)), some (.ref 108), some (.int (nI 0)), none, none, none]) i81_36 ⟨Nat.le_of_ble_eq_true rfl, rfl⟩ rfl ?_
  refine ev_aload_n i81_38 rfl ?_
  refine ev_iconst (v := nI 0) i81_39 (by decide) ?_
  refine ev_iconst (v := nI 0) i81_40 (by decide) ?_
  refine ev_iload_n i81_41 rfl ?_
  refine ev_callV (vs := [.int (nI 0), .int (nI 0), .int (nI m)]) (rest := []) i81_42 ci81 lk7_162 (congrArg (fun q => q + 1) np103) ci103 (by decide) (by decide +kernel) (Nat.le_of_ble_eq_true rfl) ⟨rfl, rfl, Nat.le_of_ble_eq_true rfl⟩ rfl (by assumption) (c103 f0 fH fM hT b3 b4 b5 b6 (Or.inl rfl) (Or.inl rfl) hm) (fun r H2 hq => ?_)
  rw [hon0] at hq
  obtain ⟨rfl, hT2, hO2⟩ := hq
  show Ev tb 81 45 [some (.ref 0), some (.int (nI 1)), some (.int (nI m)), some (.int (bI u)), some (.int (nI v)), some (.ref 108), some (.int (nI 0)), none, none, none] [.int (nI (onN n sd kd s m 0))] H2 _
  refine ev_istore (L' := [some (.ref 0), some (.int (nI 1)), some (.int (nI m)), some (.int (bI u)), some (.int (nI v)), some (.ref 108), some (.int (nI 0)), some (.int (nI (onN n sd kd s m 0))), none, none]) i81_45 ⟨Nat.le_of_ble_eq_true rfl, rfl⟩ rfl ?_
  refine ev_iconst (v := nI 0) i81_47 (by decide) ?_
  refine ev_istore (L' := [some (.ref 0), some (.int (nI 1)), some (.int (nI m)), some (.int (bI u)), some (.int (nI v)), some (.ref 108), some (.int (nI 0)), some (.int (nI (onN n sd kd s m 0))), some (.int (nI 0)), none]) i81_48 ⟨Nat.le_of_ble_eq_true rfl, rfl⟩ rfl ?_
  have hon8 := onN_le (n := n) (sd := sd) (kd := kd) (s := s) (m := m) (c := 0)
  refine (lq81_1 b3 b4 b5 b6 hm hv f0 fH fM hY _ 0 0 _ H2 (Nat.zero_add _) (by omega) (Or.inl rfl) hO2 hT2 _).post (fun r H' hq => ?_)
  have hO4 := hO1.trans hq.2.2 (C := fun j => mdC 11 j ∨ chC 108 j) (fun _ q => Or.inr q) (fun _ q => Or.inl q)
  exact ⟨hq.1, hI.tmp (hO4.weaken (fun j q => by unfold mdC chC at q; unfold tmC; omega)) ⟨hq.2.1, ⟨_, hYo.off hO4 (by unfold mdC chC; omega) (by unfold mdC chC; omega)⟩, ⟨_, (hY.off hq.2.2 (by unfold mdC; omega) (by unfold mdC; omega))⟩, _, hO4.at hpr (by unfold mdC chC; omega)⟩, hO4.weaken (fun j q => by unfold mdC chC at q; unfold xC; omega)⟩
theorem x81s {tb : dxT} {H : dxH} {tx : Nat → Nat} {ln n : Nat} {sd kd : Nat → Nat} {s : Sn} {am : Nat} {stk : Nat → Sn} {kp : Nat → Bool} {ks : Nat → Sn} {tm : Nat} {tc th : Nat → Nat} {td : Nat → Bool} {sed : Int64} {x y v : Int32} {u : Bool} (hI : CInv H tx ln n sd kd s am stk kp ks tm tc th td sed) (hS : SpOK tx ln n sd kd s am stk kp ks tm tc th) (h : inR y 2 = false) : Cl tb 81 [.ref 0, .int y, .int x, .int (bI u), .int v] H (fun r H' => r = some (.int (-2)) ∧ CInv H' tx ln n sd kd s am stk kp ks tm tc th td sed ∧ Off xC H H') := by
  obtain ⟨f0, fT, fH, fM, fA, fK, fL, fP⟩ := id hI
  obtain ⟨⟨b1, b2⟩, b3, b4, b5, b6, b7, b8, b9, b10, b11⟩ := id hS
  have hT := fP.1
  have g0 := f0
  unfold CC at g0
  obtain ⟨m0, m1, m2, m3, m4⟩ := id fM
  obtain ⟨_, _, _, _, _, _, _, _, ⟨t0, _⟩, _⟩ := id hT
  have hb : HE n < 64 := HE_lt b3
  have ha : 6 ≤ 6 := Nat.le_refl 6
  show Ev tb 81 0 [some (.ref 0), some (.int y), some (.int x), some (.int (bI u)), some (.int v), none, none, none, none, none] [] H _
  refine ev_iload_n i81_0 rfl ?_
  refine ev_callS (vs := [.int y]) (rest := []) i81_1 ci81 lk7_166 (Or.inl rfl) np97 (by decide +kernel) (Nat.le_of_ble_eq_true rfl) ⟨rfl, rfl, Nat.le_of_ble_eq_true rfl⟩ rfl (c97) (fun r HH hq => ?_)
  obtain ⟨rfl, rfl⟩ := hq
  show Ev tb 81 4 [some (.ref 0), some (.int y), some (.int x), some (.int (bI u)), some (.int v), none, none, none, none, none] [.int (bI (inR y 2))] H _
  refine evb_if_eq (t := 25) i81_4 (by decide) (fun z4 => ?_) (fun z4 => by exfalso; rw [h] at z4; cases z4)
  refine ev_bipush (v := (-2)) i81_25 (by decide) ?_
  refine ev_iret i81_27 (by decide +kernel) ?_
  exact ⟨rfl, hI, Off.rf⟩
theorem x81f {tb : dxT} {H : dxH} {tx : Nat → Nat} {ln n : Nat} {sd kd : Nat → Nat} {s : Sn} {am : Nat} {stk : Nat → Sn} {kp : Nat → Bool} {ks : Nat → Sn} {tm : Nat} {tc th : Nat → Nat} {td : Nat → Bool} {sed : Int64} {q : Nat} {x v : Int32} {u : Bool} (hI : CInv H tx ln n sd kd s am stk kp ks tm tc th td sed) (hS : SpOK tx ln n sd kd s am stk kp ks tm tc th) (hs : q < 2) (h : ahdB x = false) : Cl tb 81 [.ref 0, .int (nI q), .int x, .int (bI u), .int v] H (fun r H' => r = some (.int (-2)) ∧ CInv H' tx ln n sd kd s am stk kp ks tm tc th td sed ∧ Off xC H H') := by
  obtain ⟨f0, fT, fH, fM, fA, fK, fL, fP⟩ := id hI
  obtain ⟨⟨b1, b2⟩, b3, b4, b5, b6, b7, b8, b9, b10, b11⟩ := id hS
  have hT := fP.1
  have g0 := f0
  unfold CC at g0
  obtain ⟨m0, m1, m2, m3, m4⟩ := id fM
  obtain ⟨_, _, _, _, _, _, _, _, ⟨t0, _⟩, _⟩ := id hT
  have hb : HE n < 64 := HE_lt b3
  have ha : 6 ≤ 6 := Nat.le_refl 6
  show Ev tb 81 0 [some (.ref 0), some (.int (nI q)), some (.int x), some (.int (bI u)), some (.int v), none, none, none, none, none] [] H _
  refine ev_iload_n i81_0 rfl ?_
  refine ev_callS (vs := [.int (nI q)]) (rest := []) i81_1 ci81 lk7_166 (Or.inl rfl) np97 (by decide +kernel) (Nat.le_of_ble_eq_true rfl) ⟨rfl, rfl, Nat.le_of_ble_eq_true rfl⟩ rfl (c97n (by omega)) (fun r HH hq => ?_)
  obtain ⟨rfl, rfl⟩ := hq
  show Ev tb 81 4 [some (.ref 0), some (.int (nI q)), some (.int x), some (.int (bI u)), some (.int v), none, none, none, none, none] [.int (bI (decide (q < 2)))] H _
  refine evd_if_eq (t := 25) i81_4 (by decide) (fun z4 => by exfalso; omega) (fun z4 => ?_)
  refine ev_iload_n i81_7 rfl ?_
  refine ev_callS (vs := [.int x]) (rest := []) i81_8 ci81 lk7_156 (Or.inl rfl) np99 (by decide +kernel) (Nat.le_of_ble_eq_true rfl) ⟨rfl, rfl, Nat.le_of_ble_eq_true rfl⟩ rfl (c99f (by assumption)) (fun r HH hq => ?_)
  obtain ⟨rfl, rfl⟩ := hq
  show Ev tb 81 11 [some (.ref 0), some (.int (nI q)), some (.int x), some (.int (bI u)), some (.int v), none, none, none, none, none] [.int (bI false)] H _
  refine evb_if_eq (t := 25) i81_11 (by decide) (fun z11 => ?_) (fun z11 => by exfalso; cases z11)
  refine ev_bipush (v := (-2)) i81_25 (by decide) ?_
  refine ev_iret i81_27 (by decide +kernel) ?_
  exact ⟨rfl, hI, Off.rf⟩
theorem x81o {tb : dxT} {H : dxH} {tx : Nat → Nat} {ln n : Nat} {sd kd : Nat → Nat} {s : Sn} {am : Nat} {stk : Nat → Sn} {kp : Nat → Bool} {ks : Nat → Sn} {tm : Nat} {tc th : Nat → Nat} {td : Nat → Bool} {sed : Int64} {q m : Nat} {v : Int32} {u : Bool} (hI : CInv H tx ln n sd kd s am stk kp ks tm tc th td sed) (hS : SpOK tx ln n sd kd s am stk kp ks tm tc th) (hs : q < 2) (hm1 : 1 ≤ m) (hm : m ≤ 8) (h : inR v 3 = false) : Cl tb 81 [.ref 0, .int (nI q), .int (nI m), .int (bI u), .int v] H (fun r H' => r = some (.int (-2)) ∧ CInv H' tx ln n sd kd s am stk kp ks tm tc th td sed ∧ Off xC H H') := by
  obtain ⟨f0, fT, fH, fM, fA, fK, fL, fP⟩ := id hI
  obtain ⟨⟨b1, b2⟩, b3, b4, b5, b6, b7, b8, b9, b10, b11⟩ := id hS
  have hT := fP.1
  have g0 := f0
  unfold CC at g0
  obtain ⟨m0, m1, m2, m3, m4⟩ := id fM
  obtain ⟨_, _, _, _, _, _, _, _, ⟨t0, _⟩, _⟩ := id hT
  have hb : HE n < 64 := HE_lt b3
  have ha : 6 ≤ 6 := Nat.le_refl 6
  have h1 := of_decide_eq_false h
  show Ev tb 81 0 [some (.ref 0), some (.int (nI q)), some (.int (nI m)), some (.int (bI u)), some (.int v), none, none, none, none, none] [] H _
  refine ev_iload_n i81_0 rfl ?_
  refine ev_callS (vs := [.int (nI q)]) (rest := []) i81_1 ci81 lk7_166 (Or.inl rfl) np97 (by decide +kernel) (Nat.le_of_ble_eq_true rfl) ⟨rfl, rfl, Nat.le_of_ble_eq_true rfl⟩ rfl (c97n (by omega)) (fun r HH hq => ?_)
  obtain ⟨rfl, rfl⟩ := hq
  show Ev tb 81 4 [some (.ref 0), some (.int (nI q)), some (.int (nI m)), some (.int (bI u)), some (.int v), none, none, none, none, none] [.int (bI (decide (q < 2)))] H _
  refine evd_if_eq (t := 25) i81_4 (by decide) (fun z4 => by exfalso; omega) (fun z4 => ?_)
  refine ev_iload_n i81_7 rfl ?_
  refine ev_callS (vs := [.int (nI m)]) (rest := []) i81_8 ci81 lk7_156 (Or.inl rfl) np99 (by decide +kernel) (Nat.le_of_ble_eq_true rfl) ⟨rfl, rfl, Nat.le_of_ble_eq_true rfl⟩ rfl (c99t (by omega) (by omega)) (fun r HH hq => ?_)
  obtain ⟨rfl, rfl⟩ := hq
  show Ev tb 81 11 [some (.ref 0), some (.int (nI q)), some (.int (nI m)), some (.int (bI u)), some (.int v), none, none, none, none, none] [.int (bI true)] H _
  refine evb_if_eq (t := 25) i81_11 (by decide) (fun z11 => by exfalso; cases z11) (fun z11 => ?_)
  refine ev_iload i81_14 rfl ?_
  refine ev_if_lt (t := 25) i81_16 (by decide) (fun z16 => ?_) (fun z16 => ?_)
  · refine ev_bipush (v := (-2)) i81_25 (by decide) ?_
    refine ev_iret i81_27 (by decide +kernel) ?_
    exact ⟨rfl, hI, Off.rf⟩
  · refine ev_iload i81_19 rfl ?_
    refine ev_iconst (v := nI 2) i81_21 (by decide) ?_
    refine ev_icmp_le (t := 28) i81_22 (by decide) (fun z22 => by exfalso; exact h1 ⟨z16, Int32.lt_of_le_of_lt z22 (by decide)⟩) (fun z22 => ?_)
    refine ev_bipush (v := (-2)) i81_25 (by decide) ?_
    refine ev_iret i81_27 (by decide +kernel) ?_
    exact ⟨rfl, hI, Off.rf⟩
