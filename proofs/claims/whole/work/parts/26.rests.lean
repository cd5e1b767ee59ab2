/-! the class's calls: sides at rest, the loops  -/
/-- many at rest, the first: lines from i on -/
def rsJ (g : Nat → Nat → Int32) (la lb : Nat) (v : Nat → Nat → Nat) (i : Nat) : Nat → Nat → Nat × Int32 → Nat × Int32
  | 0, _, p => p
  | d + 1, j, p => rsJ g la lb v i d (j + 1) (if rstF g la lb i j = true then (p.1 + 1, if p.2 = -9 then nI (v i j) else p.2) else p)
def rsI (g : Nat → Nat → Int32) (la lb : Nat) (v : Nat → Nat → Nat) : Nat → Nat → Nat × Int32 → Nat × Int32
  | 0, _, p => p
  | d + 1, i, p => rsI g la lb v d (i + 1) (rsJ g la lb v i lb 0 p)
theorem lq89a {tb : dxT} {H : dxH} {n : Nat} {sd kd : Nat → Nat} {s : Sn} {sed : Int64} {m v : Nat} (b3 : n ≤ 6) (b4 : ∀ j, sd j < 2) (b5 : ∀ j, kd j < 4) (b6 : SnOK n s) (hm : m ≤ 8) (hla : (chs n sd s 0).length * (chs n sd s 1).length ≤ 176) (F0 : CC H sed) (FH : HrdAt H n sd kd) (FM : MdX H 6 n s) (HY0 : ChAt H 106 (chs n sd s 0)) (HY1 : ChAt H 108 (chs n sd s 1)) {Q : Option Value → dxH → Prop} (i : Nat) (hi : i < (chs n sd s 0).length) (v8 v9 : Option Value) : ∀ (d j : Nat) (H2 : dxH) (f : Nat → Int32), j + d = (chs n sd s 1).length → Off (fun j => mdC 11 j ∨ j = 110) H H2 → ShpM H2 11 → PrAt H2 f → prOK n sd kd s m (chs n sd s 0) (chs n sd s 1) i j f → (∀ H3 f3, Off (fun j => mdC 11 j ∨ j = 110) H H3 → ShpM H3 11 → PrAt H3 f3 → prOK n sd kd s m (chs n sd s 0) (chs n sd s 1) (i + 1) 0 f3 → Ev tb 89 102 [some (.ref 0), some (.int (nI m)), some (.int (nI v)), some (.ref 106), some (.ref 108), some (.int (nI ((i + 1) * (chs n sd s 1).length))), some (.int (nI i)), some (.int (nI (chs n sd s 1).length)), v8, v9] [] H3 Q) → Ev tb 89 50 [some (.ref 0), some (.int (nI m)), some (.int (nI v)), some (.ref 106), some (.ref 108), some (.int (nI (i * (chs n sd s 1).length + j))), some (.int (nI i)), some (.int (nI j)), v8, v9] [] H2 Q
  | 0, j, H2, f, hj, hOO, hT, hp, hok, hQ => by
    obtain rfl : j = (chs n sd s 1).length := by omega
    have hpl : i * (chs n sd s 1).length + (chs n sd s 1).length ≤ 176 := by
      have h1 : (i + 1) * (chs n sd s 1).length ≤ (chs n sd s 0).length * (chs n sd s 1).length := Nat.mul_le_mul_right _ hi
      rw [Nat.add_mul, Nat.one_mul] at h1
      omega
    have f0 := F0.off hOO (by unfold mdC; omega)
    have fH := FH.off hOO (by unfold mdC; omega) (by unfold mdC; omega) (by unfold mdC; omega)
    have fM := FM.off hOO (fun j u1 u2 => by unfold mdC; omega)
    have hY0 := HY0.off hOO (by unfold mdC; omega) (by unfold mdC; omega)
    have hY1 := HY1.off hOO (by unfold mdC; omega) (by unfold mdC; omega)
    obtain ⟨l26, y0, _⟩ := id hY0
    obtain ⟨r26, y9, _⟩ := id hY1
    have g0 := f0
    unfold CC at g0
    unfold PrAt at hp
    refine ev_iload i89_50 rfl ?_
    refine ev_aload i89_52 rfl ?_
    refine ev_callV (vs := []) (rest := [.int (nI ((chs n sd s 1).length))]) i89_54 ci89 lk7_179 (congrArg (fun q => q + 1) np9) ci9 (by decide) (by decide +kernel) (Nat.le_of_ble_eq_true rfl) ⟨rfl, rfl, Nat.le_of_ble_eq_true rfl⟩ rfl (by assumption) (c9 hY1) (fun r HH hq => ?_)
    obtain ⟨rfl, rfl⟩ := hq
    show Ev tb 89 57 [some (.ref 0), some (.int (nI m)), some (.int (nI v)), some (.ref 106), some (.ref 108), some (.int (nI (i * (chs n sd s 1).length + (chs n sd s 1).length))), some (.int (nI i)), some (.int (nI ((chs n sd s 1).length))), v8, v9] [.int (nI ((chs n sd s 1).length)), .int (nI ((chs n sd s 1).length))] H2 _
    refine evn_icmp_ge (t := 102) i89_57 (by decide) (by omega) (fun z57 => ?_) (fun z57 => by exfalso; omega)
    have e1 : i * (chs n sd s 1).length + (chs n sd s 1).length = (i + 1) * (chs n sd s 1).length := by rw [Nat.add_mul, Nat.one_mul]
    rw [e1]
    exact hQ H2 f hOO hT hp hok.line
  | d + 1, j, H2, f, hj, hOO, hT, hp, hok, hQ => by
    have hpl : i * (chs n sd s 1).length + (chs n sd s 1).length ≤ 176 := by
      have h1 : (i + 1) * (chs n sd s 1).length ≤ (chs n sd s 0).length * (chs n sd s 1).length := Nat.mul_le_mul_right _ hi
      rw [Nat.add_mul, Nat.one_mul] at h1
      omega
    have f0 := F0.off hOO (by unfold mdC; omega)
    have fH := FH.off hOO (by unfold mdC; omega) (by unfold mdC; omega) (by unfold mdC; omega)
    have fM := FM.off hOO (fun j u1 u2 => by unfold mdC; omega)
    have hY0 := HY0.off hOO (by unfold mdC; omega) (by unfold mdC; omega)
    have hY1 := HY1.off hOO (by unfold mdC; omega) (by unfold mdC; omega)
    obtain ⟨l26, y0, _⟩ := id hY0
    obtain ⟨r26, y9, _⟩ := id hY1
    have g0 := f0
    unfold CC at g0
    unfold PrAt at hp
    refine ev_iload i89_50 rfl ?_
    refine ev_aload i89_52 rfl ?_
    refine ev_callV (vs := []) (rest := [.int (nI j)]) i89_54 ci89 lk7_179 (congrArg (fun q => q + 1) np9) ci9 (by decide) (by decide +kernel) (Nat.le_of_ble_eq_true rfl) ⟨rfl, rfl, Nat.le_of_ble_eq_true rfl⟩ rfl (by assumption) (c9 hY1) (fun r HH hq => ?_)
    obtain ⟨rfl, rfl⟩ := hq
    show Ev tb 89 57 [some (.ref 0), some (.int (nI m)), some (.int (nI v)), some (.ref 106), some (.ref 108), some (.int (nI (i * (chs n sd s 1).length + j))), some (.int (nI i)), some (.int (nI j)), v8, v9] [.int (nI ((chs n sd s 1).length)), .int (nI j)] H2 _
    refine evn_icmp_ge (t := 102) i89_57 (by decide) (by omega) (fun z57 => by exfalso; omega) (fun z57 => ?_)
    refine ev_iload i89_60 rfl ?_
    refine ev_sipush (v := nI 176) i89_62 (by decide) ?_
    refine evn_icmp_ge (t := 102) i89_65 (by decide) (by omega) (fun z65 => by exfalso; omega) (fun z65 => ?_)
    refine ev_aload_n i89_68 rfl ?_
    refine ev_get i89_69 ci89 fl7_72 (by assumption) rfl ?_
    refine ev_iload i89_72 rfl ?_
    refine ev_aload_n i89_74 rfl ?_
    refine ev_aload_n i89_75 rfl ?_
    refine ev_iload i89_76 rfl ?_
    refine ev_callV (vs := [.int (nI i)]) (rest := [.ref 0, .int (nI (i * (chs n sd s 1).length + j)), .ref 110]) i89_78 ci89 lk7_180 (congrArg (fun q => q + 1) np10) ci10 (by decide) (by decide +kernel) (Nat.le_of_ble_eq_true rfl) ⟨rfl, rfl, Nat.le_of_ble_eq_true rfl⟩ rfl (by assumption) (c10 hY0 (by omega)) (fun r HH hq => ?_)
    obtain ⟨rfl, rfl⟩ := hq
    show Ev tb 89 81 [some (.ref 0), some (.int (nI m)), some (.int (nI v)), some (.ref 106), some (.ref 108), some (.int (nI (i * (chs n sd s 1).length + j))), some (.int (nI i)), some (.int (nI j)), v8, v9] [.int (nI ((chs n sd s 0).getD i 0)), .ref 0, .int (nI (i * (chs n sd s 1).length + j)), .ref 110] H2 _
    refine ev_aload i89_81 rfl ?_
    refine ev_iload i89_83 rfl ?_
    refine ev_callV (vs := [.int (nI j)]) (rest := [.int (nI ((chs n sd s 0).getD i 0)), .ref 0, .int (nI (i * (chs n sd s 1).length + j)), .ref 110]) i89_85 ci89 lk7_180 (congrArg (fun q => q + 1) np10) ci10 (by decide) (by decide +kernel) (Nat.le_of_ble_eq_true rfl) ⟨rfl, rfl, Nat.le_of_ble_eq_true rfl⟩ rfl (by assumption) (c10 hY1 (by omega)) (fun r HH hq => ?_)
    obtain ⟨rfl, rfl⟩ := hq
    show Ev tb 89 88 [some (.ref 0), some (.int (nI m)), some (.int (nI v)), some (.ref 106), some (.ref 108), some (.int (nI (i * (chs n sd s 1).length + j))), some (.int (nI i)), some (.int (nI j)), v8, v9] [.int (nI ((chs n sd s 1).getD j 0)), .int (nI ((chs n sd s 0).getD i 0)), .ref 0, .int (nI (i * (chs n sd s 1).length + j)), .ref 110] H2 _
    refine ev_iload_n i89_88 rfl ?_
    refine ev_callV (vs := [.int (nI ((chs n sd s 0).getD i 0)), .int (nI ((chs n sd s 1).getD j 0)), .int (nI m)]) (rest := [.int (nI (i * (chs n sd s 1).length + j)), .ref 110]) i89_89 ci89 lk7_162 (congrArg (fun q => q + 1) np103) ci103 (by decide) (by decide +kernel) (Nat.le_of_ble_eq_true rfl) ⟨rfl, rfl, Nat.le_of_ble_eq_true rfl⟩ rfl (by assumption) (c103 f0 fH fM hT b3 b4 b5 b6 (chs_all b3 _ (getD_mem hi)) (chs_all b3 _ (getD_mem (show j < (chs n sd s 1).length by omega))) hm) (fun r H3 hq => ?_)
    obtain ⟨rfl, hT, hO3⟩ := hq
    have hp := hO3.at hp (by unfold mdC; omega)
    have hOO := hOO.trans hO3 (C := (fun j => mdC 11 j ∨ j = 110)) (fun _ q => q) (fun _ q => Or.inl q)
    show Ev tb 89 92 [some (.ref 0), some (.int (nI m)), some (.int (nI v)), some (.ref 106), some (.ref 108), some (.int (nI (i * (chs n sd s 1).length + j))), some (.int (nI i)), some (.int (nI j)), v8, v9] [.int (prF n sd kd s m (chs n sd s 0) (chs n sd s 1) i j), .int (nI (i * (chs n sd s 1).length + j)), .ref 110] H3 _
    refine evs_iastw i89_92 (by assumption) (by omega) (fun H4 hH4 => ?_)
    refine evn_iinc (d := 1) (L' := [some (.ref 0), some (.int (nI m)), some (.int (nI v)), some (.ref 106), some (.ref 108), some (.int (nI ((i * (chs n sd s 1).length + j) + 1))), some (.int (nI i)), some (.int (nI j)), v8, v9]) i89_93 rfl rfl (by decide) rfl ?_
    refine evn_iinc (d := 1) (L' := [some (.ref 0), some (.int (nI m)), some (.int (nI v)), some (.ref 106), some (.ref 108), some (.int (nI ((i * (chs n sd s 1).length + j) + 1))), some (.int (nI i)), some (.int (nI (j + 1))), v8, v9]) i89_96 rfl rfl (by decide) rfl ?_
    refine ev_goto (t := 50) i89_99 (by decide) ?_
    refine lq89a b3 b4 b5 b6 hm hla F0 FH FM HY0 HY1 i hi v8 v9 d (j + 1) H4 _ (by omega) (by rw [hH4]; exact hOO.set (Or.inr rfl)) (hT.off (A := fun j => j = 110) (by rw [hH4]; exact Off.rf.set rfl) (by omega)) (by rw [hH4]; exact set_self hp) (hok.next (by omega)) hQ
theorem lq89b {tb : dxT} {H : dxH} {n : Nat} {sd kd : Nat → Nat} {s : Sn} {sed : Int64} {m v : Nat} (b3 : n ≤ 6) (b4 : ∀ j, sd j < 2) (b5 : ∀ j, kd j < 4) (b6 : SnOK n s) (hm : m ≤ 8) (hla : (chs n sd s 0).length * (chs n sd s 1).length ≤ 176) (F0 : CC H sed) (FH : HrdAt H n sd kd) (FM : MdX H 6 n s) (HY0 : ChAt H 106 (chs n sd s 0)) (HY1 : ChAt H 108 (chs n sd s 1)) {Q : Option Value → dxH → Prop} (v9 : Option Value) : ∀ (d i : Nat) (H2 : dxH) (f : Nat → Int32), i + d = (chs n sd s 0).length → Off (fun j => mdC 11 j ∨ j = 110) H H2 → ShpM H2 11 → PrAt H2 f → prOK n sd kd s m (chs n sd s 0) (chs n sd s 1) i 0 f → (∀ H3 f3 w7 w8, Off (fun j => mdC 11 j ∨ j = 110) H H3 → ShpM H3 11 → PrAt H3 f3 → prOK n sd kd s m (chs n sd s 0) (chs n sd s 1) (chs n sd s 0).length 0 f3 → Ev tb 89 108 [some (.ref 0), some (.int (nI m)), some (.int (nI v)), some (.ref 106), some (.ref 108), some (.int (nI ((chs n sd s 0).length * (chs n sd s 1).length))), some (.int (nI (chs n sd s 0).length)), w7, w8, v9] [] H3 Q) → ∀ v7 v8, Ev tb 89 38 [some (.ref 0), some (.int (nI m)), some (.int (nI v)), some (.ref 106), some (.ref 108), some (.int (nI (i * (chs n sd s 1).length))), some (.int (nI i)), v7, v8, v9] [] H2 Q
  | 0, i, H2, f, hi, hOO, hT, hp, hok, hQ, v7, v8 => by
    obtain rfl : i = (chs n sd s 0).length := by omega
    have f0 := F0.off hOO (by unfold mdC; omega)
    have fH := FH.off hOO (by unfold mdC; omega) (by unfold mdC; omega) (by unfold mdC; omega)
    have fM := FM.off hOO (fun j u1 u2 => by unfold mdC; omega)
    have hY0 := HY0.off hOO (by unfold mdC; omega) (by unfold mdC; omega)
    have hY1 := HY1.off hOO (by unfold mdC; omega) (by unfold mdC; omega)
    obtain ⟨l26, y0, _⟩ := id hY0
    obtain ⟨r26, y9, _⟩ := id hY1
    have g0 := f0
    unfold CC at g0
    unfold PrAt at hp
    refine ev_iload i89_38 rfl ?_
    refine ev_aload_n i89_40 rfl ?_
    refine ev_callV (vs := []) (rest := [.int (nI ((chs n sd s 0).length))]) i89_41 ci89 lk7_179 (congrArg (fun q => q + 1) np9) ci9 (by decide) (by decide +kernel) (Nat.le_of_ble_eq_true rfl) ⟨rfl, rfl, Nat.le_of_ble_eq_true rfl⟩ rfl (by assumption) (c9 hY0) (fun r HH hq => ?_)
    obtain ⟨rfl, rfl⟩ := hq
    show Ev tb 89 44 [some (.ref 0), some (.int (nI m)), some (.int (nI v)), some (.ref 106), some (.ref 108), some (.int (nI ((chs n sd s 0).length * (chs n sd s 1).length))), some (.int (nI ((chs n sd s 0).length))), v7, v8, v9] [.int (nI ((chs n sd s 0).length)), .int (nI ((chs n sd s 0).length))] H2 _
    refine evn_icmp_ge (t := 108) i89_44 (by decide) (by omega) (fun z44 => ?_) (fun z44 => by exfalso; omega)
    exact hQ H2 f v7 v8 hOO hT hp hok
  | d + 1, i, H2, f, hi, hOO, hT, hp, hok, hQ, v7, v8 => by
    have f0 := F0.off hOO (by unfold mdC; omega)
    have fH := FH.off hOO (by unfold mdC; omega) (by unfold mdC; omega) (by unfold mdC; omega)
    have fM := FM.off hOO (fun j u1 u2 => by unfold mdC; omega)
    have hY0 := HY0.off hOO (by unfold mdC; omega) (by unfold mdC; omega)
    have hY1 := HY1.off hOO (by unfold mdC; omega) (by unfold mdC; omega)
    obtain ⟨l26, y0, _⟩ := id hY0
    obtain ⟨r26, y9, _⟩ := id hY1
    have g0 := f0
    unfold CC at g0
    unfold PrAt at hp
    refine ev_iload i89_38 rfl ?_
    refine ev_aload_n i89_40 rfl ?_
    refine ev_callV (vs := []) (rest := [.int (nI i)]) i89_41 ci89 lk7_179 (congrArg (fun q => q + 1) np9) ci9 (by decide) (by decide +kernel) (Nat.le_of_ble_eq_true rfl) ⟨rfl, rfl, Nat.le_of_ble_eq_true rfl⟩ rfl (by assumption) (c9 hY0) (fun r HH hq => ?_)
    obtain ⟨rfl, rfl⟩ := hq
    show Ev tb 89 44 [some (.ref 0), some (.int (nI m)), some (.int (nI v)), some (.ref 106), some (.ref 108), some (.int (nI (i * (chs n sd s 1).length))), some (.int (nI i)), v7, v8, v9] [.int (nI ((chs n sd s 0).length)), .int (nI i)] H2 _
    refine evn_icmp_ge (t := 108) i89_44 (by decide) (by omega) (fun z44 => by exfalso; omega) (fun z44 => ?_)
    refine ev_iconst (v := nI 0) i89_47 (by decide) ?_
    refine ev_istore (L' := [some (.ref 0), some (.int (nI m)), some (.int (nI v)), some (.ref 106), some (.ref 108), some (.int (nI (i * (chs n sd s 1).length))), some (.int (nI i)), some (.int (nI 0)), v8, v9]) i89_48 ⟨Nat.le_of_ble_eq_true rfl, rfl⟩ rfl ?_
    refine lq89a b3 b4 b5 b6 hm hla F0 FH FM HY0 HY1 i (by omega) v8 v9 (chs n sd s 1).length 0 H2 f (Nat.zero_add _) hOO hT hp hok (fun H3 f3 h1 h2 h3 h4 => ?_)
    refine evn_iinc (d := 1) (L' := [some (.ref 0), some (.int (nI m)), some (.int (nI v)), some (.ref 106), some (.ref 108), some (.int (nI ((i + 1) * (chs n sd s 1).length))), some (.int (nI (i + 1))), some (.int (nI ((chs n sd s 1).length))), v8, v9]) i89_102 rfl rfl (by decide) rfl ?_
    refine ev_goto (t := 38) i89_105 (by decide) ?_
    exact lq89b b3 b4 b5 b6 hm hla F0 FH FM HY0 HY1 v9 d (i + 1) H3 f3 (by omega) h1 h2 h3 h4 hQ _ _
theorem rst_pr {n : Nat} {sd kd : Nat → Nat} {s : Sn} {m : Nat} {l0 l1 : List Nat} {f : Nat → Int32} (h : prOK n sd kd s m l0 l1 l0.length 0 f) {i j : Nat} (hi : i < l0.length) (hj : j < l1.length) : rstF (fun a b => f (a * l1.length + b)) l0.length l1.length i j = rstF (prF n sd kd s m l0 l1) l0.length l1.length i j := by
  have e : ∀ a b, a < l0.length → b < l1.length → f (a * l1.length + b) = prF n sd kd s m l0 l1 a b := fun a b ha hb => h a b ha hb (Or.inl ha)
  have any_congr : ∀ (p q : Nat → Bool) (d k : Nat), (∀ i, k ≤ i → i < k + d → p i = q i) → anyB p d k = anyB q d k := by
    intro p q d
    induction d with
    | zero => intro k _; rfl
    | succ d ih =>
      intro k hk
      unfold anyB
      rw [hk k (by omega) (by omega), ih (k + 1) (fun i h1 h2 => hk i (by omega) (by omega))]
  unfold rstF
  simp only [e i j hi hj]
  rw [any_congr (fun k => decide (prF n sd kd s m l0 l1 i j < f (k * l1.length + j))) (fun k => decide (prF n sd kd s m l0 l1 i j < prF n sd kd s m l0 l1 k j)) l0.length 0 (fun k _ hk => by simp only [e k j (by omega) hj]), any_congr (fun k => !decide (f (i * l1.length + k) = -1) && decide (f (i * l1.length + k) < prF n sd kd s m l0 l1 i j)) (fun k => !decide (prF n sd kd s m l0 l1 i k = -1) && decide (prF n sd kd s m l0 l1 i k < prF n sd kd s m l0 l1 i j)) l1.length 0 (fun k _ hk => by simp only [e i k hi (show k < l1.length by omega)])]
theorem lq89c {tb : dxT} {H : dxH} {f : Nat → Int32} {n : Nat} {sd kd : Nat → Nat} {s : Sn} {sed : Int64} {m v c5 : Nat} (b3 : n ≤ 6) (hla : (chs n sd s 0).length * (chs n sd s 1).length ≤ 176) (f0 : CC H sed) (hY0 : ChAt H 106 (chs n sd s 0)) (hY1 : ChAt H 108 (chs n sd s 1)) (hp : PrAt H f) (hok : prOK n sd kd s m (chs n sd s 0) (chs n sd s 1) (chs n sd s 0).length 0 f) {Q : Option Value → dxH → Prop} (i : Nat) (hi : i < (chs n sd s 0).length) : ∀ (d j mn : Nat) (fs : Int32), j + d = (chs n sd s 1).length → mn + d < 100000 → (Ev tb 89 201 [some (.ref 0), some (.int (nI m)), some (.int (nI v)), some (.ref 106), some (.ref 108), some (.int (nI c5)), some (.int (nI ((rsJ (prF n sd kd s m (chs n sd s 0) (chs n sd s 1)) (chs n sd s 0).length (chs n sd s 1).length (fun i j => 1000 * (chs n sd s 0).getD i 0 + (chs n sd s 1).getD j 0) i d j (mn, fs)).1))), some (.int ((rsJ (prF n sd kd s m (chs n sd s 0) (chs n sd s 1)) (chs n sd s 0).length (chs n sd s 1).length (fun i j => 1000 * (chs n sd s 0).getD i 0 + (chs n sd s 1).getD j 0) i d j (mn, fs)).2)), some (.int (nI i)), some (.int (nI ((chs n sd s 1).length)))] [] H Q) → Ev tb 89 130 [some (.ref 0), some (.int (nI m)), some (.int (nI v)), some (.ref 106), some (.ref 108), some (.int (nI c5)), some (.int (nI mn)), some (.int fs), some (.int (nI i)), some (.int (nI j))] [] H Q
  | 0, j, mn, fs, hj, hmn, hQ => by
    obtain rfl : j = (chs n sd s 1).length := by omega
    obtain ⟨l26, y0, _⟩ := id hY0
    obtain ⟨r26, y9, _⟩ := id hY1
    have g0 := f0
    unfold CC at g0
    refine ev_iload i89_130 rfl ?_
    refine ev_aload i89_132 rfl ?_
    refine ev_callV (vs := []) (rest := [.int (nI ((chs n sd s 1).length))]) i89_134 ci89 lk7_179 (congrArg (fun q => q + 1) np9) ci9 (by decide) (by decide +kernel) (Nat.le_of_ble_eq_true rfl) ⟨rfl, rfl, Nat.le_of_ble_eq_true rfl⟩ rfl (by assumption) (c9 hY1) (fun r HH hq => ?_)
    obtain ⟨rfl, rfl⟩ := hq
    show Ev tb 89 137 [some (.ref 0), some (.int (nI m)), some (.int (nI v)), some (.ref 106), some (.ref 108), some (.int (nI c5)), some (.int (nI mn)), some (.int fs), some (.int (nI i)), some (.int (nI ((chs n sd s 1).length)))] [.int (nI ((chs n sd s 1).length)), .int (nI ((chs n sd s 1).length))] H _
    refine evn_icmp_ge (t := 201) i89_137 (by decide) (by omega) (fun z137 => ?_) (fun z137 => by exfalso; omega)
    exact hQ
  | d + 1, j, mn, fs, hj, hmn, hQ => by
    obtain ⟨l26, y0, _⟩ := id hY0
    obtain ⟨r26, y9, _⟩ := id hY1
    have g0 := f0
    unfold CC at g0
    refine ev_iload i89_130 rfl ?_
    refine ev_aload i89_132 rfl ?_
    refine ev_callV (vs := []) (rest := [.int (nI j)]) i89_134 ci89 lk7_179 (congrArg (fun q => q + 1) np9) ci9 (by decide) (by decide +kernel) (Nat.le_of_ble_eq_true rfl) ⟨rfl, rfl, Nat.le_of_ble_eq_true rfl⟩ rfl (by assumption) (c9 hY1) (fun r HH hq => ?_)
    obtain ⟨rfl, rfl⟩ := hq
    show Ev tb 89 137 [some (.ref 0), some (.int (nI m)), some (.int (nI v)), some (.ref 106), some (.ref 108), some (.int (nI c5)), some (.int (nI mn)), some (.int fs), some (.int (nI i)), some (.int (nI j))] [.int (nI ((chs n sd s 1).length)), .int (nI j)] H _
    refine evn_icmp_ge (t := 201) i89_137 (by decide) (by omega) (fun z137 => by exfalso; omega) (fun z137 => ?_)
    refine ev_aload_n i89_140 rfl ?_
    refine ev_iload i89_141 rfl ?_
    refine ev_iload i89_143 rfl ?_
    refine ev_aload_n i89_145 rfl ?_
    refine ev_callV (vs := []) (rest := [.int (nI j), .int (nI i), .ref 0]) i89_146 ci89 lk7_179 (congrArg (fun q => q + 1) np9) ci9 (by decide) (by decide +kernel) (Nat.le_of_ble_eq_true rfl) ⟨rfl, rfl, Nat.le_of_ble_eq_true rfl⟩ rfl (by assumption) (c9 hY0) (fun r HH hq => ?_)
    obtain ⟨rfl, rfl⟩ := hq
    show Ev tb 89 149 [some (.ref 0), some (.int (nI m)), some (.int (nI v)), some (.ref 106), some (.ref 108), some (.int (nI c5)), some (.int (nI mn)), some (.int fs), some (.int (nI i)), some (.int (nI j))] [.int (nI ((chs n sd s 0).length)), .int (nI j), .int (nI i), .ref 0] H _
    refine ev_aload i89_149 rfl ?_
    refine ev_callV (vs := []) (rest := [.int (nI ((chs n sd s 0).length)), .int (nI j), .int (nI i), .ref 0]) i89_151 ci89 lk7_179 (congrArg (fun q => q + 1) np9) ci9 (by decide) (by decide +kernel) (Nat.le_of_ble_eq_true rfl) ⟨rfl, rfl, Nat.le_of_ble_eq_true rfl⟩ rfl (by assumption) (c9 hY1) (fun r HH hq => ?_)
    obtain ⟨rfl, rfl⟩ := hq
    show Ev tb 89 154 [some (.ref 0), some (.int (nI m)), some (.int (nI v)), some (.ref 106), some (.ref 108), some (.int (nI c5)), some (.int (nI mn)), some (.int fs), some (.int (nI i)), some (.int (nI j))] [.int (nI ((chs n sd s 1).length)), .int (nI ((chs n sd s 0).length)), .int (nI j), .int (nI i), .ref 0] H _
    refine ev_callV (vs := [.int (nI i), .int (nI j), .int (nI ((chs n sd s 0).length)), .int (nI ((chs n sd s 1).length))]) (rest := []) i89_154 ci89 lk7_226 (congrArg (fun q => q + 1) np110) ci110 (by decide) (by decide +kernel) (Nat.le_of_ble_eq_true rfl) ⟨rfl, rfl, Nat.le_of_ble_eq_true rfl⟩ rfl (by assumption) (c110 (la := (chs n sd s 0).length) (lb := (chs n sd s 1).length) f0 hp hla hi (by omega)) (fun r HH hq => ?_)
    rw [rst_pr hok hi (show j < (chs n sd s 1).length by omega)] at hq
    obtain ⟨rfl, rfl⟩ := hq
    show Ev tb 89 157 [some (.ref 0), some (.int (nI m)), some (.int (nI v)), some (.ref 106), some (.ref 108), some (.int (nI c5)), some (.int (nI mn)), some (.int fs), some (.int (nI i)), some (.int (nI j))] [.int (bI (rstF (prF n sd kd s m (chs n sd s 0) (chs n sd s 1)) (chs n sd s 0).length (chs n sd s 1).length i j))] H _
    refine evb_if_eq (t := 195) i89_157 (by decide) (fun z157 => ?_) (fun z157 => ?_)
    · refine evn_iinc (d := 1) (L' := [some (.ref 0), some (.int (nI m)), some (.int (nI v)), some (.ref 106), some (.ref 108), some (.int (nI c5)), some (.int (nI mn)), some (.int fs), some (.int (nI i)), some (.int (nI (j + 1)))]) i89_195 rfl rfl (by decide) rfl ?_
      refine ev_goto (t := 130) i89_198 (by decide) ?_
      have e1 : (rsJ (prF n sd kd s m (chs n sd s 0) (chs n sd s 1)) (chs n sd s 0).length (chs n sd s 1).length (fun i j => 1000 * (chs n sd s 0).getD i 0 + (chs n sd s 1).getD j 0) i (d + 1) j (mn, fs)) = rsJ (prF n sd kd s m (chs n sd s 0) (chs n sd s 1)) (chs n sd s 0).length (chs n sd s 1).length (fun i j => 1000 * (chs n sd s 0).getD i 0 + (chs n sd s 1).getD j 0) i d (j + 1) (mn, fs) := by
        conv => lhs; unfold rsJ
        rw [if_neg (by simp [z157])]
      rw [e1] at hQ
      exact lq89c b3 hla f0 hY0 hY1 hp hok i hi d (j + 1) (mn) (fs) (by omega) (by omega) hQ
    · refine evn_iinc (d := 1) (L' := [some (.ref 0), some (.int (nI m)), some (.int (nI v)), some (.ref 106), some (.ref 108), some (.int (nI c5)), some (.int (nI (mn + 1))), some (.int fs), some (.int (nI i)), some (.int (nI j))]) i89_160 rfl rfl (by decide) rfl ?_
      refine ev_iload i89_163 rfl ?_
      refine ev_bipush (v := (-9)) i89_165 (by decide) ?_
      refine ev_icmp_ne (t := 191) i89_167 (by decide) (fun z167 => ?_) (fun z167 => ?_)
      · refine ev_iload i89_191 rfl ?_
        refine ev_istore (L' := [some (.ref 0), some (.int (nI m)), some (.int (nI v)), some (.ref 106), some (.ref 108), some (.int (nI c5)), some (.int (nI (mn + 1))), some (.int fs), some (.int (nI i)), some (.int (nI j))]) i89_193 ⟨Nat.le_of_ble_eq_true rfl, rfl⟩ rfl ?_
        refine evn_iinc (d := 1) (L' := [some (.ref 0), some (.int (nI m)), some (.int (nI v)), some (.ref 106), some (.ref 108), some (.int (nI c5)), some (.int (nI (mn + 1))), some (.int fs), some (.int (nI i)), some (.int (nI (j + 1)))]) i89_195 rfl rfl (by decide) rfl ?_
        refine ev_goto (t := 130) i89_198 (by decide) ?_
        have e1 : (rsJ (prF n sd kd s m (chs n sd s 0) (chs n sd s 1)) (chs n sd s 0).length (chs n sd s 1).length (fun i j => 1000 * (chs n sd s 0).getD i 0 + (chs n sd s 1).getD j 0) i (d + 1) j (mn, fs)) = rsJ (prF n sd kd s m (chs n sd s 0) (chs n sd s 1)) (chs n sd s 0).length (chs n sd s 1).length (fun i j => 1000 * (chs n sd s 0).getD i 0 + (chs n sd s 1).getD j 0) i d (j + 1) (mn + 1, fs) := by
          conv => lhs; unfold rsJ
          rw [if_pos z157]
          simp only [if_neg z167]
        rw [e1] at hQ
        exact lq89c b3 hla f0 hY0 hY1 hp hok i hi d (j + 1) (mn + 1) (fs) (by omega) (by omega) hQ
      · refine ev_sipush (v := nI 1000) i89_170 (by decide) ?_
        refine ev_aload_n i89_173 rfl ?_
        refine ev_iload i89_174 rfl ?_
        refine ev_callV (vs := [.int (nI i)]) (rest := [.int (nI 1000)]) i89_176 ci89 lk7_180 (congrArg (fun q => q + 1) np10) ci10 (by decide) (by decide +kernel) (Nat.le_of_ble_eq_true rfl) ⟨rfl, rfl, Nat.le_of_ble_eq_true rfl⟩ rfl (by assumption) (c10 hY0 (by omega)) (fun r HH hq => ?_)
        obtain ⟨rfl, rfl⟩ := hq
        show Ev tb 89 179 [some (.ref 0), some (.int (nI m)), some (.int (nI v)), some (.ref 106), some (.ref 108), some (.int (nI c5)), some (.int (nI (mn + 1))), some (.int fs), some (.int (nI i)), some (.int (nI j))] [.int (nI ((chs n sd s 0).getD i 0)), .int (nI 1000)] H _
        refine evn_imul i89_179 ?_
        refine ev_aload i89_180 rfl ?_
        refine ev_iload i89_182 rfl ?_
        refine ev_callV (vs := [.int (nI j)]) (rest := [.int (nI (1000 * ((chs n sd s 0).getD i 0)))]) i89_184 ci89 lk7_180 (congrArg (fun q => q + 1) np10) ci10 (by decide) (by decide +kernel) (Nat.le_of_ble_eq_true rfl) ⟨rfl, rfl, Nat.le_of_ble_eq_true rfl⟩ rfl (by assumption) (c10 hY1 (by omega)) (fun r HH hq => ?_)
        obtain ⟨rfl, rfl⟩ := hq
        show Ev tb 89 187 [some (.ref 0), some (.int (nI m)), some (.int (nI v)), some (.ref 106), some (.ref 108), some (.int (nI c5)), some (.int (nI (mn + 1))), some (.int fs), some (.int (nI i)), some (.int (nI j))] [.int (nI ((chs n sd s 1).getD j 0)), .int (nI (1000 * ((chs n sd s 0).getD i 0)))] H _
        refine evn_iadd i89_187 ?_
        refine ev_goto (t := 193) i89_188 (by decide) ?_
        refine ev_istore (L' := [some (.ref 0), some (.int (nI m)), some (.int (nI v)), some (.ref 106), some (.ref 108), some (.int (nI c5)), some (.int (nI (mn + 1))), some (.int (nI ((1000 * ((chs n sd s 0).getD i 0)) + ((chs n sd s 1).getD j 0)))), some (.int (nI i)), some (.int (nI j))]) i89_193 ⟨Nat.le_of_ble_eq_true rfl, rfl⟩ rfl ?_
        refine evn_iinc (d := 1) (L' := [some (.ref 0), some (.int (nI m)), some (.int (nI v)), some (.ref 106), some (.ref 108), some (.int (nI c5)), some (.int (nI (mn + 1))), some (.int (nI ((1000 * ((chs n sd s 0).getD i 0)) + ((chs n sd s 1).getD j 0)))), some (.int (nI i)), some (.int (nI (j + 1)))]) i89_195 rfl rfl (by decide) rfl ?_
        refine ev_goto (t := 130) i89_198 (by decide) ?_
        have e1 : (rsJ (prF n sd kd s m (chs n sd s 0) (chs n sd s 1)) (chs n sd s 0).length (chs n sd s 1).length (fun i j => 1000 * (chs n sd s 0).getD i 0 + (chs n sd s 1).getD j 0) i (d + 1) j (mn, fs)) = rsJ (prF n sd kd s m (chs n sd s 0) (chs n sd s 1)) (chs n sd s 0).length (chs n sd s 1).length (fun i j => 1000 * (chs n sd s 0).getD i 0 + (chs n sd s 1).getD j 0) i d (j + 1) (mn + 1, nI ((1000 * ((chs n sd s 0).getD i 0)) + ((chs n sd s 1).getD j 0))) := by
          conv => lhs; unfold rsJ
          rw [if_pos z157]
          simp only [if_pos z167]
        rw [e1] at hQ
        exact lq89c b3 hla f0 hY0 hY1 hp hok i hi d (j + 1) (mn + 1) (nI ((1000 * ((chs n sd s 0).getD i 0)) + ((chs n sd s 1).getD j 0))) (by omega) (by omega) hQ
theorem rsJ_le {g : Nat → Nat → Int32} {la lb : Nat} {v : Nat → Nat → Nat} {i : Nat} : ∀ {d j : Nat} {p : Nat × Int32}, (rsJ g la lb v i d j p).1 ≤ p.1 + d
  | 0, _, _ => Nat.le_refl _
  | d + 1, j, p => by
    unfold rsJ
    refine Nat.le_trans rsJ_le ?_
    split
    · show p.1 + 1 + d ≤ _; omega
    · omega
theorem lq89d {tb : dxT} {H : dxH} {f : Nat → Int32} {n : Nat} {sd kd : Nat → Nat} {s : Sn} {sed : Int64} {m v c5 : Nat} (b3 : n ≤ 6) (hla : (chs n sd s 0).length * (chs n sd s 1).length ≤ 176) (f0 : CC H sed) (hY0 : ChAt H 106 (chs n sd s 0)) (hY1 : ChAt H 108 (chs n sd s 1)) (hp : PrAt H f) (hok : prOK n sd kd s m (chs n sd s 0) (chs n sd s 1) (chs n sd s 0).length 0 f) {Q : Option Value → dxH → Prop} : ∀ (d i mn : Nat) (fs : Int32), i + d = (chs n sd s 0).length → mn + 30 * d < 1000 → (∀ w9, Ev tb 89 207 [some (.ref 0), some (.int (nI m)), some (.int (nI v)), some (.ref 106), some (.ref 108), some (.int (nI c5)), some (.int (nI ((rsI (prF n sd kd s m (chs n sd s 0) (chs n sd s 1)) (chs n sd s 0).length (chs n sd s 1).length (fun i j => 1000 * (chs n sd s 0).getD i 0 + (chs n sd s 1).getD j 0) d i (mn, fs)).1))), some (.int ((rsI (prF n sd kd s m (chs n sd s 0) (chs n sd s 1)) (chs n sd s 0).length (chs n sd s 1).length (fun i j => 1000 * (chs n sd s 0).getD i 0 + (chs n sd s 1).getD j 0) d i (mn, fs)).2)), some (.int (nI ((chs n sd s 0).length))), w9] [] H Q) → ∀ v9, Ev tb 89 118 [some (.ref 0), some (.int (nI m)), some (.int (nI v)), some (.ref 106), some (.ref 108), some (.int (nI c5)), some (.int (nI mn)), some (.int fs), some (.int (nI i)), v9] [] H Q
  | 0, i, mn, fs, hi, hmn, hQ, v9 => by
    obtain rfl : i = (chs n sd s 0).length := by omega
    obtain ⟨l26, y0, _⟩ := id hY0
    obtain ⟨r26, y9, _⟩ := id hY1
    have g0 := f0
    unfold CC at g0
    refine ev_iload i89_118 rfl ?_
    refine ev_aload_n i89_120 rfl ?_
    refine ev_callV (vs := []) (rest := [.int (nI ((chs n sd s 0).length))]) i89_121 ci89 lk7_179 (congrArg (fun q => q + 1) np9) ci9 (by decide) (by decide +kernel) (Nat.le_of_ble_eq_true rfl) ⟨rfl, rfl, Nat.le_of_ble_eq_true rfl⟩ rfl (by assumption) (c9 hY0) (fun r HH hq => ?_)
    obtain ⟨rfl, rfl⟩ := hq
    show Ev tb 89 124 [some (.ref 0), some (.int (nI m)), some (.int (nI v)), some (.ref 106), some (.ref 108), some (.int (nI c5)), some (.int (nI mn)), some (.int fs), some (.int (nI ((chs n sd s 0).length))), v9] [.int (nI ((chs n sd s 0).length)), .int (nI ((chs n sd s 0).length))] H _
    refine evn_icmp_ge (t := 207) i89_124 (by decide) (by omega) (fun z124 => ?_) (fun z124 => by exfalso; omega)
    exact hQ _
  | d + 1, i, mn, fs, hi, hmn, hQ, v9 => by
    obtain ⟨l26, y0, _⟩ := id hY0
    obtain ⟨r26, y9, _⟩ := id hY1
    have g0 := f0
    unfold CC at g0
    refine ev_iload i89_118 rfl ?_
    refine ev_aload_n i89_120 rfl ?_
    refine ev_callV (vs := []) (rest := [.int (nI i)]) i89_121 ci89 lk7_179 (congrArg (fun q => q + 1) np9) ci9 (by decide) (by decide +kernel) (Nat.le_of_ble_eq_true rfl) ⟨rfl, rfl, Nat.le_of_ble_eq_true rfl⟩ rfl (by assumption) (c9 hY0) (fun r HH hq => ?_)
    obtain ⟨rfl, rfl⟩ := hq
    show Ev tb 89 124 [some (.ref 0), some (.int (nI m)), some (.int (nI v)), some (.ref 106), some (.ref 108), some (.int (nI c5)), some (.int (nI mn)), some (.int fs), some (.int (nI i)), v9] [.int (nI ((chs n sd s 0).length)), .int (nI i)] H _
    refine evn_icmp_ge (t := 207) i89_124 (by decide) (by omega) (fun z124 => by exfalso; omega) (fun z124 => ?_)
    refine ev_iconst (v := nI 0) i89_127 (by decide) ?_
    refine ev_istore (L' := [some (.ref 0), some (.int (nI m)), some (.int (nI v)), some (.ref 106), some (.ref 108), some (.int (nI c5)), some (.int (nI mn)), some (.int fs), some (.int (nI i)), some (.int (nI 0))]) i89_128 ⟨Nat.le_of_ble_eq_true rfl, rfl⟩ rfl ?_
    refine lq89c b3 hla f0 hY0 hY1 hp hok i (by omega) (chs n sd s 1).length 0 mn fs (Nat.zero_add _) (by omega) ?_
    refine evn_iinc (d := 1) (L' := [some (.ref 0), some (.int (nI m)), some (.int (nI v)), some (.ref 106), some (.ref 108), some (.int (nI c5)), some (.int (nI ((rsJ (prF n sd kd s m (chs n sd s 0) (chs n sd s 1)) (chs n sd s 0).length (chs n sd s 1).length (fun i j => 1000 * (chs n sd s 0).getD i 0 + (chs n sd s 1).getD j 0) i (chs n sd s 1).length 0 (mn, fs)).1))), some (.int ((rsJ (prF n sd kd s m (chs n sd s 0) (chs n sd s 1)) (chs n sd s 0).length (chs n sd s 1).length (fun i j => 1000 * (chs n sd s 0).getD i 0 + (chs n sd s 1).getD j 0) i (chs n sd s 1).length 0 (mn, fs)).2)), some (.int (nI (i + 1))), some (.int (nI ((chs n sd s 1).length)))]) i89_201 rfl rfl (by decide) rfl ?_
    refine ev_goto (t := 118) i89_204 (by decide) ?_
    have hle := rsJ_le (g := (prF n sd kd s m (chs n sd s 0) (chs n sd s 1))) (la := (chs n sd s 0).length) (lb := (chs n sd s 1).length) (v := (fun i j => 1000 * (chs n sd s 0).getD i 0 + (chs n sd s 1).getD j 0)) (i := i) (d := (chs n sd s 1).length) (j := 0) (p := (mn, fs))
    exact lq89d b3 hla f0 hY0 hY1 hp hok d (i + 1) _ _ (by omega) (by simp only at hle; omega) hQ _
def rstP (n : Nat) (sd kd : Nat → Nat) (s : Sn) (m : Nat) : Nat × Int32 := rsI (prF n sd kd s m (chs n sd s 0) (chs n sd s 1)) (chs n sd s 0).length (chs n sd s 1).length (fun i j => 1000 * (chs n sd s 0).getD i 0 + (chs n sd s 1).getD j 0) (chs n sd s 0).length 0 (0, -9)
