/-! the class's calls: sides at rest  -/
/-- the hours of the pairs, in the order of the pairs -/
def prF (n : Nat) (sd kd : Nat → Nat) (s : Sn) (m : Nat) (l0 l1 : List Nat) (i j : Nat) : Int32 := honI n sd kd s (l0.getD i 0) (l1.getD j 0) m
/-- all pairs ahead of (i, j) are written -/
def prOK (n : Nat) (sd kd : Nat → Nat) (s : Sn) (m : Nat) (l0 l1 : List Nat) (i j : Nat) (f : Nat → Int32) : Prop := ∀ a b, a < l0.length → b < l1.length → (a < i ∨ (a = i ∧ b < j)) → f (a * l1.length + b) = prF n sd kd s m l0 l1 a b
theorem prOK.next {n : Nat} {sd kd : Nat → Nat} {s : Sn} {m : Nat} {l0 l1 : List Nat} {i j : Nat} {f : Nat → Int32} (h : prOK n sd kd s m l0 l1 i j f) (hj : j < l1.length) : prOK n sd kd s m l0 l1 i (j + 1) (upd f (i * l1.length + j) (prF n sd kd s m l0 l1 i j)) := by
  intro a b ha hb hab
  unfold upd
  by_cases e : a = i ∧ b = j
  · obtain ⟨rfl, rfl⟩ := e
    rw [if_pos rfl]
  · have hne : a * l1.length + b ≠ i * l1.length + j := by
      intro q
      have h1 := Nat.div_add_mod (a * l1.length + b) l1.length
      have ea : (a * l1.length + b) / l1.length = a := by
        rw [Nat.add_comm, Nat.add_mul_div_right _ _ (by omega), Nat.div_eq_of_lt hb, Nat.zero_add]
      have ei : (i * l1.length + j) / l1.length = i := by
        rw [Nat.add_comm, Nat.add_mul_div_right _ _ (by omega), Nat.div_eq_of_lt hj, Nat.zero_add]
      rw [q, ei] at ea
      subst ea
      exact e ⟨rfl, by omega⟩
    rw [if_neg hne]
    exact h a b ha hb (by omega)
theorem prOK.line {n : Nat} {sd kd : Nat → Nat} {s : Sn} {m : Nat} {l0 l1 : List Nat} {i : Nat} {f : Nat → Int32} (h : prOK n sd kd s m l0 l1 i l1.length f) : prOK n sd kd s m l0 l1 (i + 1) 0 f := fun a b ha hb hab => h a b ha hb (by omega)
def PrAt (H : dxH) (f : Nat → Int32) : Prop := H[110]? = some (.inl (0, 176, .inl f))
/-- a pair at rest -/
def rstF (g : Nat → Nat → Int32) (la lb i j : Nat) : Bool := !decide (g i j = -1) && (!(anyB (fun k => decide (g i j < g k j)) la 0) && !(anyB (fun k => !decide (g i k = -1) && decide (g i k < g i j)) lb 0))
theorem c109 {tb : dxT} {H : dxH} {f : Nat → Int32} {sed : Int64} {i j lb : Nat} (f0 : CC H sed) (hp : PrAt H f) (h : i * lb + j < 176) : Cl tb 109 [.ref 0, .int (nI i), .int (nI j), .int (nI lb)] H (Rt (.int (f (i * lb + j))) H) := by
  have g0 := f0
  unfold CC at g0
  unfold PrAt at hp
  show Ev tb 109 0 [some (.ref 0), some (.int (nI i)), some (.int (nI j)), some (.int (nI lb)), none] [] H _
  refine ev_iload_n i109_0 rfl ?_
  refine ev_iload_n i109_1 rfl ?_
  refine evn_imul i109_2 ?_
  refine ev_iload_n i109_3 rfl ?_
  refine evn_iadd i109_4 ?_
  refine ev_istore (L' := [some (.ref 0), some (.int (nI i)), some (.int (nI j)), some (.int (nI lb)), some (.int (nI ((i * lb) + j)))]) i109_5 ⟨Nat.le_of_ble_eq_true rfl, rfl⟩ rfl ?_
  refine ev_iload i109_7 rfl ?_
  refine evn_if_lt (t := 30) i109_9 (by decide) (by omega) ?_
  refine ev_iload i109_12 rfl ?_
  refine ev_sipush (v := nI 176) i109_14 (by decide) ?_
  refine evn_icmp_ge (t := 30) i109_17 (by decide) (by omega) (fun z17 => by exfalso; omega) (fun z17 => ?_)
  refine ev_aload_n i109_20 rfl ?_
  refine ev_get i109_21 ci109 fl7_72 (by assumption) rfl ?_
  refine ev_iload i109_24 rfl ?_
  refine ev_iald_n i109_26 (by assumption) (by omega) ?_
  refine ev_goto (t := 31) i109_27 (by decide) ?_
  refine ev_iret i109_31 (by decide +kernel) ?_
  exact ⟨rfl, rfl⟩
theorem pr_lt {la lb i j : Nat} (hla : la * lb ≤ 176) (hi : i < la) (hj : j < lb) : i * lb + j < 176 := by
  have h1 : (i + 1) * lb ≤ la * lb := Nat.mul_le_mul_right lb hi
  rw [Nat.add_mul, Nat.one_mul] at h1
  omega
theorem lq110b {tb : dxT} {H : dxH} {f : Nat → Int32} {sed : Int64} {la lb i j : Nat} (f0 : CC H sed) (hp : PrAt H f) (hla : la * lb ≤ 176) (hi : i < la) (hj : j < lb) : ∀ (d k : Nat), k + d = lb → ∀ v7, Ev tb 110 52 [some (.ref 0), some (.int (nI i)), some (.int (nI j)), some (.int (nI la)), some (.int (nI lb)), some (.int (f (i * lb + j))), some (.int (nI k)), v7] [] H (Rt (.int (bI (!(anyB (fun q => !decide (f (i * lb + q) = -1) && decide (f (i * lb + q) < f (i * lb + j))) d k)))) H)
  | 0, k, hk, v7 => by
    obtain rfl : k = lb := by omega
    have g0 := f0
    unfold CC at g0
    have hl1 : la ≤ 176 := Nat.le_trans (Nat.le_mul_of_pos_right la (by omega)) hla
    have hl2 : k ≤ 176 := Nat.le_trans (Nat.le_mul_of_pos_left k (by omega)) hla
    refine ev_iload i110_52 rfl ?_
    refine ev_iload i110_54 rfl ?_
    refine evn_icmp_ge (t := 91) i110_56 (by decide) (by omega) (fun z56 => ?_) (fun z56 => by exfalso; omega)
    refine ev_iconst (v := nI 1) i110_91 (by decide) ?_
    refine ev_zret i110_92 (by decide +kernel) (by decide) ?_
    exact ⟨zt rfl, rfl⟩
  | d + 1, k, hk, v7 => by
    have g0 := f0
    unfold CC at g0
    have hl1 : la ≤ 176 := Nat.le_trans (Nat.le_mul_of_pos_right la (by omega)) hla
    have hl2 : lb ≤ 176 := Nat.le_trans (Nat.le_mul_of_pos_left lb (by omega)) hla
    refine ev_iload i110_52 rfl ?_
    refine ev_iload i110_54 rfl ?_
    refine evn_icmp_ge (t := 91) i110_56 (by decide) (by omega) (fun z56 => by exfalso; omega) (fun z56 => ?_)
    refine ev_aload_n i110_59 rfl ?_
    refine ev_iload_n i110_60 rfl ?_
    refine ev_iload i110_61 rfl ?_
    refine ev_iload i110_63 rfl ?_
    refine ev_callV (vs := [.int (nI i), .int (nI k), .int (nI lb)]) (rest := []) i110_65 ci110 lk7_283 (congrArg (fun q => q + 1) np109) ci109 (by decide) (by decide +kernel) (Nat.le_of_ble_eq_true rfl) ⟨rfl, rfl, Nat.le_of_ble_eq_true rfl⟩ rfl (by assumption) (c109 f0 hp (pr_lt hla (by omega) (by omega))) (fun r HH hq => ?_)
    obtain ⟨rfl, rfl⟩ := hq
    show Ev tb 110 68 [some (.ref 0), some (.int (nI i)), some (.int (nI j)), some (.int (nI la)), some (.int (nI lb)), some (.int (f (i * lb + j))), some (.int (nI k)), v7] [.int (f (i * lb + k))] H _
    refine ev_istore (L' := [some (.ref 0), some (.int (nI i)), some (.int (nI j)), some (.int (nI la)), some (.int (nI lb)), some (.int (f (i * lb + j))), some (.int (nI k)), some (.int (f (i * lb + k)))]) i110_68 ⟨Nat.le_of_ble_eq_true rfl, rfl⟩ rfl ?_
    refine ev_iload i110_70 rfl ?_
    refine ev_iconst (v := (-1)) i110_72 (by decide) ?_
    refine ev_icmp_eq (t := 85) i110_73 (by decide) (fun z73 => ?_) (fun z73 => ?_)
    · refine evn_iinc (d := 1) (L' := [some (.ref 0), some (.int (nI i)), some (.int (nI j)), some (.int (nI la)), some (.int (nI lb)), some (.int (f (i * lb + j))), some (.int (nI (k + 1))), some (.int (f (i * lb + k)))]) i110_85 rfl rfl (by decide) rfl ?_
      refine ev_goto (t := 52) i110_88 (by decide) ?_
      have k1 := lq110b (tb := tb) f0 hp hla hi hj d (k + 1) (by omega) (some (.int (f (i * lb + k))))
      unfold anyB
      rw [show (!decide (f (i * lb + k) = -1) && decide (f (i * lb + k) < f (i * lb + j))) = false from by rw [decide_eq_true z73]; rfl, Bool.false_or]
      exact k1
    · refine ev_iload i110_76 rfl ?_
      refine ev_iload i110_78 rfl ?_
      refine ev_icmp_ge (t := 85) i110_80 (by decide) (fun z80 => ?_) (fun z80 => ?_)
      · refine evn_iinc (d := 1) (L' := [some (.ref 0), some (.int (nI i)), some (.int (nI j)), some (.int (nI la)), some (.int (nI lb)), some (.int (f (i * lb + j))), some (.int (nI (k + 1))), some (.int (f (i * lb + k)))]) i110_85 rfl rfl (by decide) rfl ?_
        refine ev_goto (t := 52) i110_88 (by decide) ?_
        have k1 := lq110b (tb := tb) f0 hp hla hi hj d (k + 1) (by omega) (some (.int (f (i * lb + k))))
        unfold anyB
        rw [show (!decide (f (i * lb + k) = -1) && decide (f (i * lb + k) < f (i * lb + j))) = false from by rw [decide_eq_false (k2_nlt z80)]; simp, Bool.false_or]
        exact k1
      · refine ev_iconst (v := nI 0) i110_83 (by decide) ?_
        refine ev_zret i110_84 (by decide +kernel) (by decide) ?_
        refine ⟨zf ?_, rfl⟩
        unfold anyB
        rw [decide_eq_false z73, decide_eq_true (k2_lt z80)]
        rfl
theorem lq110a {tb : dxT} {H : dxH} {f : Nat → Int32} {sed : Int64} {la lb i j : Nat} (f0 : CC H sed) (hp : PrAt H f) (hla : la * lb ≤ 176) (hi : i < la) (hj : j < lb) : ∀ (d k : Nat), k + d = la → ∀ v7, Ev tb 110 21 [some (.ref 0), some (.int (nI i)), some (.int (nI j)), some (.int (nI la)), some (.int (nI lb)), some (.int (f (i * lb + j))), some (.int (nI k)), v7] [] H (Rt (.int (bI (!(anyB (fun q => decide (f (i * lb + j) < f (q * lb + j))) d k) && !(anyB (fun q => !decide (f (i * lb + q) = -1) && decide (f (i * lb + q) < f (i * lb + j))) lb 0)))) H)
  | 0, k, hk, v7 => by
    obtain rfl : k = la := by omega
    have hl1 : k ≤ 176 := Nat.le_trans (Nat.le_mul_of_pos_right k (by omega)) hla
    refine ev_iload i110_21 rfl ?_
    refine ev_iload_n i110_23 rfl ?_
    refine evn_icmp_ge (t := 49) i110_24 (by decide) (by omega) (fun z24 => ?_) (fun z24 => by exfalso; omega)
    refine ev_iconst (v := nI 0) i110_49 (by decide) ?_
    refine ev_istore (L' := [some (.ref 0), some (.int (nI i)), some (.int (nI j)), some (.int (nI k)), some (.int (nI lb)), some (.int (f (i * lb + j))), some (.int (nI 0)), v7]) i110_50 ⟨Nat.le_of_ble_eq_true rfl, rfl⟩ rfl ?_
    refine (lq110b f0 hp hla hi hj lb 0 (Nat.zero_add lb) v7).post (fun r H' hq => ⟨hq.1.trans ?_, hq.2⟩)
    rfl
  | d + 1, k, hk, v7 => by
    have g0 := f0
    unfold CC at g0
    have hl1 : la ≤ 176 := Nat.le_trans (Nat.le_mul_of_pos_right la (by omega)) hla
    have hl2 : lb ≤ 176 := Nat.le_trans (Nat.le_mul_of_pos_left lb (by omega)) hla
    refine ev_iload i110_21 rfl ?_
    refine ev_iload_n i110_23 rfl ?_
    refine evn_icmp_ge (t := 49) i110_24 (by decide) (by omega) (fun z24 => by exfalso; omega) (fun z24 => ?_)
    refine ev_aload_n i110_27 rfl ?_
    refine ev_iload i110_28 rfl ?_
    refine ev_iload_n i110_30 rfl ?_
    refine ev_iload i110_31 rfl ?_
    refine ev_callV (vs := [.int (nI k), .int (nI j), .int (nI lb)]) (rest := []) i110_33 ci110 lk7_283 (congrArg (fun q => q + 1) np109) ci109 (by decide) (by decide +kernel) (Nat.le_of_ble_eq_true rfl) ⟨rfl, rfl, Nat.le_of_ble_eq_true rfl⟩ rfl (by assumption) (c109 f0 hp (pr_lt hla (by omega) (by omega))) (fun r HH hq => ?_)
    obtain ⟨rfl, rfl⟩ := hq
    show Ev tb 110 36 [some (.ref 0), some (.int (nI i)), some (.int (nI j)), some (.int (nI la)), some (.int (nI lb)), some (.int (f (i * lb + j))), some (.int (nI k)), v7] [.int (f (k * lb + j))] H _
    refine ev_iload i110_36 rfl ?_
    refine ev_icmp_le (t := 43) i110_38 (by decide) (fun z38 => ?_) (fun z38 => ?_)
    · refine evn_iinc (d := 1) (L' := [some (.ref 0), some (.int (nI i)), some (.int (nI j)), some (.int (nI la)), some (.int (nI lb)), some (.int (f (i * lb + j))), some (.int (nI (k + 1))), v7]) i110_43 rfl rfl (by decide) rfl ?_
      refine ev_goto (t := 21) i110_46 (by decide) ?_
      have k1 := lq110a (tb := tb) f0 hp hla hi hj d (k + 1) (by omega) v7
      have e9 : anyB (fun q => decide (f (i * lb + j) < f (q * lb + j))) (d + 1) k = anyB (fun q => decide (f (i * lb + j) < f (q * lb + j))) d (k + 1) := by
        conv => lhs; unfold anyB
        rw [decide_eq_false (k2_nlt z38), Bool.false_or]
      rw [e9]
      exact k1
    · refine ev_iconst (v := nI 0) i110_41 (by decide) ?_
      refine ev_zret i110_42 (by decide +kernel) (by decide) ?_
      refine ⟨zf ?_, rfl⟩
      unfold anyB
      rw [decide_eq_true (k2_lt z38)]
      rfl
theorem c110 {tb : dxT} {H : dxH} {f : Nat → Int32} {sed : Int64} {la lb i j : Nat} (f0 : CC H sed) (hp : PrAt H f) (hla : la * lb ≤ 176) (hi : i < la) (hj : j < lb) : Cl tb 110 [.ref 0, .int (nI i), .int (nI j), .int (nI la), .int (nI lb)] H (Rt (.int (bI (rstF (fun a b => f (a * lb + b)) la lb i j))) H) := by
  have g0 := f0
  unfold CC at g0
  have hl1 : la ≤ 176 := Nat.le_trans (Nat.le_mul_of_pos_right la (by omega)) hla
  have hl2 : lb ≤ 176 := Nat.le_trans (Nat.le_mul_of_pos_left lb (by omega)) hla
  unfold rstF
  show Ev tb 110 0 [some (.ref 0), some (.int (nI i)), some (.int (nI j)), some (.int (nI la)), some (.int (nI lb)), none, none, none] [] H _
  refine ev_aload_n i110_0 rfl ?_
  refine ev_iload_n i110_1 rfl ?_
  refine ev_iload_n i110_2 rfl ?_
  refine ev_iload i110_3 rfl ?_
  refine ev_callV (vs := [.int (nI i), .int (nI j), .int (nI lb)]) (rest := []) i110_5 ci110 lk7_283 (congrArg (fun q => q + 1) np109) ci109 (by decide) (by decide +kernel) (Nat.le_of_ble_eq_true rfl) ⟨rfl, rfl, Nat.le_of_ble_eq_true rfl⟩ rfl (by assumption) (c109 f0 hp (pr_lt hla (by omega) (by omega))) (fun r HH hq => ?_)
  obtain ⟨rfl, rfl⟩ := hq
  show Ev tb 110 8 [some (.ref 0), some (.int (nI i)), some (.int (nI j)), some (.int (nI la)), some (.int (nI lb)), none, none, none] [.int (f (i * lb + j))] H _
  refine ev_istore (L' := [some (.ref 0), some (.int (nI i)), some (.int (nI j)), some (.int (nI la)), some (.int (nI lb)), some (.int (f (i * lb + j))), none, none]) i110_8 ⟨Nat.le_of_ble_eq_true rfl, rfl⟩ rfl ?_
  refine ev_iload i110_10 rfl ?_
  refine ev_iconst (v := (-1)) i110_12 (by decide) ?_
  refine ev_icmp_ne (t := 18) i110_13 (by decide) (fun z13 => ?_) (fun z13 => ?_)
  · refine ev_iconst (v := nI 0) i110_18 (by decide) ?_
    refine ev_istore (L' := [some (.ref 0), some (.int (nI i)), some (.int (nI j)), some (.int (nI la)), some (.int (nI lb)), some (.int (f (i * lb + j))), some (.int (nI 0)), none]) i110_19 ⟨Nat.le_of_ble_eq_true rfl, rfl⟩ rfl ?_
    rw [decide_eq_false z13]
    exact lq110a f0 hp hla hi hj la 0 (Nat.zero_add la) _
  · refine ev_iconst (v := nI 0) i110_16 (by decide) ?_
    refine ev_zret i110_17 (by decide +kernel) (by decide) ?_
    exact ⟨zf (by rw [decide_eq_true z13]; rfl), rfl⟩
