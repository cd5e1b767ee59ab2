/-! the class's calls: sowing, shares, summers -/
theorem HE_and {n a : Nat} (hn : n ≤ 6) : HE n &&& a < 64 := Nat.lt_of_le_of_lt Nat.and_le_left (HE_lt hn)
def stpN (n : Nat) (sd kd : Nat → Nat) (s : Sn) (m set : Nat) : Nat := cntL (HE n &&& set) sd kd s.1 s.2.1 1 m s.2.2
theorem c104 {tb : dxT} {H : dxH} {n : Nat} {sd kd : Nat → Nat} {s : Sn} {sed : Int64} {m set : Nat} (f0 : CC H sed) (fH : HrdAt H n sd kd) (fM : MdX H 6 n s) (hT : ShpM H 11) (b3 : n ≤ 6) (b4 : ∀ j, sd j < 2) (b5 : ∀ j, kd j < 4) (b6 : SnOK n s) (hm : m ≤ 8) (hset : set < 64) : Cl tb 104 [.ref 0, .int (nI set), .int (nI m)] H (fun r H' => r = some (.int (nI (stpN n sd kd s m set))) ∧ ShpM H' 11 ∧ Off (mdC 11) H H') := by
  have g0 := f0
  unfold CC at g0
  obtain ⟨m0, m1, m2, m3, m4⟩ := id fM
  obtain ⟨_, _, _, _, _, _, _, _, ⟨t0, _⟩, _⟩ := id hT
  have hb : HE n < 64 := HE_lt b3
  have ha : 6 ≤ 6 := Nat.le_refl 6
  show Ev tb 104 0 [some (.ref 0), some (.int (nI set)), some (.int (nI m))] [] H _
  refine ev_aload_n i104_0 rfl ?_
  refine ev_get i104_1 ci104 fl7_32 (by assumption) rfl ?_
  refine ev_aload_n i104_4 rfl ?_
  refine ev_get i104_5 ci104 fl7_28 (by assumption) rfl ?_
  refine ev_callV (vs := [.ref 6]) (rest := []) i104_8 ci104 lk7_159 (congrArg (fun q => q + 1) np20) ci20 (by decide) (by decide +kernel) (Nat.le_of_ble_eq_true rfl) ⟨rfl, rfl, Nat.le_of_ble_eq_true rfl⟩ rfl (by assumption) (c20 hT fM b6.2.2.1.2.2.1 b6.2.1 b6.2.2.1.2.2.2.1 b6.2.2.1.2.2.2.2 (by decide)) (fun r H1 hq => ?_)
  obtain ⟨rfl, hN, hO1⟩ := hq
  have f0 := f0.off hO1 (by unfold mdC; omega)
  have fH := fH.off hO1 (by unfold mdC; omega) (by unfold mdC; omega) (by unfold mdC; omega)
  have fM := fM.off hO1 (fun j u1 u2 => by unfold mdC; omega)
  have g0 := f0
  unfold CC at g0
  obtain ⟨t0, t1, t2, t3, t4⟩ := id hN
  obtain ⟨m0, m1, m2, m3, m4⟩ := id fM
  have hOO : Off (mdC 11) H H1 := hO1
  show Ev tb 104 11 [some (.ref 0), some (.int (nI set)), some (.int (nI m))] [] H1 _
  refine ev_aload_n i104_11 rfl ?_
  refine ev_get i104_12 ci104 fl7_32 (by assumption) rfl ?_
  refine ev_iload_n i104_15 rfl ?_
  refine ev_callV (vs := [.int (nI set)]) (rest := []) i104_16 ci104 lk7_272 (congrArg (fun q => q + 1) np22) ci22 (by decide) (by decide +kernel) (Nat.le_of_ble_eq_true rfl) ⟨rfl, rfl, Nat.le_of_ble_eq_true rfl⟩ rfl (by assumption) (c22 hN (by decide) hb hset) (fun r H2 hq => ?_)
  obtain ⟨rfl, hN, hO2⟩ := hq
  have f0 := f0.off hO2 (by unfold mdC; omega)
  have fH := fH.off hO2 (by unfold mdC; omega) (by unfold mdC; omega) (by unfold mdC; omega)
  have fM := fM.off hO2 (fun j u1 u2 => by unfold mdC; omega)
  have g0 := f0
  unfold CC at g0
  obtain ⟨t0, t1, t2, t3, t4⟩ := id hN
  obtain ⟨m0, m1, m2, m3, m4⟩ := id fM
  have hOO : Off (mdC 11) H H2 := hOO.trans hO2 (fun _ q => q) (fun _ q => q)
  show Ev tb 104 19 [some (.ref 0), some (.int (nI set)), some (.int (nI m))] [] H2 _
  refine ev_aload_n i104_19 rfl ?_
  refine ev_get i104_20 ci104 fl7_32 (by assumption) rfl ?_
  refine ev_iconst (v := nI 1) i104_23 (by decide) ?_
  refine ev_iload_n i104_24 rfl ?_
  refine ev_callV (vs := [.int (nI 1), .int (nI m)]) (rest := []) i104_25 ci104 lk7_269 (congrArg (fun q => q + 1) np44) ci44 (by decide) (by decide +kernel) (Nat.le_of_ble_eq_true rfl) ⟨rfl, rfl, Nat.le_of_ble_eq_true rfl⟩ rfl (by assumption) (c44 (HE_and b3) (by decide) b6.1 b5 b4 (by decide) (by omega) hN fH b6.x) (fun r H3 hq => ?_)
  obtain ⟨rfl, hN, hO3⟩ := hq
  have f0 := f0.off hO3 (by unfold mdC; omega)
  have fH := fH.off hO3 (by unfold mdC; omega) (by unfold mdC; omega) (by unfold mdC; omega)
  have fM := fM.off hO3 (fun j u1 u2 => by unfold mdC; omega)
  have g0 := f0
  unfold CC at g0
  obtain ⟨t0, t1, t2, t3, t4⟩ := id hN
  obtain ⟨m0, m1, m2, m3, m4⟩ := id fM
  have hOO : Off (mdC 11) H H3 := hOO.trans hO3 (fun _ q => q) (fun _ q => q)
  show Ev tb 104 28 [some (.ref 0), some (.int (nI set)), some (.int (nI m))] [.int (nI (stpN n sd kd s m set))] H3 _
  refine ev_iret i104_28 (by decide +kernel) ?_
  exact ⟨rfl, hN.shp b6.2.1 (hrs_ok b6.1 b4 b6.x), hOO⟩
def iI (z : Int) : Int32 := Int32.ofInt z
theorem iI_add (a b : Int) : iI a + iI b = iI (a + b) := (Int32.ofInt_add a b).symm
theorem iI_mul (a b : Int) : iI a * iI b = iI (a * b) := (Int32.ofInt_mul a b).symm
theorem iI_sub (a b : Int) : iI a - iI b = iI (a - b) := (Int32.ofInt_sub a b).symm
theorem iI_nI (a : Nat) : nI a = iI (a : Int) := rfl
def shrL (n : Nat) (sd kd : Nat → Nat) (s : Sn) (m k : Nat) : Nat → Nat → Int → Int
  | 0, _, z => z
  | d + 1, set, z => shrL n sd kd s m k d (set + 1) (if set.testBit k = true then z else z + ((fct (popN set) * fct (n - 1 - popN set) : Nat) : Int) * ((stpN n sd kd s m (set ||| 2 ^ k) : Int) - (stpN n sd kd s m set : Int)))
theorem and_bit : ∀ a, a < 64 → ∀ k, k < 6 → (nI a &&& nI (2 ^ k)) = nI (if a.testBit k = true then 2 ^ k else 0) := by decide +kernel
theorem or_bit : ∀ a, a < 64 → ∀ k, k < 6 → (nI a ||| nI (2 ^ k)) = nI (a ||| 2 ^ k) := by decide +kernel
theorem pop_lt : ∀ n, n < 7 → ∀ k, k < n → ∀ a, a < 2 ^ n → a.testBit k = false → popN a ≤ n - 1 ∧ fct (popN a) * fct (n - 1 - popN a) ≤ 120 := by decide +kernel
theorem stpN_le {n : Nat} {sd kd : Nat → Nat} {s : Sn} {m set : Nat} : stpN n sd kd s m set ≤ m := cntL_le
theorem shr_abs {z : Int} (h1 : -1000000 ≤ z) (h2 : z ≤ 1000000) : (if 0 ≤ iI z then iI z else 0 - iI z) = nI z.natAbs := by
  have e0 : (iI z).toInt = z := Int32.toInt_ofInt_of_le (by omega) (by omega)
  by_cases h : 0 ≤ iI z
  · rw [if_pos h]
    have h3 : (0 : Int) ≤ z := by
      have := Int32.le_iff_toInt_le.mp h
      rw [e0] at this
      simpa using this
    rw [iI_nI, Int.natAbs_of_nonneg h3]
  · rw [if_neg h]
    have h3 : z < 0 := by
      refine Classical.byContradiction fun q => h ?_
      have q2 : 0 ≤ z := by omega
      apply Int32.le_iff_toInt_le.mpr
      rw [e0]
      simpa using q2
    have e1 : (0 : Int32) = iI 0 := by decide
    rw [e1, iI_sub, iI_nI, Int.ofNat_natAbs_of_nonpos (Int.le_of_lt h3)]
    congr 1
    omega
theorem fct_le : ∀ n, n ≤ 6 → fct n ≤ 720 ∧ 0 < fct n := by decide +kernel
set_option maxRecDepth 100000 in
theorem lq84 {tb : dxT} {H : dxH} {n : Nat} {sd kd : Nat → Nat} {s : Sn} {sed : Int64} {m k : Nat} {u : Bool} (b3 : n ≤ 6) (b4 : ∀ j, sd j < 2) (b5 : ∀ j, kd j < 4) (b6 : SnOK n s) (hm : m ≤ 8) (hk : k < n) (F0 : CC H sed) (FH : HrdAt H n sd kd) (FM : MdX H 6 n s) : ∀ (d set : Nat) (z : Int) (H2 : dxH), set + d = 2 ^ n → -(960 * (set : Int)) ≤ z → z ≤ 960 * (set : Int) → Off (mdC 11) H H2 → ShpM H2 11 → ∀ v8 v9, Ev tb 84 43 [some (.ref 0), some (.int (nI k)), some (.int (nI m)), some (.int (bI u)), some (.int (nI n)), some (.int (nI (2 ^ k))), some (.int (iI z)), some (.int (nI set)), v8, v9] [] H2 (fun r H' => r = some (.int (trmI (iI (shrL n sd kd s m k d set z)) (shrL n sd kd s m k d set z).natAbs (fct n) u)) ∧ ShpM H' 11 ∧ Off (mdC 11) H H')
  | 0, set, z, H2, hd, h1, h2, hOO, hT, v8, v9 => by
    obtain rfl : set = 2 ^ n := by omega
    have hp8 : 2 ^ n ≤ 2 ^ 6 := Nat.pow_le_pow_right (by decide) b3
    have hf := fct_le n b3
    refine ev_iload i84_43 rfl ?_
    refine ev_iconst (v := nI 1) i84_45 (by decide) ?_
    refine ev_iload i84_46 rfl ?_
    refine ev_ishl i84_48 ?_
    rw [shl1 n (by omega)]
    refine evn_icmp_ge (t := 117) i84_49 (by decide) (by omega) (fun z49 => ?_) (fun z49 => by exfalso; omega)
    refine ev_iload i84_117 rfl ?_
    refine ev_iload i84_119 rfl ?_
    refine ev_callS (vs := [.int (nI n)]) (rest := [.int (iI z)]) i84_121 ci84 lk7_201 (Or.inl rfl) np115 (by decide +kernel) (Nat.le_of_ble_eq_true rfl) ⟨rfl, rfl, Nat.le_of_ble_eq_true rfl⟩ rfl (c115 b3) (fun r HH hq => ?_)
    obtain ⟨rfl, rfl⟩ := hq
    show Ev tb 84 124 [some (.ref 0), some (.int (nI k)), some (.int (nI m)), some (.int (bI u)), some (.int (nI n)), some (.int (nI (2 ^ k))), some (.int (iI z)), some (.int (nI (2 ^ n))), v8, v9] [.int (nI (fct n)), .int (iI z)] H2 _
    refine ev_iload_n i84_124 rfl ?_
    refine ev_callS (vs := [.int (iI z), .int (nI (fct n)), .int (bI u)]) (rest := []) i84_125 ci84 lk7_208 (Or.inl rfl) np111 (by decide +kernel) (Nat.le_of_ble_eq_true rfl) ⟨rfl, rfl, Nat.le_of_ble_eq_true rfl⟩ rfl (c111 (A := z.natAbs) (shr_abs (by omega) (by omega)) (by omega) (by omega) hf.2) (fun r HH hq => ?_)
    obtain ⟨rfl, rfl⟩ := hq
    show Ev tb 84 128 [some (.ref 0), some (.int (nI k)), some (.int (nI m)), some (.int (bI u)), some (.int (nI n)), some (.int (nI (2 ^ k))), some (.int (iI z)), some (.int (nI (2 ^ n))), v8, v9] [.int (trmI (iI z) z.natAbs (fct n) u)] H2 _
    refine ev_iret i84_128 (by decide +kernel) ?_
    exact ⟨rfl, hT, hOO⟩
  | d + 1, set, z, H2, hd, h1, h2, hOO, hT, v8, v9 => by
    have hp8 : 2 ^ n ≤ 2 ^ 6 := Nat.pow_le_pow_right (by decide) b3
    have hf := fct_le n b3
    have f0 := F0.off hOO (by unfold mdC; omega)
    have fH := FH.off hOO (by unfold mdC; omega) (by unfold mdC; omega) (by unfold mdC; omega)
    have fM := FM.off hOO (fun j u1 u2 => by unfold mdC; omega)
    have g0 := f0
    unfold CC at g0
    obtain ⟨m0, m1, m2, m3, m4⟩ := id fM
    obtain ⟨_, _, _, _, _, _, _, _, ⟨t0, _⟩, _⟩ := id hT
    have hb : HE n < 64 := HE_lt b3
    refine ev_iload i84_43 rfl ?_
    refine ev_iconst (v := nI 1) i84_45 (by decide) ?_
    refine ev_iload i84_46 rfl ?_
    refine ev_ishl i84_48 ?_
    rw [shl1 n (by omega)]
    refine evn_icmp_ge (t := 117) i84_49 (by decide) (by omega) (fun z49 => by exfalso; omega) (fun z49 => ?_)
    refine ev_iload i84_52 rfl ?_
    refine ev_iload i84_54 rfl ?_
    refine ev_iand i84_56 ?_
    rw [and_bit set (by omega) k (by omega)]
    have hif : (if set.testBit k = true then 2 ^ k else 0) < 64 := by
      have : 2 ^ k < 2 ^ 6 := Nat.pow_lt_pow_right (by decide) (by omega)
      split <;> omega
    refine evn_if_ne (t := 111) i84_57 (by decide) (by omega) (fun z57 => ?_) (fun z57 => ?_)
    · refine evn_iinc (d := 1) (L' := [some (.ref 0), some (.int (nI k)), some (.int (nI m)), some (.int (bI u)), some (.int (nI n)), some (.int (nI (2 ^ k))), some (.int (iI z)), some (.int (nI (set + 1))), v8, v9]) i84_111 rfl rfl (by decide) rfl ?_
      refine ev_goto (t := 43) i84_114 (by decide) ?_
      have hbt : set.testBit k = true := by
        rcases Bool.eq_false_or_eq_true (set.testBit k) with q | q
        · exact q
        · rw [if_neg (by simp [q])] at z57
          exact absurd rfl z57
      have e1 : shrL n sd kd s m k (d + 1) set z = shrL n sd kd s m k d (set + 1) (z) := by
        conv => lhs; unfold shrL
        rw [if_pos hbt]
      rw [e1]
      exact lq84 b3 b4 b5 b6 hm hk F0 FH FM d (set + 1) _ _ (by omega) (by omega) (by omega) hOO hT _ _
    · have hbt : set.testBit k = false := by
        rcases Bool.eq_false_or_eq_true (set.testBit k) with q | q
        · rw [if_pos q] at z57
          have := Nat.pow_pos (n := k) (show 0 < 2 by decide)
          omega
        · exact q
      have hpl := pop_lt n (by omega) k hk set (by omega) hbt
      have hpn : popN set ≤ 6 := by omega
      refine ev_iload i84_60 rfl ?_
      refine ev_callS (vs := [.int (nI set)]) (rest := []) i84_62 ci84 lk7_196 (Or.inl rfl) np172 (by decide +kernel) (Nat.le_of_ble_eq_true rfl) ⟨rfl, rfl, Nat.le_of_ble_eq_true rfl⟩ rfl (c172 (by omega)) (fun r HH hq => ?_)
      obtain ⟨rfl, rfl⟩ := hq
      show Ev tb 84 65 [some (.ref 0), some (.int (nI k)), some (.int (nI m)), some (.int (bI u)), some (.int (nI n)), some (.int (nI (2 ^ k))), some (.int (iI z)), some (.int (nI set)), v8, v9] [.int (nI (popN set))] H2 _
      refine ev_istore (L' := [some (.ref 0), some (.int (nI k)), some (.int (nI m)), some (.int (bI u)), some (.int (nI n)), some (.int (nI (2 ^ k))), some (.int (iI z)), some (.int (nI set)), some (.int (nI (popN set))), v9]) i84_65 ⟨Nat.le_of_ble_eq_true rfl, rfl⟩ rfl ?_
      refine ev_iload i84_67 rfl ?_
      refine ev_callS (vs := [.int (nI (popN set))]) (rest := []) i84_69 ci84 lk7_201 (Or.inl rfl) np115 (by decide +kernel) (Nat.le_of_ble_eq_true rfl) ⟨rfl, rfl, Nat.le_of_ble_eq_true rfl⟩ rfl (c115 (by omega)) (fun r HH hq => ?_)
      obtain ⟨rfl, rfl⟩ := hq
      show Ev tb 84 72 [some (.ref 0), some (.int (nI k)), some (.int (nI m)), some (.int (bI u)), some (.int (nI n)), some (.int (nI (2 ^ k))), some (.int (iI z)), some (.int (nI set)), some (.int (nI (popN set))), v9] [.int (nI (fct (popN set)))] H2 _
      refine ev_iload i84_72 rfl ?_
      refine ev_iconst (v := nI 1) i84_74 (by decide) ?_
      refine evn_isub i84_75 (by omega) ?_
      refine ev_iload i84_76 rfl ?_
      refine evn_isub i84_78 (by omega) ?_
      refine ev_callS (vs := [.int (nI ((n - 1) - (popN set)))]) (rest := [.int (nI (fct (popN set)))]) i84_79 ci84 lk7_201 (Or.inl rfl) np115 (by decide +kernel) (Nat.le_of_ble_eq_true rfl) ⟨rfl, rfl, Nat.le_of_ble_eq_true rfl⟩ rfl (c115 (by omega)) (fun r HH hq => ?_)
      obtain ⟨rfl, rfl⟩ := hq
      show Ev tb 84 82 [some (.ref 0), some (.int (nI k)), some (.int (nI m)), some (.int (bI u)), some (.int (nI n)), some (.int (nI (2 ^ k))), some (.int (iI z)), some (.int (nI set)), some (.int (nI (popN set))), v9] [.int (nI (fct ((n - 1) - (popN set)))), .int (nI (fct (popN set)))] H2 _
      refine evn_imul i84_82 ?_
      refine ev_istore (L' := [some (.ref 0), some (.int (nI k)), some (.int (nI m)), some (.int (bI u)), some (.int (nI n)), some (.int (nI (2 ^ k))), some (.int (iI z)), some (.int (nI set)), some (.int (nI (popN set))), some (.int (nI ((fct (popN set)) * (fct ((n - 1) - (popN set))))))]) i84_83 ⟨Nat.le_of_ble_eq_true rfl, rfl⟩ rfl ?_
      refine ev_iload i84_85 rfl ?_
      refine ev_iload i84_87 rfl ?_
      refine ev_aload_n i84_89 rfl ?_
      refine ev_iload i84_90 rfl ?_
      refine ev_iload i84_92 rfl ?_
      refine ev_ior i84_94 ?_
      rw [or_bit set (by omega) k (by omega)]
      have hor : set ||| 2 ^ k < 64 := or10_lt (m := 6) (by omega) (by omega)
      refine ev_iload_n i84_95 rfl ?_
      refine ev_callV (vs := [.int (nI (set ||| 2 ^ k)), .int (nI m)]) (rest := [.int (nI ((fct (popN set)) * (fct ((n - 1) - (popN set))))), .int (iI z)]) i84_96 ci84 lk7_204 (congrArg (fun q => q + 1) np104) ci104 (by decide) (by decide +kernel) (Nat.le_of_ble_eq_true rfl) ⟨rfl, rfl, Nat.le_of_ble_eq_true rfl⟩ rfl (by assumption) (c104 f0 fH fM hT b3 b4 b5 b6 hm (by omega)) (fun r H3 hq => ?_)
      obtain ⟨rfl, hT, hO3⟩ := hq
      have hOO := hOO.trans hO3 (C := mdC 11) (fun _ q => q) (fun _ q => q)
      have f0 := F0.off hOO (by unfold mdC; omega)
      have fH := FH.off hOO (by unfold mdC; omega) (by unfold mdC; omega) (by unfold mdC; omega)
      have fM := FM.off hOO (fun j u1 u2 => by unfold mdC; omega)
      have g0 := f0
      unfold CC at g0
      show Ev tb 84 99 [some (.ref 0), some (.int (nI k)), some (.int (nI m)), some (.int (bI u)), some (.int (nI n)), some (.int (nI (2 ^ k))), some (.int (iI z)), some (.int (nI set)), some (.int (nI (popN set))), some (.int (nI ((fct (popN set)) * (fct ((n - 1) - (popN set))))))] [.int (nI (stpN n sd kd s m (set ||| 2 ^ k))), .int (nI ((fct (popN set)) * (fct ((n - 1) - (popN set))))), .int (iI z)] H3 _
      refine ev_aload_n i84_99 rfl ?_
      refine ev_iload i84_100 rfl ?_
      refine ev_iload_n i84_102 rfl ?_
      refine ev_callV (vs := [.int (nI set), .int (nI m)]) (rest := [.int (nI (stpN n sd kd s m (set ||| 2 ^ k))), .int (nI ((fct (popN set)) * (fct ((n - 1) - (popN set))))), .int (iI z)]) i84_103 ci84 lk7_204 (congrArg (fun q => q + 1) np104) ci104 (by decide) (by decide +kernel) (Nat.le_of_ble_eq_true rfl) ⟨rfl, rfl, Nat.le_of_ble_eq_true rfl⟩ rfl (by assumption) (c104 f0 fH fM hT b3 b4 b5 b6 hm (by omega)) (fun r H4 hq => ?_)
      obtain ⟨rfl, hT, hO4⟩ := hq
      have hOO := hOO.trans hO4 (C := mdC 11) (fun _ q => q) (fun _ q => q)
      have f0 := F0.off hOO (by unfold mdC; omega)
      have fH := FH.off hOO (by unfold mdC; omega) (by unfold mdC; omega) (by unfold mdC; omega)
      have fM := FM.off hOO (fun j u1 u2 => by unfold mdC; omega)
      have g0 := f0
      unfold CC at g0
      show Ev tb 84 106 [some (.ref 0), some (.int (nI k)), some (.int (nI m)), some (.int (bI u)), some (.int (nI n)), some (.int (nI (2 ^ k))), some (.int (iI z)), some (.int (nI set)), some (.int (nI (popN set))), some (.int (nI ((fct (popN set)) * (fct ((n - 1) - (popN set))))))] [.int (nI (stpN n sd kd s m set)), .int (nI (stpN n sd kd s m (set ||| 2 ^ k))), .int (nI ((fct (popN set)) * (fct ((n - 1) - (popN set))))), .int (iI z)] H4 _
      refine ev_isub i84_106 ?_
      refine ev_imul i84_107 ?_
      refine ev_iadd i84_108 ?_
      rw [iI_nI (stpN n sd kd s m (set ||| 2 ^ k)), iI_nI (stpN n sd kd s m set), iI_nI (fct (popN set) * fct (n - 1 - popN set)), iI_sub, iI_mul, iI_add]
      refine ev_istore (L' := [some (.ref 0), some (.int (nI k)), some (.int (nI m)), some (.int (bI u)), some (.int (nI n)), some (.int (nI (2 ^ k))), some (.int (iI (z + ((fct (popN set) * fct (n - 1 - popN set) : Nat) : Int) * ((stpN n sd kd s m (set ||| 2 ^ k) : Int) - (stpN n sd kd s m set : Int))))), some (.int (nI set)), some (.int (nI (popN set))), some (.int (nI ((fct (popN set)) * (fct ((n - 1) - (popN set))))))]) i84_109 ⟨Nat.le_of_ble_eq_true rfl, rfl⟩ rfl ?_
      refine evn_iinc (d := 1) (L' := [some (.ref 0), some (.int (nI k)), some (.int (nI m)), some (.int (bI u)), some (.int (nI n)), some (.int (nI (2 ^ k))), some (.int (iI (z + ((fct (popN set) * fct (n - 1 - popN set) : Nat) : Int) * ((stpN n sd kd s m (set ||| 2 ^ k) : Int) - (stpN n sd kd s m set : Int))))), some (.int (nI (set + 1))), some (.int (nI (popN set))), some (.int (nI ((fct (popN set)) * (fct ((n - 1) - (popN set))))))]) i84_111 rfl rfl (by decide) rfl ?_
      refine ev_goto (t := 43) i84_114 (by decide) ?_
      have hs1 := stpN_le (n := n) (sd := sd) (kd := kd) (s := s) (m := m) (set := set ||| 2 ^ k)
      have hs2 := stpN_le (n := n) (sd := sd) (kd := kd) (s := s) (m := m) (set := set)
      have e1 : shrL n sd kd s m k (d + 1) set z = shrL n sd kd s m k d (set + 1) (z + ((fct (popN set) * fct (n - 1 - popN set) : Nat) : Int) * ((stpN n sd kd s m (set ||| 2 ^ k) : Int) - (stpN n sd kd s m set : Int))) := by
        conv => lhs; unfold shrL
        rw [if_neg (by simp [hbt])]
      rw [e1]
      have hab : -960 ≤ ((fct (popN set) * fct (n - 1 - popN set) : Nat) : Int) * ((stpN n sd kd s m (set ||| 2 ^ k) : Int) - (stpN n sd kd s m set : Int)) ∧ ((fct (popN set) * fct (n - 1 - popN set) : Nat) : Int) * ((stpN n sd kd s m (set ||| 2 ^ k) : Int) - (stpN n sd kd s m set : Int)) ≤ 960 := by
        generalize fct (popN set) * fct (n - 1 - popN set) = f at hpl
        generalize (stpN n sd kd s m (set ||| 2 ^ k)) = a at hs1
        generalize (stpN n sd kd s m set) = b at hs2
        have h1 : ((f : Nat) : Int) * ((a : Int) - (b : Int)) = (f : Int) * (a : Int) - (f : Int) * (b : Int) := Int.mul_sub _ _ _
        have h2 : f * a ≤ 120 * 8 := Nat.mul_le_mul hpl.2 (by omega)
        have h3 : f * b ≤ 120 * 8 := Nat.mul_le_mul hpl.2 (by omega)
        have h4 : ((f : Nat) : Int) * (a : Int) = ((f * a : Nat) : Int) := rfl
        have h5 : ((f : Nat) : Int) * (b : Int) = ((f * b : Nat) : Int) := rfl
        rw [h1, h4, h5]
        omega
      exact lq84 b3 b4 b5 b6 hm hk F0 FH FM d (set + 1) _ _ (by omega) (by omega) (by omega) hOO hT _ _
def shrI (n : Nat) (sd kd : Nat → Nat) (s : Sn) (k m : Nat) (u : Bool) : Int32 := trmI (iI (shrL n sd kd s m k (2 ^ n) 0 0)) (shrL n sd kd s m k (2 ^ n) 0 0).natAbs (fct n) u
theorem x84 {tb : dxT} {H : dxH} {tx : Nat → Nat} {ln n : Nat} {sd kd : Nat → Nat} {s : Sn} {am : Nat} {stk : Nat → Sn} {kp : Nat → Bool} {ks : Nat → Sn} {tm : Nat} {tc th : Nat → Nat} {td : Nat → Bool} {sed : Int64} {k m : Nat} {u : Bool} (hI : CInv H tx ln n sd kd s am stk kp ks tm tc th td sed) (hS : SpOK tx ln n sd kd s am stk kp ks tm tc th) (hk : k < n) (hm1 : 1 ≤ m) (hm : m ≤ 8) : Cl tb 84 [.ref 0, .int (nI k), .int (nI m), .int (bI u)] H (fun r H' => r = some (.int (shrI n sd kd s k m u)) ∧ CInv H' tx ln n sd kd s am stk kp ks tm tc th td sed ∧ Off xC H H') := by
  obtain ⟨f0, fT, fH, fM, fA, fK, fL, fP⟩ := id hI
  obtain ⟨⟨b1, b2⟩, b3, b4, b5, b6, b7, b8, b9, b10, b11⟩ := id hS
  have hT := fP.1
  have g0 := f0
  unfold CC at g0
  obtain ⟨m0, m1, m2, m3, m4⟩ := id fM
  obtain ⟨_, _, _, _, _, _, _, _, ⟨t0, _⟩, _⟩ := id hT
  have hb : HE n < 64 := HE_lt b3
  have ha : 6 ≤ 6 := Nat.le_refl 6
  obtain ⟨u0, _⟩ := id fH
  have hp8 : 2 ^ n ≤ 2 ^ 6 := Nat.pow_le_pow_right (by decide) b3
  show Ev tb 84 0 [some (.ref 0), some (.int (nI k)), some (.int (nI m)), some (.int (bI u)), none, none, none, none, none, none] [] H _
  refine ev_aload_n i84_0 rfl ?_
  refine ev_get i84_1 ci84 fl7_19 (by assumption) rfl ?_
  refine ev_iload_n i84_4 rfl ?_
  refine ev_callV (vs := [.int (nI k)]) (rest := []) i84_5 ci84 lk7_105 (congrArg (fun q => q + 1) np15) ci15 (by decide) (by decide +kernel) (Nat.le_of_ble_eq_true rfl) ⟨rfl, rfl, Nat.le_of_ble_eq_true rfl⟩ rfl (by assumption) (c15 fH b3) (fun r HH hq => ?_)
  obtain ⟨rfl, rfl⟩ := hq
  have hin : inR (nI k) n = true := by rw [inR_n (by omega) (by omega)]; exact decide_eq_true hk
  rw [hin]
  show Ev tb 84 8 [some (.ref 0), some (.int (nI k)), some (.int (nI m)), some (.int (bI u)), none, none, none, none, none, none] [.int (bI true)] H _
  refine evb_if_ne (t := 13) i84_8 (by decide) (fun z8 => ?_) (fun z8 => by exfalso; cases z8)
  refine ev_iload_n i84_13 rfl ?_
  refine ev_callS (vs := [.int (nI m)]) (rest := []) i84_14 ci84 lk7_156 (Or.inl rfl) np99 (by decide +kernel) (Nat.le_of_ble_eq_true rfl) ⟨rfl, rfl, Nat.le_of_ble_eq_true rfl⟩ rfl (c99t (by omega) (by omega)) (fun r HH hq => ?_)
  obtain ⟨rfl, rfl⟩ := hq
  show Ev tb 84 17 [some (.ref 0), some (.int (nI k)), some (.int (nI m)), some (.int (bI u)), none, none, none, none, none, none] [.int (bI true)] H _
  refine evb_if_ne (t := 23) i84_17 (by decide) (fun z17 => ?_) (fun z17 => by exfalso; cases z17)
  refine ev_aload_n i84_23 rfl ?_
  refine ev_get i84_24 ci84 fl7_19 (by assumption) rfl ?_
  refine ev_callV (vs := []) (rest := []) i84_27 ci84 lk7_97 (congrArg (fun q => q + 1) np14) ci14 (by decide) (by decide +kernel) (Nat.le_of_ble_eq_true rfl) ⟨rfl, rfl, Nat.le_of_ble_eq_true rfl⟩ rfl (by assumption) (c14 fH) (fun r HH hq => ?_)
  obtain ⟨rfl, rfl⟩ := hq
  show Ev tb 84 30 [some (.ref 0), some (.int (nI k)), some (.int (nI m)), some (.int (bI u)), none, none, none, none, none, none] [.int (nI n)] H _
  refine ev_istore (L' := [some (.ref 0), some (.int (nI k)), some (.int (nI m)), some (.int (bI u)), some (.int (nI n)), none, none, none, none, none]) i84_30 ⟨Nat.le_of_ble_eq_true rfl, rfl⟩ rfl ?_
  refine ev_iconst (v := nI 1) i84_32 (by decide) ?_
  refine ev_iload_n i84_33 rfl ?_
  refine ev_ishl i84_34 ?_
  rw [shl1 k (by omega)]
  refine ev_istore (L' := [some (.ref 0), some (.int (nI k)), some (.int (nI m)), some (.int (bI u)), some (.int (nI n)), some (.int (nI (2 ^ k))), none, none, none, none]) i84_35 ⟨Nat.le_of_ble_eq_true rfl, rfl⟩ rfl ?_
  refine ev_iconst (v := nI 0) i84_37 (by decide) ?_
  refine ev_istore (L' := [some (.ref 0), some (.int (nI k)), some (.int (nI m)), some (.int (bI u)), some (.int (nI n)), some (.int (nI (2 ^ k))), some (.int (nI 0)), none, none, none]) i84_38 ⟨Nat.le_of_ble_eq_true rfl, rfl⟩ rfl ?_
  refine ev_iconst (v := nI 0) i84_40 (by decide) ?_
  refine ev_istore (L' := [some (.ref 0), some (.int (nI k)), some (.int (nI m)), some (.int (bI u)), some (.int (nI n)), some (.int (nI (2 ^ k))), some (.int (nI 0)), some (.int (nI 0)), none, none]) i84_41 ⟨Nat.le_of_ble_eq_true rfl, rfl⟩ rfl ?_
  refine (lq84 b3 b4 b5 b6 hm hk f0 fH fM (2 ^ n) 0 0 H (Nat.zero_add _) (by omega) (by omega) Off.rf hT _ _).post (fun r H' hq => ?_)
  exact ⟨hq.1, hI.tr hq.2.2 hq.2.1⟩
theorem x84u {tb : dxT} {H : dxH} {tx : Nat → Nat} {ln n : Nat} {sd kd : Nat → Nat} {s : Sn} {am : Nat} {stk : Nat → Sn} {kp : Nat → Bool} {ks : Nat → Sn} {tm : Nat} {tc th : Nat → Nat} {td : Nat → Bool} {sed : Int64} {x y : Int32} {u : Bool} (hI : CInv H tx ln n sd kd s am stk kp ks tm tc th td sed) (hS : SpOK tx ln n sd kd s am stk kp ks tm tc th) (h : inR x n = false) : Cl tb 84 [.ref 0, .int x, .int y, .int (bI u)] H (fun r H' => r = some (.int (-1)) ∧ CInv H' tx ln n sd kd s am stk kp ks tm tc th td sed ∧ Off xC H H') := by
  obtain ⟨f0, fT, fH, fM, fA, fK, fL, fP⟩ := id hI
  obtain ⟨⟨b1, b2⟩, b3, b4, b5, b6, b7, b8, b9, b10, b11⟩ := id hS
  have hT := fP.1
  have g0 := f0
  unfold CC at g0
  obtain ⟨m0, m1, m2, m3, m4⟩ := id fM
  obtain ⟨_, _, _, _, _, _, _, _, ⟨t0, _⟩, _⟩ := id hT
  have hb : HE n < 64 := HE_lt b3
  have ha : 6 ≤ 6 := Nat.le_refl 6
  obtain ⟨u0, _⟩ := id fH
  show Ev tb 84 0 [some (.ref 0), some (.int x), some (.int y), some (.int (bI u)), none, none, none, none, none, none] [] H _
  refine ev_aload_n i84_0 rfl ?_
  refine ev_get i84_1 ci84 fl7_19 (by assumption) rfl ?_
  refine ev_iload_n i84_4 rfl ?_
  refine ev_callV (vs := [.int x]) (rest := []) i84_5 ci84 lk7_105 (congrArg (fun q => q + 1) np15) ci15 (by decide) (by decide +kernel) (Nat.le_of_ble_eq_true rfl) ⟨rfl, rfl, Nat.le_of_ble_eq_true rfl⟩ rfl (by assumption) (c15 (by assumption) (by omega)) (fun r HH hq => ?_)
  obtain ⟨rfl, rfl⟩ := hq
  show Ev tb 84 8 [some (.ref 0), some (.int x), some (.int y), some (.int (bI u)), none, none, none, none, none, none] [.int (bI (inR x n))] H _
  refine evb_if_ne (t := 13) i84_8 (by decide) (fun z8 => by exfalso; rw [h] at z8; cases z8) (fun z8 => ?_)
  refine ev_iconst (v := (-1)) i84_11 (by decide) ?_
  refine ev_iret i84_12 (by decide +kernel) ?_
  exact ⟨rfl, hI, Off.rf⟩
theorem x84o {tb : dxT} {H : dxH} {tx : Nat → Nat} {ln n : Nat} {sd kd : Nat → Nat} {s : Sn} {am : Nat} {stk : Nat → Sn} {kp : Nat → Bool} {ks : Nat → Sn} {tm : Nat} {tc th : Nat → Nat} {td : Nat → Bool} {sed : Int64} {k : Nat} {x : Int32} {u : Bool} (hI : CInv H tx ln n sd kd s am stk kp ks tm tc th td sed) (hS : SpOK tx ln n sd kd s am stk kp ks tm tc th) (hk : k < n) (h : ahdB x = false) : Cl tb 84 [.ref 0, .int (nI k), .int x, .int (bI u)] H (fun r H' => r = some (.int (-2)) ∧ CInv H' tx ln n sd kd s am stk kp ks tm tc th td sed ∧ Off xC H H') := by
  obtain ⟨f0, fT, fH, fM, fA, fK, fL, fP⟩ := id hI
  obtain ⟨⟨b1, b2⟩, b3, b4, b5, b6, b7, b8, b9, b10, b11⟩ := id hS
  have hT := fP.1
  have g0 := f0
  unfold CC at g0
  obtain ⟨m0, m1, m2, m3, m4⟩ := id fM
  obtain ⟨_, _, _, _, _, _, _, _, ⟨t0, _⟩, _⟩ := id hT
  have hb : HE n < 64 := HE_lt b3
  have ha : 6 ≤ 6 := Nat.le_refl 6
  obtain ⟨u0, _⟩ := id fH
  show Ev tb 84 0 [some (.ref 0), some (.int (nI k)), some (.int x), some (.int (bI u)), none, none, none, none, none, none] [] H _
  refine ev_aload_n i84_0 rfl ?_
  refine ev_get i84_1 ci84 fl7_19 (by assumption) rfl ?_
  refine ev_iload_n i84_4 rfl ?_
  refine ev_callV (vs := [.int (nI k)]) (rest := []) i84_5 ci84 lk7_105 (congrArg (fun q => q + 1) np15) ci15 (by decide) (by decide +kernel) (Nat.le_of_ble_eq_true rfl) ⟨rfl, rfl, Nat.le_of_ble_eq_true rfl⟩ rfl (by assumption) (c15 fH b3) (fun r HH hq => ?_)
  obtain ⟨rfl, rfl⟩ := hq
  have hin : inR (nI k) n = true := by rw [inR_n (by omega) (by omega)]; exact decide_eq_true hk
  rw [hin]
  show Ev tb 84 8 [some (.ref 0), some (.int (nI k)), some (.int x), some (.int (bI u)), none, none, none, none, none, none] [.int (bI true)] H _
  refine evb_if_ne (t := 13) i84_8 (by decide) (fun z8 => ?_) (fun z8 => by exfalso; cases z8)
  refine ev_iload_n i84_13 rfl ?_
  refine ev_callS (vs := [.int x]) (rest := []) i84_14 ci84 lk7_156 (Or.inl rfl) np99 (by decide +kernel) (Nat.le_of_ble_eq_true rfl) ⟨rfl, rfl, Nat.le_of_ble_eq_true rfl⟩ rfl (c99f (by assumption)) (fun r HH hq => ?_)
  obtain ⟨rfl, rfl⟩ := hq
  show Ev tb 84 17 [some (.ref 0), some (.int (nI k)), some (.int x), some (.int (bI u)), none, none, none, none, none, none] [.int (bI false)] H _
  refine evb_if_ne (t := 23) i84_17 (by decide) (fun z17 => by exfalso; cases z17) (fun z17 => ?_)
  refine ev_bipush (v := (-2)) i84_20 (by decide) ?_
  refine ev_iret i84_22 (by decide +kernel) ?_
  exact ⟨rfl, hI, Off.rf⟩
