/-! the model: its cells, its small methods  -/
def inJ (a b c : Int64) : Bool := decide (b ≤ a ∧ a ≤ c)
theorem lg_nlt {a b : Int64} (h : ¬ lg_cmp a b < 0) : b ≤ a := by
  rw [lg_cmp_lt, Int64.lt_iff_toInt_lt] at h
  rw [Int64.le_iff_toInt_le]
  omega
theorem lg_ngt {a b : Int64} (h : ¬ 0 < lg_cmp a b) : a ≤ b := by
  rw [lg_cmp_gt, Int64.lt_iff_toInt_lt] at h
  rw [Int64.le_iff_toInt_le]
  omega
theorem lg_lt_f {a b c : Int64} (h : lg_cmp a b < 0) : inJ a b c = false := decide_eq_false (fun q => by
  have h2 := q.1
  rw [lg_cmp_lt, Int64.lt_iff_toInt_lt] at h
  rw [Int64.le_iff_toInt_le] at h2
  omega)
theorem lg_gt_f {a b c : Int64} (h : 0 < lg_cmp a c) : inJ a b c = false := decide_eq_false (fun q => by
  have h2 := q.2
  rw [lg_cmp_gt, Int64.lt_iff_toInt_lt] at h
  rw [Int64.le_iff_toInt_le] at h2
  omega)
theorem inJ_M {x : Int32} {a b : Nat} {A B : Int64} (hA : A.toInt = a) (hB : B.toInt = b) (ha : a < 2147483648) (hb : b < 2147483648) : inJ x.toInt64 A B = inM x a b := by
  unfold inJ inM
  refine decide_eq_decide.mpr ?_
  rw [Int64.le_iff_toInt_le, Int64.le_iff_toInt_le, Int32.le_iff_toInt_le, Int32.le_iff_toInt_le, Int32.toInt_toInt64, hA, hB, nI_toInt ha, nI_toInt hb]
theorem inJ_R {x : Int32} {m : Nat} {B : Int64} (hB : B.toInt = (m : Int) - 1) (hm : m < 2147483648) : inJ x.toInt64 0 B = inR x m := by
  unfold inJ inR
  refine decide_eq_decide.mpr ?_
  rw [Int64.le_iff_toInt_le, Int64.le_iff_toInt_le, Int32.lt_iff_toInt_lt, Int32.lt_iff_toInt_lt, Int32.toInt_toInt64, hB, nI_toInt hm, show (0 : Int64).toInt = 0 from rfl, show (0 : Int32).toInt = 0 from rfl]
  omega
theorem c117 {tb : dxT} {H : dxH} {a b c : Int64} : Cl tb 117 [.long a, .long b, .long c] H (Rt (.int (bI (inJ a b c))) H) := by
  show Ev tb 117 0 [some (.long a), none, some (.long b), none, some (.long c), none] [] H _
  refine ev_lload_n i117_0 rfl ?_
  refine ev_lload_n i117_1 rfl ?_
  refine ev_lcmp i117_2 ?_
  refine ev_if_lt (t := 17) i117_3 (by decide) (fun z3 => ?_) (fun z3 => ?_)
  · refine ev_iconst (v := nI 0) i117_17 (by decide) ?_
    refine ev_zret i117_18 (by decide +kernel) (by decide) ?_
    exact ⟨zf (lg_lt_f z3), rfl⟩
  · refine ev_lload_n i117_6 rfl ?_
    refine ev_lload i117_7 rfl ?_
    refine ev_lcmp i117_9 ?_
    refine ev_if_gt (t := 17) i117_10 (by decide) (fun z10 => ?_) (fun z10 => ?_)
    · refine ev_iconst (v := nI 0) i117_17 (by decide) ?_
      refine ev_zret i117_18 (by decide +kernel) (by decide) ?_
      exact ⟨zf (lg_gt_f z10), rfl⟩
    · refine ev_iconst (v := nI 1) i117_13 (by decide) ?_
      refine ev_goto (t := 18) i117_14 (by decide) ?_
      refine ev_zret i117_18 (by decide +kernel) (by decide) ?_
      exact ⟨zt (decide_eq_true ⟨lg_nlt z3, lg_ngt z10⟩), rfl⟩
theorem c118 {tb : dxT} {H : dxH} {a k : Nat} (ha : a < 1024) (hk : k < 10) : Cl tb 118 [.int (nI a), .int (nI k)] H (Rt (.int (bI (a.testBit k))) H) := by
  show Ev tb 118 0 [some (.int (nI a)), some (.int (nI k))] [] H _
  refine ev_iload_n i118_0 rfl ?_
  refine ev_iload_n i118_1 rfl ?_
  refine ev_ishr i118_2 ?_
  refine ev_iconst (v := nI 1) i118_3 (by decide) ?_
  refine ev_iand i118_4 ?_
  rw [bit10 a ha k hk]
  refine ev_iconst (v := nI 1) i118_5 (by decide) ?_
  refine evb1_icmp_ne (t := 13) i118_6 (by decide) (fun z6 => ?_) (fun z6 => ?_)
  · refine ev_iconst (v := nI 0) i118_13 (by decide) ?_
    refine ev_zret i118_14 (by decide +kernel) (by decide) ?_
    exact ⟨zf z6, rfl⟩
  · refine ev_iconst (v := nI 1) i118_9 (by decide) ?_
    refine ev_goto (t := 14) i118_10 (by decide) ?_
    refine ev_zret i118_14 (by decide +kernel) (by decide) ?_
    exact ⟨zt z6, rfl⟩
/-- the model's object -/
def mOb (n : Nat) (f : Nat → Int32) (sed : Int64) : dxE := .inr (8, [.int (nI n), .ref 112, .ref 113, .ref 114, .ref 115, .ref 116, .ref 117, .int (f 0), .int (f 1), .int (f 2), .ref 118, .int (f 3), .int (f 4), .int (f 5), .int (f 6), .int (f 7), .ref 119, .ref 120, .int (f 8), .ref 121, .ref 122, .ref 123, .ref 124, .long sed, .ref 125, .ref 126])
/-- a row of the model's tells what a meadow tells -/
def Lv (g : Nat → Int32) (o n : Nat) (ce : Nat → Nat) (sn : Bool) (x : Hs) : Prop := (∀ j, j < 10 → g (o + j) = nI (x.1 j)) ∧ (∀ k, k < n → g (o + 10 + k) = nI (ce k)) ∧ (∀ k, k < n → g (o + 16 + k) = nI (x.2.1 k)) ∧ g (o + 22) = bI sn ∧ (∀ i, i < 2 → g (o + 23 + i) = x.2.2.1 i) ∧ g (o + 25) = x.2.2.2.2 ∧ g (o + 26) = x.2.2.2.1
/-- the model's object, herd, rows -/
def MC (H : dxH) (n : Nat) (f : Nat → Int32) (sed : Int64) (sd kd : Nat → Nat) (g : Nat → Int32) : Prop := H[111]? = some (mOb n f sed) ∧ (∃ ms mk : Nat → Int32, H[112]? = some (.inl (0, 6, .inl ms)) ∧ (∀ k, k < n → ms k = nI (sd k)) ∧ H[113]? = some (.inl (0, 6, .inl mk)) ∧ ∀ k, k < n → mk k = nI (kd k)) ∧ H[114]? = some (.inl (0, 54, .inl g))
theorem cow_in : ∀ n, n < 7 → (nI n - nI 1).toInt64.toInt = (n : Int) - 1 := by decide
theorem due_t {k f : Nat} (h1 : ¬ k = 2) (h2 : (if k = 1 then 9 else 6) ≤ f) : dueB k f = true := by
  unfold dueB
  rw [Bool.and_eq_true]
  exact ⟨decide_eq_true h1, decide_eq_true h2⟩
theorem due_f {k f : Nat} (h : ¬ k = 2 → ¬ (if k = 1 then 9 else 6) ≤ f) : dueB k f = false := Bool.eq_false_iff.mpr (fun q => by
  unfold dueB at q
  rw [Bool.and_eq_true] at q
  exact h (of_decide_eq_true q.1) (of_decide_eq_true q.2))
theorem c128 {tb : dxT} {H : dxH} {n : Nat} {f : Nat → Int32} {sed : Int64} {sd kd : Nat → Nat} {g : Nat → Int32} {x : Int32} (hC : MC H n f sed sd kd g) (hn : n ≤ 6) (b5 : ∀ j, kd j < 4) : Cl tb 128 [.ref 111, .int x] H (Rt (.int (bI (inR x n))) H) := by
  obtain ⟨c0, ⟨ms, mk, c1, c2, c3, c4⟩, c5⟩ := id hC
  unfold mOb at c0
  show Ev tb 128 0 [some (.ref 111), some (.int x)] [] H _
  refine ev_iload_n i128_0 rfl ?_
  refine ev_i2l i128_1 ?_
  refine ev_lconst (v := 0) i128_2 (by decide) ?_
  refine ev_aload_n i128_3 rfl ?_
  refine ev_get i128_4 ci128 fl8_56 (by assumption) rfl ?_
  refine ev_iconst (v := nI 1) i128_7 (by decide) ?_
  refine ev_isub i128_8 ?_
  refine ev_i2l i128_9 ?_
  refine ev_callS (vs := [.long x.toInt64, .long 0, .long (((nI n) - (nI 1)).toInt64)]) (rest := []) i128_10 ci128 lk8_62 (Or.inl rfl) np117 (by decide +kernel) (Nat.le_of_ble_eq_true rfl) ⟨rfl, rfl, Nat.le_of_ble_eq_true rfl⟩ rfl (c117) (fun r HH hq => ?_)
  obtain ⟨rfl, rfl⟩ := hq
  rw [inJ_R (x := x) (cow_in n (by omega)) (by omega)]
  show Ev tb 128 13 [some (.ref 111), some (.int x)] [.int (bI (inR x n))] H _
  refine ev_zret i128_13 (by decide +kernel) (bI_and _) ?_
  exact ⟨rfl, rfl⟩
theorem c130 {tb : dxT} {H : dxH} {n : Nat} {f : Nat → Int32} {sed : Int64} {sd kd : Nat → Nat} {g : Nat → Int32} {l k : Nat} {ce : Nat → Nat} {sn : Bool} {x : Hs} (hC : MC H n f sed sd kd g) (hn : n ≤ 6) (b5 : ∀ j, kd j < 4) (hL : Lv g (27 * l) n ce sn x) (hl : l < 2) (hk : k < n) (hx : SOK x) : Cl tb 130 [.ref 111, .int (nI l), .int (nI k)] H (Rt (.int (bI (dueB (kd k) (x.2.1 k)))) H) := by
  obtain ⟨c0, ⟨ms, mk, c1, c2, c3, c4⟩, c5⟩ := id hC
  unfold mOb at c0
  have hx2 := hx.2.1 k
  have hk4 := b5 k
  show Ev tb 130 0 [some (.ref 111), some (.int (nI l)), some (.int (nI k)), none] [] H _
  refine ev_aload_n i130_0 rfl ?_
  refine ev_get i130_1 ci130 fl8_13 (by assumption) rfl ?_
  refine ev_iload_n i130_4 rfl ?_
  refine ev_iald_n i130_5 (by assumption) (by omega) ?_
  rw [c4 k hk]
  refine ev_iconst (v := nI 1) i130_6 (by decide) ?_
  refine evn_icmp_ne (t := 15) i130_7 (by decide) (by omega) (fun z7 => ?_) (fun z7 => ?_)
  · refine ev_aload_n i130_15 rfl ?_
    refine ev_get i130_16 ci130 fl8_13 (by assumption) rfl ?_
    refine ev_iload_n i130_19 rfl ?_
    refine ev_iald_n i130_20 (by assumption) (by omega) ?_
    rw [c4 k hk]
    refine ev_iconst (v := nI 2) i130_21 (by decide) ?_
    refine evn_icmp_ne (t := 30) i130_22 (by decide) (by omega) (fun z22 => ?_) (fun z22 => ?_)
    · refine ev_bipush (v := nI 6) i130_30 (by decide) ?_
      refine ev_istore_n (L' := [some (.ref 111), some (.int (nI l)), some (.int (nI k)), some (.int (nI 6))]) i130_32 ⟨Nat.le_of_ble_eq_true rfl, rfl⟩ rfl ?_
      refine ev_aload_n i130_33 rfl ?_
      refine ev_get i130_34 ci130 fl8_16 (by assumption) rfl ?_
      refine ev_bipush (v := nI 27) i130_37 (by decide) ?_
      refine ev_iload_n i130_39 rfl ?_
      refine evn_imul i130_40 ?_
      refine ev_bipush (v := nI 16) i130_41 (by decide) ?_
      refine evn_iadd i130_43 ?_
      refine ev_iload_n i130_44 rfl ?_
      refine evn_iadd i130_45 ?_
      refine ev_iald_n i130_46 (by assumption) (by omega) ?_
      rw [show g (27 * l + 16 + k) = nI (x.2.1 k) from hL.2.2.1 k hk]
      refine ev_iload_n i130_47 rfl ?_
      refine evn_icmp_lt (t := 55) i130_48 (by decide) (by omega) (fun z48 => ?_) (fun z48 => ?_)
      · refine ev_iconst (v := nI 0) i130_55 (by decide) ?_
        refine ev_zret i130_56 (by decide +kernel) (by decide) ?_
        exact ⟨zf (due_f (fun q => by split <;> omega)), rfl⟩
      · refine ev_iconst (v := nI 1) i130_51 (by decide) ?_
        refine ev_goto (t := 56) i130_52 (by decide) ?_
        refine ev_zret i130_56 (by decide +kernel) (by decide) ?_
        exact ⟨zt (due_t (by omega) (by split <;> omega)), rfl⟩
    · refine ev_bipush (v := nI 99) i130_25 (by decide) ?_
      refine ev_goto (t := 32) i130_27 (by decide) ?_
      refine ev_istore_n (L' := [some (.ref 111), some (.int (nI l)), some (.int (nI k)), some (.int (nI 99))]) i130_32 ⟨Nat.le_of_ble_eq_true rfl, rfl⟩ rfl ?_
      refine ev_aload_n i130_33 rfl ?_
      refine ev_get i130_34 ci130 fl8_16 (by assumption) rfl ?_
      refine ev_bipush (v := nI 27) i130_37 (by decide) ?_
      refine ev_iload_n i130_39 rfl ?_
      refine evn_imul i130_40 ?_
      refine ev_bipush (v := nI 16) i130_41 (by decide) ?_
      refine evn_iadd i130_43 ?_
      refine ev_iload_n i130_44 rfl ?_
      refine evn_iadd i130_45 ?_
      refine ev_iald_n i130_46 (by assumption) (by omega) ?_
      rw [show g (27 * l + 16 + k) = nI (x.2.1 k) from hL.2.2.1 k hk]
      refine ev_iload_n i130_47 rfl ?_
      refine evn_icmp_lt (t := 55) i130_48 (by decide) (by omega) (fun z48 => ?_) (fun z48 => ?_)
      · refine ev_iconst (v := nI 0) i130_55 (by decide) ?_
        refine ev_zret i130_56 (by decide +kernel) (by decide) ?_
        exact ⟨zf (due_f (fun q => by split <;> omega)), rfl⟩
      · refine ev_iconst (v := nI 1) i130_51 (by decide) ?_
        refine ev_goto (t := 56) i130_52 (by decide) ?_
        refine ev_zret i130_56 (by decide +kernel) (by decide) ?_
        exact ⟨zt (due_t (by omega) (by split <;> omega)), rfl⟩
  · refine ev_bipush (v := nI 9) i130_10 (by decide) ?_
    refine ev_goto (t := 32) i130_12 (by decide) ?_
    refine ev_istore_n (L' := [some (.ref 111), some (.int (nI l)), some (.int (nI k)), some (.int (nI 9))]) i130_32 ⟨Nat.le_of_ble_eq_true rfl, rfl⟩ rfl ?_
    refine ev_aload_n i130_33 rfl ?_
    refine ev_get i130_34 ci130 fl8_16 (by assumption) rfl ?_
    refine ev_bipush (v := nI 27) i130_37 (by decide) ?_
    refine ev_iload_n i130_39 rfl ?_
    refine evn_imul i130_40 ?_
    refine ev_bipush (v := nI 16) i130_41 (by decide) ?_
    refine evn_iadd i130_43 ?_
    refine ev_iload_n i130_44 rfl ?_
    refine evn_iadd i130_45 ?_
    refine ev_iald_n i130_46 (by assumption) (by omega) ?_
    rw [show g (27 * l + 16 + k) = nI (x.2.1 k) from hL.2.2.1 k hk]
    refine ev_iload_n i130_47 rfl ?_
    refine evn_icmp_lt (t := 55) i130_48 (by decide) (by omega) (fun z48 => ?_) (fun z48 => ?_)
    · refine ev_iconst (v := nI 0) i130_55 (by decide) ?_
      refine ev_zret i130_56 (by decide +kernel) (by decide) ?_
      exact ⟨zf (due_f (fun q => by split <;> omega)), rfl⟩
    · refine ev_iconst (v := nI 1) i130_51 (by decide) ?_
      refine ev_goto (t := 56) i130_52 (by decide) ?_
      refine ev_zret i130_56 (by decide +kernel) (by decide) ?_
      exact ⟨zt (due_t (by omega) (by split <;> omega)), rfl⟩
theorem mh_bit {sm n k : Nat} : (sm &&& HE n).testBit k = (sm.testBit k && decide (k < n)) := by rw [Nat.testBit_and, HE_bit]
theorem mh_lt {sm n : Nat} (hn : n ≤ 6) : sm &&& HE n < 64 := Nat.lt_of_le_of_lt Nat.and_le_right (HE_lt hn)
def pD (sm : Nat) (kd fu : Nat → Nat) (k : Nat) : Bool := sm.testBit k && dueB (kd k) (fu k)
def pW (sm : Nat) (kd fu : Nat → Nat) (k : Nat) : Bool := sm.testBit k && wrnB (kd k) (fu k)
theorem srtL_any {he : Nat} {kd fu : Nat → Nat} : ∀ (d k s : Nat), srtL he kd fu d k s = if anyB (pD he kd fu) d k = true then 1 else if anyB (pW he kd fu) d k = true then 2 else s
  | 0, _, _ => by unfold srtL anyB; simp
  | d + 1, k, s => by
    unfold srtL
    rw [srtL_any d (k + 1)]
    show _ = if (pD he kd fu k || anyB (pD he kd fu) d (k + 1)) = true then 1 else if (pW he kd fu k || anyB (pW he kd fu) d (k + 1)) = true then 2 else s
    have e1 : (he.testBit k && dueB (kd k) (fu k)) = pD he kd fu k := rfl
    have e2 : (he.testBit k && wrnB (kd k) (fu k)) = pW he kd fu k := rfl
    rw [e1, e2]
    cases pD he kd fu k <;> cases pW he kd fu k <;> cases anyB (pD he kd fu) d (k + 1) <;> cases anyB (pW he kd fu) d (k + 1) <;> simp
theorem any_mh {sm n : Nat} (hn : n ≤ 6) {q : Nat → Bool} : anyB (fun k => (sm &&& HE n).testBit k && q k) 6 0 = anyB (fun k => sm.testBit k && q k) n 0 := by
  refine Bool.eq_iff_iff.mpr ?_
  rw [anyB_iff, anyB_iff]
  constructor
  · rintro ⟨i, h1, h2, h3⟩
    simp only [mh_bit, Bool.and_eq_true, decide_eq_true_eq] at h3
    exact ⟨i, h1, by omega, by simp only [Bool.and_eq_true]; exact ⟨h3.1.1, h3.2⟩⟩
  · rintro ⟨i, h1, h2, h3⟩
    simp only [Bool.and_eq_true] at h3
    exact ⟨i, h1, by omega, by simp only [mh_bit, Bool.and_eq_true, decide_eq_true_eq]; exact ⟨⟨h3.1, by omega⟩, h3.2⟩⟩
theorem srtF_mod {sm n : Nat} {kd fu : Nat → Nat} {sn rg : Bool} (hn : n ≤ 6) : srtF (sm &&& HE n) kd fu sn rg = if sn = true then 3 else if rg = true then 1 else if anyB (pD sm kd fu) n 0 = true then 1 else if anyB (pW sm kd fu) n 0 = true then 2 else 0 := by
  unfold srtF
  rw [srtL_any]
  rw [show anyB (pD (sm &&& HE n) kd fu) 6 0 = anyB (pD sm kd fu) n 0 from any_mh hn, show anyB (pW (sm &&& HE n) kd fu) 6 0 = anyB (pW sm kd fu) n 0 from any_mh hn]
theorem lq132 {tb : dxT} {H : dxH} {n : Nat} {f : Nat → Int32} {sed : Int64} {sd kd : Nat → Nat} {g : Nat → Int32} {l : Nat} {ce : Nat → Nat} {sn : Bool} {x : Hs} {sm : Nat} (hC : MC H n f sed sd kd g) (hn : n ≤ 6) (b5 : ∀ j, kd j < 4) (hL : Lv g (27 * l) n ce sn x) (hl : l < 2) (hx : SOK x) (hm : sm < 1024) : ∀ (d k : Nat) (acc : Bool), k + d = n → Ev tb 132 5 [some (.ref 111), some (.int (nI l)), some (.int (nI sm)), some (.int (bI acc)), some (.int (nI k))] [] H (Rt (.int (bI (acc || anyB (pD sm kd x.2.1) d k))) H)
  | 0, k, acc, hk => by
    obtain rfl : k = n := by omega
    obtain ⟨c0, ⟨ms, mk, c1, c2, c3, c4⟩, c5⟩ := id hC
    unfold mOb at c0
    refine ev_iload i132_5 rfl ?_
    refine ev_aload_n i132_7 rfl ?_
    refine ev_get i132_8 ci132 fl8_56 (by assumption) rfl ?_
    refine evn_icmp_ge (t := 49) i132_11 (by decide) (by omega) (fun z11 => ?_) (fun z11 => by exfalso; omega)
    refine ev_iload_n i132_49 rfl ?_
    refine ev_zret i132_50 (by decide +kernel) (bI_and _) ?_
    rw [show (acc || anyB (pD sm kd x.2.1) 0 k) = acc from Bool.or_false _]
    exact ⟨rfl, rfl⟩
  | d + 1, k, acc, hk => by
    obtain ⟨c0, ⟨ms, mk, c1, c2, c3, c4⟩, c5⟩ := id hC
    unfold mOb at c0
    refine ev_iload i132_5 rfl ?_
    refine ev_aload_n i132_7 rfl ?_
    refine ev_get i132_8 ci132 fl8_56 (by assumption) rfl ?_
    refine evn_icmp_ge (t := 49) i132_11 (by decide) (by omega) (fun z11 => by exfalso; omega) (fun z11 => ?_)
    refine ev_iload_n i132_14 rfl ?_
    refine evb_if_ne (t := 37) i132_15 (by decide) (fun z15 => ?_) (fun z15 => ?_)
    · refine ev_iconst (v := nI 1) i132_37 (by decide) ?_
      refine ev_goto (t := 42) i132_38 (by decide) ?_
      refine ev_istore_n (L' := [some (.ref 111), some (.int (nI l)), some (.int (nI sm)), some (.int (nI 1)), some (.int (nI k))]) i132_42 ⟨Nat.le_of_ble_eq_true rfl, rfl⟩ rfl ?_
      refine evn_iinc (d := 1) (L' := [some (.ref 111), some (.int (nI l)), some (.int (nI sm)), some (.int (nI 1)), some (.int (nI (k + 1)))]) i132_43 rfl rfl (by decide) rfl ?_
      refine ev_goto (t := 5) i132_46 (by decide) ?_
      have e : (acc || anyB (pD sm kd x.2.1) (d + 1) k) = (true || anyB (pD sm kd x.2.1) d (k + 1)) := by
        rw [z15]
        simp
      rw [e]
      exact lq132 hC hn b5 hL hl hx hm d (k + 1) true (by omega)
    · refine ev_iload_n i132_18 rfl ?_
      refine ev_iload i132_19 rfl ?_
      refine ev_callS (vs := [.int (nI sm), .int (nI k)]) (rest := []) i132_21 ci132 lk8_77 (Or.inl rfl) np118 (by decide +kernel) (Nat.le_of_ble_eq_true rfl) ⟨rfl, rfl, Nat.le_of_ble_eq_true rfl⟩ rfl (c118 hm (by omega)) (fun r HH hq => ?_)
      obtain ⟨rfl, rfl⟩ := hq
      show Ev tb 132 24 [some (.ref 111), some (.int (nI l)), some (.int (nI sm)), some (.int (bI acc)), some (.int (nI k))] [.int (bI (sm.testBit k))] H _
      refine evb_if_eq (t := 41) i132_24 (by decide) (fun z24 => ?_) (fun z24 => ?_)
      · refine ev_iconst (v := nI 0) i132_41 (by decide) ?_
        refine ev_istore_n (L' := [some (.ref 111), some (.int (nI l)), some (.int (nI sm)), some (.int (nI 0)), some (.int (nI k))]) i132_42 ⟨Nat.le_of_ble_eq_true rfl, rfl⟩ rfl ?_
        refine evn_iinc (d := 1) (L' := [some (.ref 111), some (.int (nI l)), some (.int (nI sm)), some (.int (nI 0)), some (.int (nI (k + 1)))]) i132_43 rfl rfl (by decide) rfl ?_
        refine ev_goto (t := 5) i132_46 (by decide) ?_
        have hp : (pD sm kd x.2.1) k = false := by
          unfold pD
          simp [z24]
        have e : (acc || anyB (pD sm kd x.2.1) (d + 1) k) = (false || anyB (pD sm kd x.2.1) d (k + 1)) := by
          show (acc || ((pD sm kd x.2.1) k || _)) = _
          rw [hp]
          simp [z15]
        rw [e]
        exact lq132 hC hn b5 hL hl hx hm d (k + 1) false (by omega)
      · refine ev_aload_n i132_27 rfl ?_
        refine ev_iload_n i132_28 rfl ?_
        refine ev_iload i132_29 rfl ?_
        refine ev_callV (vs := [.int (nI l), .int (nI k)]) (rest := []) i132_31 ci132 lk8_112 (congrArg (fun q => q + 1) np130) ci130 (by decide) (by decide +kernel) (Nat.le_of_ble_eq_true rfl) ⟨rfl, rfl, Nat.le_of_ble_eq_true rfl⟩ rfl (by assumption) (c130 hC hn b5 hL hl (by omega) hx) (fun r HH hq => ?_)
        obtain ⟨rfl, rfl⟩ := hq
        show Ev tb 132 34 [some (.ref 111), some (.int (nI l)), some (.int (nI sm)), some (.int (bI acc)), some (.int (nI k))] [.int (bI (dueB (kd k) (x.2.1 k)))] H _
        refine evb_if_eq (t := 41) i132_34 (by decide) (fun z34 => ?_) (fun z34 => ?_)
        · refine ev_iconst (v := nI 0) i132_41 (by decide) ?_
          refine ev_istore_n (L' := [some (.ref 111), some (.int (nI l)), some (.int (nI sm)), some (.int (nI 0)), some (.int (nI k))]) i132_42 ⟨Nat.le_of_ble_eq_true rfl, rfl⟩ rfl ?_
          refine evn_iinc (d := 1) (L' := [some (.ref 111), some (.int (nI l)), some (.int (nI sm)), some (.int (nI 0)), some (.int (nI (k + 1)))]) i132_43 rfl rfl (by decide) rfl ?_
          refine ev_goto (t := 5) i132_46 (by decide) ?_
          have hp : (pD sm kd x.2.1) k = false := by
            unfold pD
            simp [z24, z34]
          have e : (acc || anyB (pD sm kd x.2.1) (d + 1) k) = (false || anyB (pD sm kd x.2.1) d (k + 1)) := by
            show (acc || ((pD sm kd x.2.1) k || _)) = _
            rw [hp]
            simp [z15]
          rw [e]
          exact lq132 hC hn b5 hL hl hx hm d (k + 1) false (by omega)
        · refine ev_iconst (v := nI 1) i132_37 (by decide) ?_
          refine ev_goto (t := 42) i132_38 (by decide) ?_
          refine ev_istore_n (L' := [some (.ref 111), some (.int (nI l)), some (.int (nI sm)), some (.int (nI 1)), some (.int (nI k))]) i132_42 ⟨Nat.le_of_ble_eq_true rfl, rfl⟩ rfl ?_
          refine evn_iinc (d := 1) (L' := [some (.ref 111), some (.int (nI l)), some (.int (nI sm)), some (.int (nI 1)), some (.int (nI (k + 1)))]) i132_43 rfl rfl (by decide) rfl ?_
          refine ev_goto (t := 5) i132_46 (by decide) ?_
          have hp : (pD sm kd x.2.1) k = true := by
            unfold pD
            simp [z24, z34]
          have e : (acc || anyB (pD sm kd x.2.1) (d + 1) k) = (true || anyB (pD sm kd x.2.1) d (k + 1)) := by
            show (acc || ((pD sm kd x.2.1) k || _)) = _
            rw [hp]
            simp [z15]
          rw [e]
          exact lq132 hC hn b5 hL hl hx hm d (k + 1) true (by omega)
theorem c132 {tb : dxT} {H : dxH} {n : Nat} {f : Nat → Int32} {sed : Int64} {sd kd : Nat → Nat} {g : Nat → Int32} {l : Nat} {ce : Nat → Nat} {sn : Bool} {x : Hs} {sm : Nat} (hC : MC H n f sed sd kd g) (hn : n ≤ 6) (b5 : ∀ j, kd j < 4) (hL : Lv g (27 * l) n ce sn x) (hl : l < 2) (hx : SOK x) (hm : sm < 1024) : Cl tb 132 [.ref 111, .int (nI l), .int (nI sm)] H (Rt (.int (bI (anyB (pD sm kd x.2.1) n 0))) H) := by
  show Ev tb 132 0 [some (.ref 111), some (.int (nI l)), some (.int (nI sm)), none, none] [] H _
  refine ev_iconst (v := nI 0) i132_0 (by decide) ?_
  refine ev_istore_n (L' := [some (.ref 111), some (.int (nI l)), some (.int (nI sm)), some (.int (nI 0)), none]) i132_1 ⟨Nat.le_of_ble_eq_true rfl, rfl⟩ rfl ?_
  refine ev_iconst (v := nI 0) i132_2 (by decide) ?_
  refine ev_istore (L' := [some (.ref 111), some (.int (nI l)), some (.int (nI sm)), some (.int (nI 0)), some (.int (nI 0))]) i132_3 ⟨Nat.le_of_ble_eq_true rfl, rfl⟩ rfl ?_
  exact lq132 hC hn b5 hL hl hx hm n 0 false (by omega)
theorem lq133 {tb : dxT} {H : dxH} {n : Nat} {f : Nat → Int32} {sed : Int64} {sd kd : Nat → Nat} {g : Nat → Int32} {l : Nat} {ce : Nat → Nat} {sn : Bool} {x : Hs} {sm : Nat} (hC : MC H n f sed sd kd g) (hn : n ≤ 6) (b5 : ∀ j, kd j < 4) (hL : Lv g (27 * l) n ce sn x) (hl : l < 2) (hx : SOK x) (hm : sm < 1024) {rg : Bool} : ∀ (d k : Nat) (acc : Bool), k + d = n → Ev tb 133 39 [some (.ref 111), some (.int (nI l)), some (.int (nI sm)), some (.int (bI rg)), some (.int (bI acc)), some (.int (nI k))] [] H (Rt (.int (nI (if (acc || anyB (pW sm kd x.2.1) d k) = true then 2 else 0))) H)
  | 0, k, acc, hk => by
    obtain rfl : k = n := by omega
    obtain ⟨c0, ⟨ms, mk, c1, c2, c3, c4⟩, c5⟩ := id hC
    unfold mOb at c0
    rw [show (acc || anyB (pW sm kd x.2.1) 0 k) = acc from Bool.or_false _]
    refine ev_iload i133_39 rfl ?_
    refine ev_aload_n i133_41 rfl ?_
    refine ev_get i133_42 ci133 fl8_56 (by assumption) rfl ?_
    refine evn_icmp_ge (t := 105) i133_45 (by decide) (by omega) (fun z45 => ?_) (fun z45 => by exfalso; omega)
    refine ev_iload i133_105 rfl ?_
    refine evb_if_eq (t := 114) i133_107 (by decide) (fun z107 => ?_) (fun z107 => ?_)
    · refine ev_iconst (v := nI 0) i133_114 (by decide) ?_
      refine ev_iret i133_115 (by decide +kernel) ?_
      rw [z107]
      exact ⟨rfl, rfl⟩
    · refine ev_iconst (v := nI 2) i133_110 (by decide) ?_
      refine ev_goto (t := 115) i133_111 (by decide) ?_
      refine ev_iret i133_115 (by decide +kernel) ?_
      rw [z107]
      exact ⟨rfl, rfl⟩
  | d + 1, k, acc, hk => by
    have hk6 : k < n := by omega
    have hx2 := hx.2.1 k
    have hk4 := b5 k
    obtain ⟨c0, ⟨ms, mk, c1, c2, c3, c4⟩, c5⟩ := id hC
    unfold mOb at c0
    refine ev_iload i133_39 rfl ?_
    refine ev_aload_n i133_41 rfl ?_
    refine ev_get i133_42 ci133 fl8_56 (by assumption) rfl ?_
    refine evn_icmp_ge (t := 105) i133_45 (by decide) (by omega) (fun z45 => by exfalso; omega) (fun z45 => ?_)
    refine ev_iload i133_48 rfl ?_
    refine evb_if_ne (t := 92) i133_50 (by decide) (fun z50 => ?_) (fun z50 => ?_)
    · refine ev_iconst (v := nI 1) i133_92 (by decide) ?_
      refine ev_goto (t := 97) i133_93 (by decide) ?_
      refine ev_istore (L' := [some (.ref 111), some (.int (nI l)), some (.int (nI sm)), some (.int (bI rg)), some (.int (nI 1)), some (.int (nI k))]) i133_97 ⟨Nat.le_of_ble_eq_true rfl, rfl⟩ rfl ?_
      refine evn_iinc (d := 1) (L' := [some (.ref 111), some (.int (nI l)), some (.int (nI sm)), some (.int (bI rg)), some (.int (nI 1)), some (.int (nI (k + 1)))]) i133_99 rfl rfl (by decide) rfl ?_
      refine ev_goto (t := 39) i133_102 (by decide) ?_
      have e : (acc || anyB (pW sm kd x.2.1) (d + 1) k) = (true || anyB (pW sm kd x.2.1) d (k + 1)) := by
        rw [z50]
        simp
      rw [e]
      exact lq133 hC hn b5 hL hl hx hm d (k + 1) true (by omega)
    · refine ev_iload_n i133_53 rfl ?_
      refine ev_iload i133_54 rfl ?_
      refine ev_callS (vs := [.int (nI sm), .int (nI k)]) (rest := []) i133_56 ci133 lk8_77 (Or.inl rfl) np118 (by decide +kernel) (Nat.le_of_ble_eq_true rfl) ⟨rfl, rfl, Nat.le_of_ble_eq_true rfl⟩ rfl (c118 hm (by omega)) (fun r HH hq => ?_)
      obtain ⟨rfl, rfl⟩ := hq
      show Ev tb 133 59 [some (.ref 111), some (.int (nI l)), some (.int (nI sm)), some (.int (bI rg)), some (.int (bI acc)), some (.int (nI k))] [.int (bI (sm.testBit k))] H _
      refine evb_if_eq (t := 96) i133_59 (by decide) (fun z59 => ?_) (fun z59 => ?_)
      · refine ev_iconst (v := nI 0) i133_96 (by decide) ?_
        refine ev_istore (L' := [some (.ref 111), some (.int (nI l)), some (.int (nI sm)), some (.int (bI rg)), some (.int (nI 0)), some (.int (nI k))]) i133_97 ⟨Nat.le_of_ble_eq_true rfl, rfl⟩ rfl ?_
        refine evn_iinc (d := 1) (L' := [some (.ref 111), some (.int (nI l)), some (.int (nI sm)), some (.int (bI rg)), some (.int (nI 0)), some (.int (nI (k + 1)))]) i133_99 rfl rfl (by decide) rfl ?_
        refine ev_goto (t := 39) i133_102 (by decide) ?_
        have hp : (pW sm kd x.2.1) k = false := by
          unfold pW
          unfold wrnB
          simp [z59]
        have e : (acc || anyB (pW sm kd x.2.1) (d + 1) k) = (false || anyB (pW sm kd x.2.1) d (k + 1)) := by
          show (acc || ((pW sm kd x.2.1) k || _)) = _
          rw [hp]
          simp [z50]
        rw [e]
        exact lq133 hC hn b5 hL hl hx hm d (k + 1) false (by omega)
      · refine ev_aload_n i133_62 rfl ?_
        refine ev_get i133_63 ci133 fl8_13 (by assumption) rfl ?_
        refine ev_iload i133_66 rfl ?_
        refine ev_iald_n i133_68 (by assumption) (by omega) ?_
        rw [c4 k hk6]
        refine ev_iconst (v := nI 3) i133_69 (by decide) ?_
        refine evn_icmp_ne (t := 96) i133_70 (by decide) (by omega) (fun z70 => ?_) (fun z70 => ?_)
        · refine ev_iconst (v := nI 0) i133_96 (by decide) ?_
          refine ev_istore (L' := [some (.ref 111), some (.int (nI l)), some (.int (nI sm)), some (.int (bI rg)), some (.int (nI 0)), some (.int (nI k))]) i133_97 ⟨Nat.le_of_ble_eq_true rfl, rfl⟩ rfl ?_
          refine evn_iinc (d := 1) (L' := [some (.ref 111), some (.int (nI l)), some (.int (nI sm)), some (.int (bI rg)), some (.int (nI 0)), some (.int (nI (k + 1)))]) i133_99 rfl rfl (by decide) rfl ?_
          refine ev_goto (t := 39) i133_102 (by decide) ?_
          have hp : (pW sm kd x.2.1) k = false := by
            unfold pW
            unfold wrnB
            simp [z59, z70]
          have e : (acc || anyB (pW sm kd x.2.1) (d + 1) k) = (false || anyB (pW sm kd x.2.1) d (k + 1)) := by
            show (acc || ((pW sm kd x.2.1) k || _)) = _
            rw [hp]
            simp [z50]
          rw [e]
          exact lq133 hC hn b5 hL hl hx hm d (k + 1) false (by omega)
        · refine ev_aload_n i133_73 rfl ?_
          refine ev_get i133_74 ci133 fl8_16 (by assumption) rfl ?_
          refine ev_bipush (v := nI 27) i133_77 (by decide) ?_
          refine ev_iload_n i133_79 rfl ?_
          refine evn_imul i133_80 ?_
          refine ev_bipush (v := nI 16) i133_81 (by decide) ?_
          refine evn_iadd i133_83 ?_
          refine ev_iload i133_84 rfl ?_
          refine evn_iadd i133_86 ?_
          refine ev_iald_n i133_87 (by assumption) (by omega) ?_
          rw [show g (27 * l + 16 + k) = nI (x.2.1 k) from hL.2.2.1 k hk6]
          refine ev_iconst (v := nI 5) i133_88 (by decide) ?_
          refine evn_icmp_ne (t := 96) i133_89 (by decide) (by omega) (fun z89 => ?_) (fun z89 => ?_)
          · refine ev_iconst (v := nI 0) i133_96 (by decide) ?_
            refine ev_istore (L' := [some (.ref 111), some (.int (nI l)), some (.int (nI sm)), some (.int (bI rg)), some (.int (nI 0)), some (.int (nI k))]) i133_97 ⟨Nat.le_of_ble_eq_true rfl, rfl⟩ rfl ?_
            refine evn_iinc (d := 1) (L' := [some (.ref 111), some (.int (nI l)), some (.int (nI sm)), some (.int (bI rg)), some (.int (nI 0)), some (.int (nI (k + 1)))]) i133_99 rfl rfl (by decide) rfl ?_
            refine ev_goto (t := 39) i133_102 (by decide) ?_
            have hp : (pW sm kd x.2.1) k = false := by
              unfold pW
              unfold wrnB
              simp [z59, z70, z89]
            have e : (acc || anyB (pW sm kd x.2.1) (d + 1) k) = (false || anyB (pW sm kd x.2.1) d (k + 1)) := by
              show (acc || ((pW sm kd x.2.1) k || _)) = _
              rw [hp]
              simp [z50]
            rw [e]
            exact lq133 hC hn b5 hL hl hx hm d (k + 1) false (by omega)
          · refine ev_iconst (v := nI 1) i133_92 (by decide) ?_
            refine ev_goto (t := 97) i133_93 (by decide) ?_
            refine ev_istore (L' := [some (.ref 111), some (.int (nI l)), some (.int (nI sm)), some (.int (bI rg)), some (.int (nI 1)), some (.int (nI k))]) i133_97 ⟨Nat.le_of_ble_eq_true rfl, rfl⟩ rfl ?_
            refine evn_iinc (d := 1) (L' := [some (.ref 111), some (.int (nI l)), some (.int (nI sm)), some (.int (bI rg)), some (.int (nI 1)), some (.int (nI (k + 1)))]) i133_99 rfl rfl (by decide) rfl ?_
            refine ev_goto (t := 39) i133_102 (by decide) ?_
            have hp : (pW sm kd x.2.1) k = true := by
              unfold pW
              unfold wrnB
              simp [z59, z70, z89]
            have e : (acc || anyB (pW sm kd x.2.1) (d + 1) k) = (true || anyB (pW sm kd x.2.1) d (k + 1)) := by
              show (acc || ((pW sm kd x.2.1) k || _)) = _
              rw [hp]
              simp [z50]
            rw [e]
            exact lq133 hC hn b5 hL hl hx hm d (k + 1) true (by omega)
theorem c133 {tb : dxT} {H : dxH} {n : Nat} {f : Nat → Int32} {sed : Int64} {sd kd : Nat → Nat} {g : Nat → Int32} {l : Nat} {ce : Nat → Nat} {sn : Bool} {x : Hs} {sm : Nat} (hC : MC H n f sed sd kd g) (hn : n ≤ 6) (b5 : ∀ j, kd j < 4) (hL : Lv g (27 * l) n ce sn x) (hl : l < 2) (hx : SOK x) (hm : sm < 1024) {rg : Bool} : Cl tb 133 [.ref 111, .int (nI l), .int (nI sm), .int (bI rg)] H (Rt (.int (nI (srtF (sm &&& HE n) kd x.2.1 sn rg))) H) := by
  obtain ⟨c0, ⟨ms, mk, c1, c2, c3, c4⟩, c5⟩ := id hC
  unfold mOb at c0
  rw [srtF_mod hn]
  show Ev tb 133 0 [some (.ref 111), some (.int (nI l)), some (.int (nI sm)), some (.int (bI rg)), none, none] [] H _
  refine ev_aload_n i133_0 rfl ?_
  refine ev_get i133_1 ci133 fl8_16 (by assumption) rfl ?_
  refine ev_bipush (v := nI 27) i133_4 (by decide) ?_
  refine ev_iload_n i133_6 rfl ?_
  refine evn_imul i133_7 ?_
  refine ev_bipush (v := nI 22) i133_8 (by decide) ?_
  refine evn_iadd i133_10 ?_
  refine ev_iald_n i133_11 (by assumption) (by omega) ?_
  rw [show g (27 * l + 22) = bI sn from hL.2.2.2.1]
  refine ev_iconst (v := nI 1) i133_12 (by decide) ?_
  refine evb1_icmp_ne (t := 18) i133_13 (by decide) (fun z13 => ?_) (fun z13 => ?_)
  · refine ev_iload_n i133_18 rfl ?_
    refine evb_if_ne (t := 31) i133_19 (by decide) (fun z19 => ?_) (fun z19 => ?_)
    · refine ev_iconst (v := nI 1) i133_31 (by decide) ?_
      refine ev_iret i133_32 (by decide +kernel) ?_
      rw [if_neg (by simp [z13]), if_pos z19]
      exact ⟨rfl, rfl⟩
    · refine ev_aload_n i133_22 rfl ?_
      refine ev_iload_n i133_23 rfl ?_
      refine ev_iload_n i133_24 rfl ?_
      refine ev_callV (vs := [.int (nI l), .int (nI sm)]) (rest := []) i133_25 ci133 lk8_115 (congrArg (fun q => q + 1) np132) ci132 (by decide) (by decide +kernel) (Nat.le_of_ble_eq_true rfl) ⟨rfl, rfl, Nat.le_of_ble_eq_true rfl⟩ rfl (by assumption) (c132 hC hn b5 hL hl hx hm) (fun r HH hq => ?_)
      obtain ⟨rfl, rfl⟩ := hq
      show Ev tb 133 28 [some (.ref 111), some (.int (nI l)), some (.int (nI sm)), some (.int (bI rg)), none, none] [.int (bI (anyB (pD sm kd x.2.1) n 0))] H _
      refine evb_if_eq (t := 33) i133_28 (by decide) (fun z28 => ?_) (fun z28 => ?_)
      · refine ev_iconst (v := nI 0) i133_33 (by decide) ?_
        refine ev_istore (L' := [some (.ref 111), some (.int (nI l)), some (.int (nI sm)), some (.int (bI rg)), some (.int (nI 0)), none]) i133_34 ⟨Nat.le_of_ble_eq_true rfl, rfl⟩ rfl ?_
        refine ev_iconst (v := nI 0) i133_36 (by decide) ?_
        refine ev_istore (L' := [some (.ref 111), some (.int (nI l)), some (.int (nI sm)), some (.int (bI rg)), some (.int (nI 0)), some (.int (nI 0))]) i133_37 ⟨Nat.le_of_ble_eq_true rfl, rfl⟩ rfl ?_
        rw [if_neg (by simp [z13]), if_neg (by simp [z19]), if_neg (by simp [z28])]
        exact lq133 hC hn b5 hL hl hx hm n 0 false (by omega)
      · refine ev_iconst (v := nI 1) i133_31 (by decide) ?_
        refine ev_iret i133_32 (by decide +kernel) ?_
        rw [if_neg (by simp [z13]), if_neg (by simp [z19]), if_pos z28]
        exact ⟨rfl, rfl⟩
  · refine ev_iconst (v := nI 3) i133_16 (by decide) ?_
    refine ev_iret i133_17 (by decide +kernel) ?_
    rw [if_pos z13]
    exact ⟨rfl, rfl⟩
