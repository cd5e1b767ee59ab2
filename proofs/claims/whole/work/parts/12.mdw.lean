/-! the herd, the meadow: what their calls answer -/
def HrdAt (H : dxH) (n : Nat) (sd kd : Nat → Nat) : Prop := H[3]? = some (.inr (2, [.ref 4, .ref 5, .int (nI n)])) ∧ H[4]? = some (IA 6 sd) ∧ H[5]? = some (IA 6 kd)
def MdwAt (H : dxH) (a : Nat) (cl ce fu : Nat → Nat) (pa : Nat → Int32) (he : Nat) (sn : Bool) (ho wa : Int32) : Prop := H[a]? = some (.inr (3, [.ref 3, .ref (a + 1), .ref (a + 2), .ref (a + 3), .ref (a + 4), .int (nI he), .int (bI sn), .int ho, .int wa])) ∧ H[a + 1]? = some (IA 10 cl) ∧ H[a + 2]? = some (IA 6 ce) ∧ H[a + 3]? = some (IA 6 fu) ∧ H[a + 4]? = some (.inl (0, 2, .inl pa))
/-- the meadow's own cells -/
def mdC (a : Nat) : Nat → Prop := fun j => a ≤ j ∧ j ≤ a + 4
theorem HrdAt.off {H H' : dxH} {n : Nat} {sd kd : Nat → Nat} {A : Nat → Prop} (h : HrdAt H n sd kd) (hO : Off A H H') (h3 : ¬ A 3) (h4 : ¬ A 4) (h5 : ¬ A 5) : HrdAt H' n sd kd := ⟨hO.at h.1 h3, hO.at h.2.1 h4, hO.at h.2.2 h5⟩
theorem MdwAt.off {H H' : dxH} {a : Nat} {cl ce fu : Nat → Nat} {pa : Nat → Int32} {he : Nat} {sn : Bool} {ho wa : Int32} {A : Nat → Prop} (h : MdwAt H a cl ce fu pa he sn ho wa) (hO : Off A H H') (hA : ∀ j, a ≤ j → j ≤ a + 4 → ¬ A j) : MdwAt H' a cl ce fu pa he sn ho wa := ⟨hO.at h.1 (hA _ (by omega) (by omega)), hO.at h.2.1 (hA _ (by omega) (by omega)), hO.at h.2.2.1 (hA _ (by omega) (by omega)), hO.at h.2.2.2.1 (hA _ (by omega) (by omega)), hO.at h.2.2.2.2 (hA _ (by omega) (by omega))⟩
/-- 0 to m - 1, as a number of 32 bits -/
def inR (x : Int32) (m : Nat) : Bool := decide (¬ x < 0 ∧ x < nI m)
theorem inR_n {c m : Nat} (hc : c < 2147483648) (hm : m < 2147483648) : inR (nI c) m = decide (c < m) := by
  unfold inR
  by_cases h : c < m
  · rw [decide_eq_true h, decide_eq_true ⟨nI_pos hc, (nI_ltI hc hm).mpr h⟩]
  · rw [decide_eq_false h, decide_eq_false (fun q => h ((nI_ltI hc hm).mp q.2))]
theorem inR_of {x : Int32} {m : Nat} (hm : m < 2147483648) (h : inR x m = true) : ∃ c : Nat, c < m ∧ x = nI c := by
  have h1 := of_decide_eq_true h
  obtain ⟨j, hj, rfl⟩ := nI_of h1.1
  exact ⟨j, (nI_ltI hj hm).mp h1.2, rfl⟩
def dueB (kind f : Nat) : Bool := decide (¬ kind = 2) && decide ((if kind = 1 then 9 else 6) ≤ f)
def wrnB (kind f : Nat) : Bool := decide (kind = 3) && decide (f = 5)

theorem c96 {tb : dxT} {H : dxH} {x : Int32} : Cl tb 96 [.int x] H (Rt (.int (bI (inR x 10))) H) := by
  show Ev tb 96 0 [some (.int x)] [] H _
  refine ev_iload_n i96_0 rfl ?_
  refine ev_if_lt (t := 14) i96_1 (by decide) (fun z1 => ?_) (fun z1 => ?_)
  · refine ev_iconst (v := nI 0) i96_14 (by decide) ?_
    refine ev_zret i96_15 (by decide +kernel) (by decide) ?_
    exact ⟨zf (decide_eq_false (fun q => by first | exact q.1 (by assumption) | exact k2_nlt (by assumption) q.2)), rfl⟩
  · refine ev_iload_n i96_4 rfl ?_
    refine ev_bipush (v := nI 10) i96_5 (by decide) ?_
    refine ev_icmp_ge (t := 14) i96_7 (by decide) (fun z7 => ?_) (fun z7 => ?_)
    · refine ev_iconst (v := nI 0) i96_14 (by decide) ?_
      refine ev_zret i96_15 (by decide +kernel) (by decide) ?_
      exact ⟨zf (decide_eq_false (fun q => by first | exact q.1 (by assumption) | exact k2_nlt (by assumption) q.2)), rfl⟩
    · refine ev_iconst (v := nI 1) i96_10 (by decide) ?_
      refine ev_goto (t := 15) i96_11 (by decide) ?_
      refine ev_zret i96_15 (by decide +kernel) (by decide) ?_
      exact ⟨zt (decide_eq_true ⟨z1, k2_lt (by assumption)⟩), rfl⟩
theorem c96n {tb : dxT} {H : dxH} {c : Nat} (hc : c < 2147483648) : Cl tb 96 [.int (nI c)] H (Rt (.int (bI (decide (c < 10)))) H) := by
  rw [← inR_n hc (by decide)]
  exact c96
theorem c97 {tb : dxT} {H : dxH} {x : Int32} : Cl tb 97 [.int x] H (Rt (.int (bI (inR x 2))) H) := by
  show Ev tb 97 0 [some (.int x)] [] H _
  refine ev_iload_n i97_0 rfl ?_
  refine ev_if_lt (t := 13) i97_1 (by decide) (fun z1 => ?_) (fun z1 => ?_)
  · refine ev_iconst (v := nI 0) i97_13 (by decide) ?_
    refine ev_zret i97_14 (by decide +kernel) (by decide) ?_
    exact ⟨zf (decide_eq_false (fun q => by first | exact q.1 (by assumption) | exact k2_nlt (by assumption) q.2)), rfl⟩
  · refine ev_iload_n i97_4 rfl ?_
    refine ev_iconst (v := nI 2) i97_5 (by decide) ?_
    refine ev_icmp_ge (t := 13) i97_6 (by decide) (fun z6 => ?_) (fun z6 => ?_)
    · refine ev_iconst (v := nI 0) i97_13 (by decide) ?_
      refine ev_zret i97_14 (by decide +kernel) (by decide) ?_
      exact ⟨zf (decide_eq_false (fun q => by first | exact q.1 (by assumption) | exact k2_nlt (by assumption) q.2)), rfl⟩
    · refine ev_iconst (v := nI 1) i97_9 (by decide) ?_
      refine ev_goto (t := 14) i97_10 (by decide) ?_
      refine ev_zret i97_14 (by decide +kernel) (by decide) ?_
      exact ⟨zt (decide_eq_true ⟨z1, k2_lt (by assumption)⟩), rfl⟩
theorem c97n {tb : dxT} {H : dxH} {c : Nat} (hc : c < 2147483648) : Cl tb 97 [.int (nI c)] H (Rt (.int (bI (decide (c < 2)))) H) := by
  rw [← inR_n hc (by decide)]
  exact c97
theorem c98 {tb : dxT} {H : dxH} {x : Int32} : Cl tb 98 [.int x] H (Rt (.int (bI (inR x 2))) H) := by
  show Ev tb 98 0 [some (.int x)] [] H _
  refine ev_iload_n i98_0 rfl ?_
  refine ev_if_lt (t := 13) i98_1 (by decide) (fun z1 => ?_) (fun z1 => ?_)
  · refine ev_iconst (v := nI 0) i98_13 (by decide) ?_
    refine ev_zret i98_14 (by decide +kernel) (by decide) ?_
    exact ⟨zf (decide_eq_false (fun q => by first | exact q.1 (by assumption) | exact k2_nlt (by assumption) q.2)), rfl⟩
  · refine ev_iload_n i98_4 rfl ?_
    refine ev_iconst (v := nI 2) i98_5 (by decide) ?_
    refine ev_icmp_ge (t := 13) i98_6 (by decide) (fun z6 => ?_) (fun z6 => ?_)
    · refine ev_iconst (v := nI 0) i98_13 (by decide) ?_
      refine ev_zret i98_14 (by decide +kernel) (by decide) ?_
      exact ⟨zf (decide_eq_false (fun q => by first | exact q.1 (by assumption) | exact k2_nlt (by assumption) q.2)), rfl⟩
    · refine ev_iconst (v := nI 1) i98_9 (by decide) ?_
      refine ev_goto (t := 14) i98_10 (by decide) ?_
      refine ev_zret i98_14 (by decide +kernel) (by decide) ?_
      exact ⟨zt (decide_eq_true ⟨z1, k2_lt (by assumption)⟩), rfl⟩
theorem c98n {tb : dxT} {H : dxH} {c : Nat} (hc : c < 2147483648) : Cl tb 98 [.int (nI c)] H (Rt (.int (bI (decide (c < 2)))) H) := by
  rw [← inR_n hc (by decide)]
  exact c98
theorem c14 {tb : dxT} {H : dxH} {n : Nat} {sd kd : Nat → Nat} (hH : HrdAt H n sd kd) : Cl tb 14 [.ref 3] H (Rt (.int (nI n)) H) := by
  obtain ⟨g0, g1, g2⟩ := id hH
  show Ev tb 14 0 [some (.ref 3)] [] H _
  refine ev_aload_n i14_0 rfl ?_
  refine ev_get i14_1 ci14 fl2_18 (by assumption) rfl ?_
  refine ev_iret i14_4 (by decide +kernel) ?_
  exact ⟨rfl, rfl⟩
theorem c16 {tb : dxT} {H : dxH} {k n : Nat} {sd kd : Nat → Nat} (hH : HrdAt H n sd kd) (hk : k < 6) : Cl tb 16 [.ref 3, .int (nI k)] H (Rt (.int (nI (sd k))) H) := by
  obtain ⟨g0, g1, g2⟩ := id hH
  show Ev tb 16 0 [some (.ref 3), some (.int (nI k))] [] H _
  refine ev_iload_n i16_0 rfl ?_
  refine evn_if_lt (t := 19) i16_1 (by decide) (by omega) ?_
  refine ev_iload_n i16_4 rfl ?_
  refine ev_bipush (v := nI 6) i16_5 (by decide) ?_
  refine evn_icmp_ge (t := 19) i16_7 (by decide) (by omega) (fun z7 => ?_) (fun z7 => ?_)
  · refine ev_bipush (v := (-9)) i16_19 (by decide) ?_
    refine ev_iret i16_21 (by decide +kernel) ?_
    exfalso; omega
  · refine ev_aload_n i16_10 rfl ?_
    refine ev_get i16_11 ci16 fl2_9 (by assumption) rfl ?_
    refine ev_iload_n i16_14 rfl ?_
    refine ev_iald_n i16_15 (by assumption) (by omega) ?_
    refine ev_goto (t := 21) i16_16 (by decide) ?_
    refine ev_iret i16_21 (by decide +kernel) ?_
    exact ⟨rfl, rfl⟩
theorem c17 {tb : dxT} {H : dxH} {k n : Nat} {sd kd : Nat → Nat} (hH : HrdAt H n sd kd) (hk : k < 6) : Cl tb 17 [.ref 3, .int (nI k)] H (Rt (.int (nI (kd k))) H) := by
  obtain ⟨g0, g1, g2⟩ := id hH
  show Ev tb 17 0 [some (.ref 3), some (.int (nI k))] [] H _
  refine ev_iload_n i17_0 rfl ?_
  refine evn_if_lt (t := 19) i17_1 (by decide) (by omega) ?_
  refine ev_iload_n i17_4 rfl ?_
  refine ev_bipush (v := nI 6) i17_5 (by decide) ?_
  refine evn_icmp_ge (t := 19) i17_7 (by decide) (by omega) (fun z7 => ?_) (fun z7 => ?_)
  · refine ev_bipush (v := (-9)) i17_19 (by decide) ?_
    refine ev_iret i17_21 (by decide +kernel) ?_
    exfalso; omega
  · refine ev_aload_n i17_10 rfl ?_
    refine ev_get i17_11 ci17 fl2_15 (by assumption) rfl ?_
    refine ev_iload_n i17_14 rfl ?_
    refine ev_iald_n i17_15 (by assumption) (by omega) ?_
    refine ev_goto (t := 21) i17_16 (by decide) ?_
    refine ev_iret i17_21 (by decide +kernel) ?_
    exact ⟨rfl, rfl⟩
theorem c15 {tb : dxT} {H : dxH} {n : Nat} {sd kd : Nat → Nat} {x : Int32} (hH : HrdAt H n sd kd) (hn : n ≤ 6) : Cl tb 15 [.ref 3, .int x] H (Rt (.int (bI (inR x n))) H) := by
  obtain ⟨g0, g1, g2⟩ := id hH
  show Ev tb 15 0 [some (.ref 3), some (.int x)] [] H _
  refine ev_iload_n i15_0 rfl ?_
  refine ev_if_lt (t := 22) i15_1 (by decide) (fun z1 => ?_) (fun z1 => ?_)
  · refine ev_iconst (v := nI 0) i15_22 (by decide) ?_
    refine ev_zret i15_23 (by decide +kernel) (by decide) ?_
    have hn2 : n < 2147483648 := by omega
    exact ⟨zf (decide_eq_false (fun q => by first | exact q.1 (by assumption) | exact k2_nlt (by assumption) q.2 | exact k2_nlt (by assumption) (Int32.lt_of_lt_of_le q.2 (nI_le hn (by decide))))), rfl⟩
  · refine ev_iload_n i15_4 rfl ?_
    refine ev_aload_n i15_5 rfl ?_
    refine ev_get i15_6 ci15 fl2_18 (by assumption) rfl ?_
    refine ev_icmp_ge (t := 22) i15_9 (by decide) (fun z9 => ?_) (fun z9 => ?_)
    · refine ev_iconst (v := nI 0) i15_22 (by decide) ?_
      refine ev_zret i15_23 (by decide +kernel) (by decide) ?_
      have hn2 : n < 2147483648 := by omega
      exact ⟨zf (decide_eq_false (fun q => by first | exact q.1 (by assumption) | exact k2_nlt (by assumption) q.2 | exact k2_nlt (by assumption) (Int32.lt_of_lt_of_le q.2 (nI_le hn (by decide))))), rfl⟩
    · refine ev_iload_n i15_12 rfl ?_
      refine ev_bipush (v := nI 6) i15_13 (by decide) ?_
      refine ev_icmp_ge (t := 22) i15_15 (by decide) (fun z15 => ?_) (fun z15 => ?_)
      · refine ev_iconst (v := nI 0) i15_22 (by decide) ?_
        refine ev_zret i15_23 (by decide +kernel) (by decide) ?_
        have hn2 : n < 2147483648 := by omega
        exact ⟨zf (decide_eq_false (fun q => by first | exact q.1 (by assumption) | exact k2_nlt (by assumption) q.2 | exact k2_nlt (by assumption) (Int32.lt_of_lt_of_le q.2 (nI_le hn (by decide))))), rfl⟩
      · refine ev_iconst (v := nI 1) i15_18 (by decide) ?_
        refine ev_goto (t := 23) i15_19 (by decide) ?_
        refine ev_zret i15_23 (by decide +kernel) (by decide) ?_
        have hn2 : n < 2147483648 := by omega
        exact ⟨zt (decide_eq_true ⟨by assumption, k2_lt (by assumption)⟩), rfl⟩
theorem c23 {tb : dxT} {H : dxH} {a k : Nat} {cl ce fu : Nat → Nat} {pa : Nat → Int32} {he : Nat} {sn : Bool} {ho wa : Int32} (hM : MdwAt H a cl ce fu pa he sn ho wa) (hk : k < 2147483648) (hb : he < 64) : Cl tb 23 [.ref a, .int (nI k)] H (Rt (.int (bI (he.testBit k))) H) := by
  obtain ⟨m0, m1, m2, m3, m4⟩ := id hM
  show Ev tb 23 0 [some (.ref a), some (.int (nI k))] [] H _
  refine ev_iload_n i23_0 rfl ?_
  refine evn_if_lt (t := 26) i23_1 (by decide) (by omega) ?_
  refine ev_iload_n i23_4 rfl ?_
  refine ev_bipush (v := nI 6) i23_5 (by decide) ?_
  refine evn_icmp_ge (t := 26) i23_7 (by decide) (by omega) (fun z7 => ?_) (fun z7 => ?_)
  · refine ev_iconst (v := nI 0) i23_26 (by decide) ?_
    refine ev_zret i23_27 (by decide +kernel) (by decide) ?_
    first | exact ⟨zf (bit_out (m := 6) hb (by omega)), rfl⟩ | (rw [bit10 he (by omega) k (by omega)] at *; exact ⟨zf (Bool.eq_false_iff.mpr (fun q => (by assumption : ¬ _) (bI_eq1.mpr q))), rfl⟩)
  · refine ev_aload_n i23_10 rfl ?_
    refine ev_get i23_11 ci23 fl3_28 (by assumption) rfl ?_
    refine ev_iload_n i23_14 rfl ?_
    refine ev_ishr i23_15 ?_
    refine ev_iconst (v := nI 1) i23_16 (by decide) ?_
    refine ev_iand i23_17 ?_
    refine ev_iconst (v := nI 1) i23_18 (by decide) ?_
    refine ev_icmp_ne (t := 26) i23_19 (by decide) (fun z19 => ?_) (fun z19 => ?_)
    · refine ev_iconst (v := nI 0) i23_26 (by decide) ?_
      refine ev_zret i23_27 (by decide +kernel) (by decide) ?_
      first | exact ⟨zf (bit_out (m := 6) hb (by omega)), rfl⟩ | (rw [bit10 he (by omega) k (by omega)] at *; exact ⟨zf (Bool.eq_false_iff.mpr (fun q => (by assumption : ¬ _) (bI_eq1.mpr q))), rfl⟩)
    · refine ev_iconst (v := nI 1) i23_22 (by decide) ?_
      refine ev_goto (t := 27) i23_23 (by decide) ?_
      refine ev_zret i23_27 (by decide +kernel) (by decide) ?_
      exact ⟨zt (by rw [bit10 he (by omega) k (by omega)] at *; first | exact bI_eq1.mp (by assumption) | exact bI_eq1.mp (Classical.not_not.mp (by assumption))), rfl⟩
theorem c24 {tb : dxT} {H : dxH} {a k n s : Nat} {sd kd cl ce fu : Nat → Nat} {pa : Nat → Int32} {he : Nat} {sn : Bool} {ho wa : Int32} (hM : MdwAt H a cl ce fu pa he sn ho wa) (hH : HrdAt H n sd kd) (hb : he < 64) (ha : 6 ≤ a) (hsd : ∀ j, sd j < 2) (hk : k < 6) (hs : s < 2) : Cl tb 24 [.ref a, .int (nI k), .int (nI s)] H (Rt (.int (bI (he.testBit k && decide (sd k = s)))) H) := by
  obtain ⟨m0, m1, m2, m3, m4⟩ := id hM
  obtain ⟨g0, g1, g2⟩ := id hH
  have hsk := hsd k
  show Ev tb 24 0 [some (.ref a), some (.int (nI k)), some (.int (nI s))] [] H _
  refine ev_aload_n i24_0 rfl ?_
  refine ev_iload_n i24_1 rfl ?_
  refine ev_callV (vs := [.int (nI k)]) (rest := []) i24_2 ci24 lk3_62 (congrArg (fun q => q + 1) np23) ci23 (by decide) (by decide +kernel) (Nat.le_of_ble_eq_true rfl) ⟨rfl, rfl, Nat.le_of_ble_eq_true rfl⟩ rfl (by assumption) (c23 (by assumption) (by omega) (by omega)) (fun r HH hq => ?_)
  obtain ⟨rfl, rfl⟩ := hq
  show Ev tb 24 5 [some (.ref a), some (.int (nI k)), some (.int (nI s))] [.int (bI (he.testBit k))] H _
  refine evb_if_eq (t := 24) i24_5 (by decide) (fun z5 => ?_) (fun z5 => ?_)
  · refine ev_iconst (v := nI 0) i24_24 (by decide) ?_
    refine ev_zret i24_25 (by decide +kernel) (by decide) ?_
    exact ⟨zf (by simp [*]), rfl⟩
  · refine ev_aload_n i24_8 rfl ?_
    refine ev_get i24_9 ci24 fl3_24 (by assumption) rfl ?_
    refine ev_iload_n i24_12 rfl ?_
    refine ev_callV (vs := [.int (nI k)]) (rest := []) i24_13 ci24 lk3_65 (congrArg (fun q => q + 1) np16) ci16 (by decide) (by decide +kernel) (Nat.le_of_ble_eq_true rfl) ⟨rfl, rfl, Nat.le_of_ble_eq_true rfl⟩ rfl (by assumption) (c16 (by assumption) (by omega)) (fun r HH hq => ?_)
    obtain ⟨rfl, rfl⟩ := hq
    show Ev tb 24 16 [some (.ref a), some (.int (nI k)), some (.int (nI s))] [.int (nI (sd k))] H _
    refine ev_iload_n i24_16 rfl ?_
    refine evn_icmp_ne (t := 24) i24_17 (by decide) (by omega) (fun z17 => ?_) (fun z17 => ?_)
    · refine ev_iconst (v := nI 0) i24_24 (by decide) ?_
      refine ev_zret i24_25 (by decide +kernel) (by decide) ?_
      exact ⟨zf (by simp [*]), rfl⟩
    · refine ev_iconst (v := nI 1) i24_20 (by decide) ?_
      refine ev_goto (t := 25) i24_21 (by decide) ?_
      refine ev_zret i24_25 (by decide +kernel) (by decide) ?_
      exact ⟨zt (by simp [*]), rfl⟩
theorem c25t {tb : dxT} {H : dxH} {a k : Nat} {cl ce fu : Nat → Nat} {pa : Nat → Int32} {he : Nat} {sn : Bool} {ho wa : Int32} (hM : MdwAt H a cl ce fu pa he sn ho wa) (hb : he < 64) (ha : 6 ≤ a) (hk : k < 6) (ht : he.testBit k = true) : Cl tb 25 [.ref a, .int (nI k)] H (Rt (.int (nI (ce k))) H) := by
  obtain ⟨m0, m1, m2, m3, m4⟩ := id hM
  show Ev tb 25 0 [some (.ref a), some (.int (nI k))] [] H _
  refine ev_aload_n i25_0 rfl ?_
  refine ev_iload_n i25_1 rfl ?_
  refine ev_callV (vs := [.int (nI k)]) (rest := []) i25_2 ci25 lk3_62 (congrArg (fun q => q + 1) np23) ci23 (by decide) (by decide +kernel) (Nat.le_of_ble_eq_true rfl) ⟨rfl, rfl, Nat.le_of_ble_eq_true rfl⟩ rfl (by assumption) (c23 (by assumption) (by omega) (by omega)) (fun r HH hq => ?_)
  obtain ⟨rfl, rfl⟩ := hq
  show Ev tb 25 5 [some (.ref a), some (.int (nI k))] [.int (bI (he.testBit k))] H _
  refine evb_if_eq (t := 17) i25_5 (by decide) (fun z5 => ?_) (fun z5 => ?_)
  · refine ev_bipush (v := (-9)) i25_17 (by decide) ?_
    refine ev_iret i25_19 (by decide +kernel) ?_
    first | exact ⟨rfl, rfl⟩ | (exfalso; simp_all)
  · refine ev_aload_n i25_8 rfl ?_
    refine ev_get i25_9 ci25 fl3_15 (by assumption) rfl ?_
    refine ev_iload_n i25_12 rfl ?_
    refine ev_iald_n i25_13 (by assumption) (by omega) ?_
    refine ev_goto (t := 19) i25_14 (by decide) ?_
    refine ev_iret i25_19 (by decide +kernel) ?_
    first | exact ⟨rfl, rfl⟩ | (exfalso; simp_all)
theorem c25f {tb : dxT} {H : dxH} {a k : Nat} {cl ce fu : Nat → Nat} {pa : Nat → Int32} {he : Nat} {sn : Bool} {ho wa : Int32} (hM : MdwAt H a cl ce fu pa he sn ho wa) (hb : he < 64) (ha : 6 ≤ a) (hk : k < 6) (ht : he.testBit k = false) : Cl tb 25 [.ref a, .int (nI k)] H (Rt (.int (-9)) H) := by
  obtain ⟨m0, m1, m2, m3, m4⟩ := id hM
  show Ev tb 25 0 [some (.ref a), some (.int (nI k))] [] H _
  refine ev_aload_n i25_0 rfl ?_
  refine ev_iload_n i25_1 rfl ?_
  refine ev_callV (vs := [.int (nI k)]) (rest := []) i25_2 ci25 lk3_62 (congrArg (fun q => q + 1) np23) ci23 (by decide) (by decide +kernel) (Nat.le_of_ble_eq_true rfl) ⟨rfl, rfl, Nat.le_of_ble_eq_true rfl⟩ rfl (by assumption) (c23 (by assumption) (by omega) (by omega)) (fun r HH hq => ?_)
  obtain ⟨rfl, rfl⟩ := hq
  show Ev tb 25 5 [some (.ref a), some (.int (nI k))] [.int (bI (he.testBit k))] H _
  refine evb_if_eq (t := 17) i25_5 (by decide) (fun z5 => ?_) (fun z5 => ?_)
  · refine ev_bipush (v := (-9)) i25_17 (by decide) ?_
    refine ev_iret i25_19 (by decide +kernel) ?_
    first | exact ⟨rfl, rfl⟩ | (exfalso; simp_all)
  · refine ev_aload_n i25_8 rfl ?_
    refine ev_get i25_9 ci25 fl3_15 (by assumption) rfl ?_
    refine ev_iload_n i25_12 rfl ?_
    refine ev_iald_n i25_13 (by assumption) (by omega) ?_
    refine ev_goto (t := 19) i25_14 (by decide) ?_
    refine ev_iret i25_19 (by decide +kernel) ?_
    first | exact ⟨rfl, rfl⟩ | (exfalso; simp_all)
theorem c26t {tb : dxT} {H : dxH} {a k : Nat} {cl ce fu : Nat → Nat} {pa : Nat → Int32} {he : Nat} {sn : Bool} {ho wa : Int32} (hM : MdwAt H a cl ce fu pa he sn ho wa) (hb : he < 64) (ha : 6 ≤ a) (hk : k < 6) (ht : he.testBit k = true) : Cl tb 26 [.ref a, .int (nI k)] H (Rt (.int (nI (fu k))) H) := by
  obtain ⟨m0, m1, m2, m3, m4⟩ := id hM
  show Ev tb 26 0 [some (.ref a), some (.int (nI k))] [] H _
  refine ev_aload_n i26_0 rfl ?_
  refine ev_iload_n i26_1 rfl ?_
  refine ev_callV (vs := [.int (nI k)]) (rest := []) i26_2 ci26 lk3_62 (congrArg (fun q => q + 1) np23) ci23 (by decide) (by decide +kernel) (Nat.le_of_ble_eq_true rfl) ⟨rfl, rfl, Nat.le_of_ble_eq_true rfl⟩ rfl (by assumption) (c23 (by assumption) (by omega) (by omega)) (fun r HH hq => ?_)
  obtain ⟨rfl, rfl⟩ := hq
  show Ev tb 26 5 [some (.ref a), some (.int (nI k))] [.int (bI (he.testBit k))] H _
  refine evb_if_eq (t := 17) i26_5 (by decide) (fun z5 => ?_) (fun z5 => ?_)
  · refine ev_bipush (v := (-9)) i26_17 (by decide) ?_
    refine ev_iret i26_19 (by decide +kernel) ?_
    first | exact ⟨rfl, rfl⟩ | (exfalso; simp_all)
  · refine ev_aload_n i26_8 rfl ?_
    refine ev_get i26_9 ci26 fl3_18 (by assumption) rfl ?_
    refine ev_iload_n i26_12 rfl ?_
    refine ev_iald_n i26_13 (by assumption) (by omega) ?_
    refine ev_goto (t := 19) i26_14 (by decide) ?_
    refine ev_iret i26_19 (by decide +kernel) ?_
    first | exact ⟨rfl, rfl⟩ | (exfalso; simp_all)
theorem c26f {tb : dxT} {H : dxH} {a k : Nat} {cl ce fu : Nat → Nat} {pa : Nat → Int32} {he : Nat} {sn : Bool} {ho wa : Int32} (hM : MdwAt H a cl ce fu pa he sn ho wa) (hb : he < 64) (ha : 6 ≤ a) (hk : k < 6) (ht : he.testBit k = false) : Cl tb 26 [.ref a, .int (nI k)] H (Rt (.int (-9)) H) := by
  obtain ⟨m0, m1, m2, m3, m4⟩ := id hM
  show Ev tb 26 0 [some (.ref a), some (.int (nI k))] [] H _
  refine ev_aload_n i26_0 rfl ?_
  refine ev_iload_n i26_1 rfl ?_
  refine ev_callV (vs := [.int (nI k)]) (rest := []) i26_2 ci26 lk3_62 (congrArg (fun q => q + 1) np23) ci23 (by decide) (by decide +kernel) (Nat.le_of_ble_eq_true rfl) ⟨rfl, rfl, Nat.le_of_ble_eq_true rfl⟩ rfl (by assumption) (c23 (by assumption) (by omega) (by omega)) (fun r HH hq => ?_)
  obtain ⟨rfl, rfl⟩ := hq
  show Ev tb 26 5 [some (.ref a), some (.int (nI k))] [.int (bI (he.testBit k))] H _
  refine evb_if_eq (t := 17) i26_5 (by decide) (fun z5 => ?_) (fun z5 => ?_)
  · refine ev_bipush (v := (-9)) i26_17 (by decide) ?_
    refine ev_iret i26_19 (by decide +kernel) ?_
    first | exact ⟨rfl, rfl⟩ | (exfalso; simp_all)
  · refine ev_aload_n i26_8 rfl ?_
    refine ev_get i26_9 ci26 fl3_18 (by assumption) rfl ?_
    refine ev_iload_n i26_12 rfl ?_
    refine ev_iald_n i26_13 (by assumption) (by omega) ?_
    refine ev_goto (t := 19) i26_14 (by decide) ?_
    refine ev_iret i26_19 (by decide +kernel) ?_
    first | exact ⟨rfl, rfl⟩ | (exfalso; simp_all)
/-- one of d from j on -/
def anyB (p : Nat → Bool) : Nat → Nat → Bool
  | 0, _ => false
  | d + 1, j => p j || anyB p d (j + 1)
theorem anyB_iff {p : Nat → Bool} : ∀ {d j : Nat}, anyB p d j = true ↔ ∃ i, j ≤ i ∧ i < j + d ∧ p i = true
  | 0, j => ⟨fun h => (by cases h), fun ⟨i, h1, h2, _⟩ => (by omega)⟩
  | d + 1, j => by
    unfold anyB
    rw [Bool.or_eq_true, anyB_iff]
    constructor
    · rintro (h | ⟨i, h1, h2, h3⟩)
      · exact ⟨j, by omega, by omega, h⟩
      · exact ⟨i, by omega, by omega, h3⟩
    · rintro ⟨i, h1, h2, h3⟩
      by_cases hi : i = j
      · subst hi; exact Or.inl h3
      · exact Or.inr ⟨i, by omega, by omega, h3⟩
theorem lq30 {tb : dxT} {H : dxH} {a c : Nat} {cl ce fu : Nat → Nat} {pa : Nat → Int32} {he : Nat} {sn : Bool} {ho wa : Int32} (hM : MdwAt H a cl ce fu pa he sn ho wa) (hb : he < 64) (ha : 6 ≤ a) (hce : ∀ j, ce j < 10) (hc : c < 2147483648) : ∀ (d k : Nat), k + d = 6 → Ev tb 30 2 [some (.ref a), some (.int (nI c)), some (.int (nI k))] [] H (Rt (.int (bI (anyB (fun i => he.testBit i && decide (ce i = c)) d k))) H)
  | 0, k, hk => by
    obtain ⟨m0, m1, m2, m3, m4⟩ := id hM
    obtain rfl : k = 6 := by omega
    show Ev tb 30 2 [some (.ref a), some (.int (nI c)), some (.int (nI 6))] [] H _
    refine ev_iload_n i30_2 rfl ?_
    refine ev_bipush (v := nI 6) i30_3 (by decide) ?_
    refine evn_icmp_ge (t := 34) i30_5 (by decide) (by omega) (fun z5 => ?_) (fun z5 => by exfalso; omega)
    refine ev_iconst (v := nI 0) i30_34 (by decide) ?_
    refine ev_zret i30_35 (by decide +kernel) (by decide) ?_
    exact ⟨rfl, rfl⟩
  | d + 1, k, hk => by
    obtain ⟨m0, m1, m2, m3, m4⟩ := id hM
    have hck := hce k
    unfold anyB
    show Ev tb 30 2 [some (.ref a), some (.int (nI c)), some (.int (nI k))] [] H _
    refine ev_iload_n i30_2 rfl ?_
    refine ev_bipush (v := nI 6) i30_3 (by decide) ?_
    refine evn_icmp_ge (t := 34) i30_5 (by decide) (by omega) (fun z5 => by exfalso; omega) (fun z5 => ?_)
    refine ev_aload_n i30_8 rfl ?_
    refine ev_iload_n i30_9 rfl ?_
    refine ev_callV (vs := [.int (nI k)]) (rest := []) i30_10 ci30 lk3_62 (congrArg (fun q => q + 1) np23) ci23 (by decide) (by decide +kernel) (Nat.le_of_ble_eq_true rfl) ⟨rfl, rfl, Nat.le_of_ble_eq_true rfl⟩ rfl (by assumption) (c23 (by assumption) (by omega) (by omega)) (fun r HH hq => ?_)
    obtain ⟨rfl, rfl⟩ := hq
    show Ev tb 30 13 [some (.ref a), some (.int (nI c)), some (.int (nI k))] [.int (bI (he.testBit k))] H _
    refine evb_if_eq (t := 28) i30_13 (by decide) (fun z13 => ?_) (fun z13 => ?_)
    · refine evn_iinc (d := 1) (L' := [some (.ref a), some (.int (nI c)), some (.int (nI (k + 1)))]) i30_28 rfl rfl (by decide) rfl ?_
      refine ev_goto (t := 2) i30_31 (by decide) ?_
      refine (lq30 hM hb ha hce hc d (k + 1) (by omega)).post (fun r H' hq => ⟨hq.1.trans ?_, hq.2⟩)
      simp [*]
    · refine ev_aload_n i30_16 rfl ?_
      refine ev_get i30_17 ci30 fl3_15 (by assumption) rfl ?_
      refine ev_iload_n i30_20 rfl ?_
      refine ev_iald_n i30_21 (by assumption) (by omega) ?_
      refine ev_iload_n i30_22 rfl ?_
      refine evn_icmp_ne (t := 28) i30_23 (by decide) (by omega) (fun z23 => ?_) (fun z23 => ?_)
      · refine evn_iinc (d := 1) (L' := [some (.ref a), some (.int (nI c)), some (.int (nI (k + 1)))]) i30_28 rfl rfl (by decide) rfl ?_
        refine ev_goto (t := 2) i30_31 (by decide) ?_
        refine (lq30 hM hb ha hce hc d (k + 1) (by omega)).post (fun r H' hq => ⟨hq.1.trans ?_, hq.2⟩)
        simp [*]
      · refine ev_iconst (v := nI 1) i30_26 (by decide) ?_
        refine ev_zret i30_27 (by decide +kernel) (by decide) ?_
        exact ⟨zt (by simp [*]), rfl⟩
theorem c30 {tb : dxT} {H : dxH} {a c : Nat} {cl ce fu : Nat → Nat} {pa : Nat → Int32} {he : Nat} {sn : Bool} {ho wa : Int32} (hM : MdwAt H a cl ce fu pa he sn ho wa) (hb : he < 64) (ha : 6 ≤ a) (hce : ∀ j, ce j < 10) (hc : c < 2147483648) : Cl tb 30 [.ref a, .int (nI c)] H (Rt (.int (bI (anyB (fun i => he.testBit i && decide (ce i = c)) 6 0))) H) := by
  show Ev tb 30 0 [some (.ref a), some (.int (nI c)), none] [] H _
  refine ev_iconst (v := nI 0) i30_0 (by decide) ?_
  refine ev_istore_n (L' := [some (.ref a), some (.int (nI c)), some (.int (nI 0))]) i30_1 ⟨Nat.le_of_ble_eq_true rfl, rfl⟩ rfl ?_
  exact lq30 hM hb ha hce hc 6 0 rfl
theorem c31 {tb : dxT} {H : dxH} {a c : Nat} {cl ce fu : Nat → Nat} {pa : Nat → Int32} {he : Nat} {sn : Bool} {ho wa : Int32} (hM : MdwAt H a cl ce fu pa he sn ho wa) (hb : he < 64) (ha : 6 ≤ a) (hc : c < 10) : Cl tb 31 [.ref a, .int (nI c)] H (Rt (.int (nI (cl c))) H) := by
  obtain ⟨m0, m1, m2, m3, m4⟩ := id hM
  show Ev tb 31 0 [some (.ref a), some (.int (nI c))] [] H _
  refine ev_iload_n i31_0 rfl ?_
  refine ev_callS (vs := [.int (nI c)]) (rest := []) i31_1 ci31 lk3_69 (Or.inr rfl) np96 (by decide +kernel) (Nat.le_of_ble_eq_true rfl) ⟨rfl, rfl, Nat.le_of_ble_eq_true rfl⟩ rfl (c96n (by omega)) (fun r HH hq => ?_)
  obtain ⟨rfl, rfl⟩ := hq
  show Ev tb 31 4 [some (.ref a), some (.int (nI c))] [.int (bI (decide (c < 10)))] H _
  refine evd_if_eq (t := 16) i31_4 (by decide) (fun z4 => ?_) (fun z4 => ?_)
  · refine ev_iconst (v := nI 0) i31_16 (by decide) ?_
    refine ev_iret i31_17 (by decide +kernel) ?_
    exfalso; omega
  · refine ev_aload_n i31_7 rfl ?_
    refine ev_get i31_8 ci31 fl3_9 (by assumption) rfl ?_
    refine ev_iload_n i31_11 rfl ?_
    refine ev_iald_n i31_12 (by assumption) (by omega) ?_
    refine ev_goto (t := 17) i31_13 (by decide) ?_
    refine ev_iret i31_17 (by decide +kernel) ?_
    exact ⟨rfl, rfl⟩
theorem c31f {tb : dxT} {H : dxH} {a : Nat} {cl ce fu : Nat → Nat} {pa : Nat → Int32} {he : Nat} {sn : Bool} {ho wa : Int32} (hM : MdwAt H a cl ce fu pa he sn ho wa) (hb : he < 64) (ha : 6 ≤ a) : Cl tb 31 [.ref a, .int (-9)] H (Rt (.int (nI 0)) H) := by
  obtain ⟨m0, m1, m2, m3, m4⟩ := id hM
  show Ev tb 31 0 [some (.ref a), some (.int (-9))] [] H _
  refine ev_iload_n i31_0 rfl ?_
  refine ev_callS (vs := [.int (-9)]) (rest := []) i31_1 ci31 lk3_69 (Or.inr rfl) np96 (by decide +kernel) (Nat.le_of_ble_eq_true rfl) ⟨rfl, rfl, Nat.le_of_ble_eq_true rfl⟩ rfl (c96) (fun r HH hq => ?_)
  obtain ⟨rfl, rfl⟩ := hq
  show Ev tb 31 4 [some (.ref a), some (.int (-9))] [.int (bI (inR (-9) 10))] H _
  refine evb_if_eq (t := 16) i31_4 (by decide) (fun z4 => ?_) (fun z4 => ?_)
  · refine ev_iconst (v := nI 0) i31_16 (by decide) ?_
    refine ev_iret i31_17 (by decide +kernel) ?_
    exact ⟨rfl, rfl⟩
  · exact absurd z4 (by decide)
theorem c32 {tb : dxT} {H : dxH} {a c x : Nat} {cl ce fu : Nat → Nat} {pa : Nat → Int32} {he : Nat} {sn : Bool} {ho wa : Int32} (hM : MdwAt H a cl ce fu pa he sn ho wa) (hb : he < 64) (ha : 6 ≤ a) (hc : c < 10) : Cl tb 32 [.ref a, .int (nI c), .int (nI x)] H (fun r H' => r = none ∧ MdwAt H' a (updN cl c x) ce fu pa he sn ho wa ∧ Off (mdC a) H H') := by
  obtain ⟨m0, m1, m2, m3, m4⟩ := id hM
  have hO : Off (mdC a) H H := Off.rf
  show Ev tb 32 0 [some (.ref a), some (.int (nI c)), some (.int (nI x))] [] H _
  refine ev_iload_n i32_0 rfl ?_
  refine ev_callS (vs := [.int (nI c)]) (rest := []) i32_1 ci32 lk3_69 (Or.inr rfl) np96 (by decide +kernel) (Nat.le_of_ble_eq_true rfl) ⟨rfl, rfl, Nat.le_of_ble_eq_true rfl⟩ rfl (c96n (by omega)) (fun r HH hq => ?_)
  obtain ⟨rfl, rfl⟩ := hq
  show Ev tb 32 4 [some (.ref a), some (.int (nI c)), some (.int (nI x))] [.int (bI (decide (c < 10)))] H _
  refine evd_if_eq (t := 14) i32_4 (by decide) (fun z4 => ?_) (fun z4 => ?_)
  · refine ev_vret i32_14 (by decide +kernel) ?_
    exfalso; omega
  · refine ev_aload_n i32_7 rfl ?_
    refine ev_get i32_8 ci32 fl3_9 (by assumption) rfl ?_
    refine ev_iload_n i32_11 rfl ?_
    refine ev_iload_n i32_12 rfl ?_
    refine evs_iastn i32_13 (by assumption) (by omega) (fun H1 hH1 => ?_)
    have m0 : H1[a]? = some (.inr (3, [.ref 3, .ref (a + 1), .ref (a + 2), .ref (a + 3), .ref (a + 4), .int (nI he), .int (bI sn), .int ho, .int wa])) := by rw [hH1]; exact set_ne m0 (by omega)
    have m1 : H1[a + 1]? = some (IA 10 (updN cl c x)) := by rw [hH1]; exact set_self m1
    have m2 : H1[a + 2]? = some (IA 6 ce) := by rw [hH1]; exact set_ne m2 (by omega)
    have m3 : H1[a + 3]? = some (IA 6 fu) := by rw [hH1]; exact set_ne m3 (by omega)
    have m4 : H1[a + 4]? = some (.inl (0, 2, .inl pa)) := by rw [hH1]; exact set_ne m4 (by omega)
    have hO : Off (mdC a) H H1 := by rw [hH1]; exact hO.set (by exact ⟨by omega, by omega⟩)
    refine ev_vret i32_14 (by decide +kernel) ?_
    exact ⟨rfl, ⟨m0, m1, m2, m3, m4⟩, hO⟩
theorem c33 {tb : dxT} {H : dxH} {a c : Nat} {cl ce fu : Nat → Nat} {pa : Nat → Int32} {he : Nat} {sn : Bool} {ho wa : Int32} (hM : MdwAt H a cl ce fu pa he sn ho wa) (hb : he < 64) (ha : 6 ≤ a) (hcl : ∀ j, cl j < 10) (hc : c < 10) : Cl tb 33 [.ref a, .int (nI c)] H (Rt (.int (bI (decide (cl c < 9)))) H) := by
  obtain ⟨m0, m1, m2, m3, m4⟩ := id hM
  have hcc := hcl c
  show Ev tb 33 0 [some (.ref a), some (.int (nI c))] [] H _
  refine ev_iload_n i33_0 rfl ?_
  refine ev_callS (vs := [.int (nI c)]) (rest := []) i33_1 ci33 lk3_69 (Or.inr rfl) np96 (by decide +kernel) (Nat.le_of_ble_eq_true rfl) ⟨rfl, rfl, Nat.le_of_ble_eq_true rfl⟩ rfl (c96n (by omega)) (fun r HH hq => ?_)
  obtain ⟨rfl, rfl⟩ := hq
  show Ev tb 33 4 [some (.ref a), some (.int (nI c))] [.int (bI (decide (c < 10)))] H _
  refine evd_if_eq (t := 22) i33_4 (by decide) (fun z4 => ?_) (fun z4 => ?_)
  · refine ev_iconst (v := nI 0) i33_22 (by decide) ?_
    refine ev_zret i33_23 (by decide +kernel) (by decide) ?_
    exact ⟨zf (decide_eq_false (by omega)), rfl⟩
  · refine ev_aload_n i33_7 rfl ?_
    refine ev_get i33_8 ci33 fl3_9 (by assumption) rfl ?_
    refine ev_iload_n i33_11 rfl ?_
    refine ev_iald_n i33_12 (by assumption) (by omega) ?_
    refine ev_bipush (v := nI 9) i33_13 (by decide) ?_
    refine evn_icmp_ge (t := 22) i33_15 (by decide) (by omega) (fun z15 => ?_) (fun z15 => ?_)
    · refine ev_iconst (v := nI 0) i33_22 (by decide) ?_
      refine ev_zret i33_23 (by decide +kernel) (by decide) ?_
      exact ⟨zf (decide_eq_false (by omega)), rfl⟩
    · refine ev_iconst (v := nI 1) i33_18 (by decide) ?_
      refine ev_goto (t := 23) i33_19 (by decide) ?_
      refine ev_zret i33_23 (by decide +kernel) (by decide) ?_
      exact ⟨zt (decide_eq_true (by omega)), rfl⟩
theorem c34 {tb : dxT} {H : dxH} {a c : Nat} {cl ce fu : Nat → Nat} {pa : Nat → Int32} {he : Nat} {sn : Bool} {ho wa : Int32} (hM : MdwAt H a cl ce fu pa he sn ho wa) (hb : he < 64) (ha : 6 ≤ a) (hcl : ∀ j, cl j < 10) (hc : c < 10) : Cl tb 34 [.ref a, .int (nI c)] H (fun r H' => r = none ∧ MdwAt H' a (if cl c < 9 then updN cl c (cl c + 1) else cl) ce fu pa he sn ho wa ∧ Off (mdC a) H H') := by
  obtain ⟨m0, m1, m2, m3, m4⟩ := id hM
  have hO : Off (mdC a) H H := Off.rf
  have hcc := hcl c
  show Ev tb 34 0 [some (.ref a), some (.int (nI c))] [] H _
  refine ev_aload_n i34_0 rfl ?_
  refine ev_iload_n i34_1 rfl ?_
  refine ev_callV (vs := [.int (nI c)]) (rest := []) i34_2 ci34 lk3_81 (congrArg (fun q => q + 1) np33) ci33 (by decide) (by decide +kernel) (Nat.le_of_ble_eq_true rfl) ⟨rfl, rfl, Nat.le_of_ble_eq_true rfl⟩ rfl (by assumption) (c33 (by assumption) hb ha hcl (by omega)) (fun r HH hq => ?_)
  obtain ⟨rfl, rfl⟩ := hq
  show Ev tb 34 5 [some (.ref a), some (.int (nI c))] [.int (bI (decide (cl c < 9)))] H _
  refine evd_if_eq (t := 18) i34_5 (by decide) (fun z5 => ?_) (fun z5 => ?_)
  · refine ev_vret i34_18 (by decide +kernel) ?_
    rw [if_neg (by assumption)]
    exact ⟨rfl, ⟨m0, m1, m2, m3, m4⟩, hO⟩
  · refine ev_aload_n i34_8 rfl ?_
    refine ev_get i34_9 ci34 fl3_9 (by assumption) rfl ?_
    refine ev_iload_n i34_12 rfl ?_
    refine ev_dup2 i34_13 rfl rfl ?_
    refine ev_iald_n i34_14 (by assumption) (by omega) ?_
    refine ev_iconst (v := nI 1) i34_15 (by decide) ?_
    refine evn_iadd i34_16 ?_
    refine evs_iastn i34_17 (by assumption) (by omega) (fun H1 hH1 => ?_)
    have m0 : H1[a]? = some (.inr (3, [.ref 3, .ref (a + 1), .ref (a + 2), .ref (a + 3), .ref (a + 4), .int (nI he), .int (bI sn), .int ho, .int wa])) := by rw [hH1]; exact set_ne m0 (by omega)
    have m1 : H1[a + 1]? = some (IA 10 (updN cl c ((cl c) + 1))) := by rw [hH1]; exact set_self m1
    have m2 : H1[a + 2]? = some (IA 6 ce) := by rw [hH1]; exact set_ne m2 (by omega)
    have m3 : H1[a + 3]? = some (IA 6 fu) := by rw [hH1]; exact set_ne m3 (by omega)
    have m4 : H1[a + 4]? = some (.inl (0, 2, .inl pa)) := by rw [hH1]; exact set_ne m4 (by omega)
    have hO : Off (mdC a) H H1 := by rw [hH1]; exact hO.set (by exact ⟨by omega, by omega⟩)
    refine ev_vret i34_18 (by decide +kernel) ?_
    rw [if_pos (by assumption)]
    exact ⟨rfl, ⟨m0, m1, m2, m3, m4⟩, hO⟩
theorem c35 {tb : dxT} {H : dxH} {a : Nat} {cl ce fu : Nat → Nat} {pa : Nat → Int32} {he : Nat} {sn : Bool} {ho wa : Int32} (hM : MdwAt H a cl ce fu pa he sn ho wa) : Cl tb 35 [.ref a] H (Rt (.int (bI sn)) H) := by
  obtain ⟨m0, m1, m2, m3, m4⟩ := id hM
  show Ev tb 35 0 [some (.ref a)] [] H _
  refine ev_aload_n i35_0 rfl ?_
  refine ev_get i35_1 ci35 fl3_32 (by assumption) rfl ?_
  refine ev_zret i35_4 (by decide +kernel) (bI_and _) ?_
  exact ⟨rfl, rfl⟩
theorem c38 {tb : dxT} {H : dxH} {a : Nat} {cl ce fu : Nat → Nat} {pa : Nat → Int32} {he : Nat} {sn : Bool} {ho wa : Int32} (hM : MdwAt H a cl ce fu pa he sn ho wa) : Cl tb 38 [.ref a] H (Rt (.int ho) H) := by
  obtain ⟨m0, m1, m2, m3, m4⟩ := id hM
  show Ev tb 38 0 [some (.ref a)] [] H _
  refine ev_aload_n i38_0 rfl ?_
  refine ev_get i38_1 ci38 fl3_36 (by assumption) rfl ?_
  refine ev_iret i38_4 (by decide +kernel) ?_
  exact ⟨rfl, rfl⟩
theorem c39 {tb : dxT} {H : dxH} {a : Nat} {cl ce fu : Nat → Nat} {pa : Nat → Int32} {he : Nat} {sn : Bool} {ho wa : Int32} (hM : MdwAt H a cl ce fu pa he sn ho wa) : Cl tb 39 [.ref a] H (Rt (.int wa) H) := by
  obtain ⟨m0, m1, m2, m3, m4⟩ := id hM
  show Ev tb 39 0 [some (.ref a)] [] H _
  refine ev_aload_n i39_0 rfl ?_
  refine ev_get i39_1 ci39 fl3_39 (by assumption) rfl ?_
  refine ev_iret i39_4 (by decide +kernel) ?_
  exact ⟨rfl, rfl⟩
theorem c37 {tb : dxT} {H : dxH} {a s : Nat} {cl ce fu : Nat → Nat} {pa : Nat → Int32} {he : Nat} {sn : Bool} {ho wa : Int32} (hM : MdwAt H a cl ce fu pa he sn ho wa) (hs : s < 2) : Cl tb 37 [.ref a, .int (nI s)] H (Rt (.int (pa s)) H) := by
  obtain ⟨m0, m1, m2, m3, m4⟩ := id hM
  show Ev tb 37 0 [some (.ref a), some (.int (nI s))] [] H _
  refine ev_iload_n i37_0 rfl ?_
  refine ev_callS (vs := [.int (nI s)]) (rest := []) i37_1 ci37 lk3_84 (Or.inr rfl) np97 (by decide +kernel) (Nat.le_of_ble_eq_true rfl) ⟨rfl, rfl, Nat.le_of_ble_eq_true rfl⟩ rfl (c97n (by omega)) (fun r HH hq => ?_)
  obtain ⟨rfl, rfl⟩ := hq
  show Ev tb 37 4 [some (.ref a), some (.int (nI s))] [.int (bI (decide (s < 2)))] H _
  refine evd_if_eq (t := 16) i37_4 (by decide) (fun z4 => ?_) (fun z4 => ?_)
  · refine ev_iconst (v := nI 0) i37_16 (by decide) ?_
    refine ev_iret i37_17 (by decide +kernel) ?_
    exfalso; omega
  · refine ev_aload_n i37_7 rfl ?_
    refine ev_get i37_8 ci37 fl3_21 (by assumption) rfl ?_
    refine ev_iload_n i37_11 rfl ?_
    refine ev_iald_n i37_12 (by assumption) (by omega) ?_
    refine ev_goto (t := 17) i37_13 (by decide) ?_
    refine ev_iret i37_17 (by decide +kernel) ?_
    exact ⟨rfl, rfl⟩
theorem c36 {tb : dxT} {H : dxH} {a : Nat} {b : Bool} {cl ce fu : Nat → Nat} {pa : Nat → Int32} {he : Nat} {sn : Bool} {ho wa : Int32} (hM : MdwAt H a cl ce fu pa he sn ho wa) (ha : 6 ≤ a) : Cl tb 36 [.ref a, .int (bI b)] H (fun r H' => r = none ∧ MdwAt H' a cl ce fu pa he b ho wa ∧ Off (mdC a) H H') := by
  obtain ⟨m0, m1, m2, m3, m4⟩ := id hM
  have hO : Off (mdC a) H H := Off.rf
  show Ev tb 36 0 [some (.ref a), some (.int (bI b))] [] H _
  refine ev_aload_n i36_0 rfl ?_
  refine ev_iload_n i36_1 rfl ?_
  refine evs_put (fs' := [.ref 3, .ref (a + 1), .ref (a + 2), .ref (a + 3), .ref (a + 4), .int (nI he), .int (bI b), .int ho, .int wa]) i36_2 ci36 fl3_32 (by assumption) ⟨Nat.le_of_ble_eq_true rfl, dxFit_b _, Or.inl rfl⟩ rfl (fun H1 hH1 => ?_)
  have m0 : H1[a]? = some (.inr (3, [.ref 3, .ref (a + 1), .ref (a + 2), .ref (a + 3), .ref (a + 4), .int (nI he), .int (bI b), .int ho, .int wa])) := by rw [hH1]; exact set_self m0
  have m1 : H1[a + 1]? = some (IA 10 cl) := by rw [hH1]; exact set_ne m1 (by omega)
  have m2 : H1[a + 2]? = some (IA 6 ce) := by rw [hH1]; exact set_ne m2 (by omega)
  have m3 : H1[a + 3]? = some (IA 6 fu) := by rw [hH1]; exact set_ne m3 (by omega)
  have m4 : H1[a + 4]? = some (.inl (0, 2, .inl pa)) := by rw [hH1]; exact set_ne m4 (by omega)
  have hO : Off (mdC a) H H1 := by rw [hH1]; exact hO.set (by exact ⟨by omega, by omega⟩)
  refine ev_vret i36_5 (by decide +kernel) ?_
  exact ⟨rfl, ⟨m0, m1, m2, m3, m4⟩, hO⟩
theorem c40 {tb : dxT} {H : dxH} {a k n : Nat} {sd kd cl ce fu : Nat → Nat} {pa : Nat → Int32} {he : Nat} {sn : Bool} {ho wa : Int32} (hM : MdwAt H a cl ce fu pa he sn ho wa) (hH : HrdAt H n sd kd) (hb : he < 64) (ha : 6 ≤ a) (hfu : ∀ j, fu j < 10) (hkd : ∀ j, kd j < 4) (hk : k < 6) : Cl tb 40 [.ref a, .int (nI k)] H (Rt (.int (bI (he.testBit k && dueB (kd k) (fu k)))) H) := by
  obtain ⟨m0, m1, m2, m3, m4⟩ := id hM
  obtain ⟨g0, g1, g2⟩ := id hH
  have hfk := hfu k
  have hkk := hkd k
  show Ev tb 40 0 [some (.ref a), some (.int (nI k)), none] [] H _
  refine ev_aload_n i40_0 rfl ?_
  refine ev_get i40_1 ci40 fl3_24 (by assumption) rfl ?_
  refine ev_iload_n i40_4 rfl ?_
  refine ev_callV (vs := [.int (nI k)]) (rest := []) i40_5 ci40 lk3_87 (congrArg (fun q => q + 1) np17) ci17 (by decide) (by decide +kernel) (Nat.le_of_ble_eq_true rfl) ⟨rfl, rfl, Nat.le_of_ble_eq_true rfl⟩ rfl (by assumption) (c17 (by assumption) (by omega)) (fun r HH hq => ?_)
  obtain ⟨rfl, rfl⟩ := hq
  show Ev tb 40 8 [some (.ref a), some (.int (nI k)), none] [.int (nI (kd k))] H _
  refine ev_istore_n (L' := [some (.ref a), some (.int (nI k)), some (.int (nI (kd k)))]) i40_8 ⟨Nat.le_of_ble_eq_true rfl, rfl⟩ rfl ?_
  refine ev_aload_n i40_9 rfl ?_
  refine ev_iload_n i40_10 rfl ?_
  refine ev_callV (vs := [.int (nI k)]) (rest := []) i40_11 ci40 lk3_62 (congrArg (fun q => q + 1) np23) ci23 (by decide) (by decide +kernel) (Nat.le_of_ble_eq_true rfl) ⟨rfl, rfl, Nat.le_of_ble_eq_true rfl⟩ rfl (by assumption) (c23 (by assumption) (by omega) (by omega)) (fun r HH hq => ?_)
  obtain ⟨rfl, rfl⟩ := hq
  show Ev tb 40 14 [some (.ref a), some (.int (nI k)), some (.int (nI (kd k)))] [.int (bI (he.testBit k))] H _
  refine evb_if_eq (t := 47) i40_14 (by decide) (fun z14 => ?_) (fun z14 => ?_)
  · refine ev_iconst (v := nI 0) i40_47 (by decide) ?_
    refine ev_zret i40_48 (by decide +kernel) (by decide) ?_
    exact ⟨zf (by simp [dueB, *] <;> omega), rfl⟩
  · refine ev_iload_n i40_17 rfl ?_
    refine ev_iconst (v := nI 2) i40_18 (by decide) ?_
    refine evn_icmp_eq (t := 47) i40_19 (by decide) (by omega) (fun z19 => ?_) (fun z19 => ?_)
    · refine ev_iconst (v := nI 0) i40_47 (by decide) ?_
      refine ev_zret i40_48 (by decide +kernel) (by decide) ?_
      exact ⟨zf (by simp [dueB, *] <;> omega), rfl⟩
    · refine ev_aload_n i40_22 rfl ?_
      refine ev_get i40_23 ci40 fl3_18 (by assumption) rfl ?_
      refine ev_iload_n i40_26 rfl ?_
      refine ev_iald_n i40_27 (by assumption) (by omega) ?_
      refine ev_iload_n i40_28 rfl ?_
      refine ev_iconst (v := nI 1) i40_29 (by decide) ?_
      refine evn_icmp_ne (t := 38) i40_30 (by decide) (by omega) (fun z30 => ?_) (fun z30 => ?_)
      · refine ev_bipush (v := nI 6) i40_38 (by decide) ?_
        refine evn_icmp_lt (t := 47) i40_40 (by decide) (by omega) (fun z40 => ?_) (fun z40 => ?_)
        · refine ev_iconst (v := nI 0) i40_47 (by decide) ?_
          refine ev_zret i40_48 (by decide +kernel) (by decide) ?_
          exact ⟨zf (by simp [dueB, *] <;> omega), rfl⟩
        · refine ev_iconst (v := nI 1) i40_43 (by decide) ?_
          refine ev_goto (t := 48) i40_44 (by decide) ?_
          refine ev_zret i40_48 (by decide +kernel) (by decide) ?_
          exact ⟨zt (by simp [dueB, *] <;> omega), rfl⟩
      · refine ev_bipush (v := nI 9) i40_33 (by decide) ?_
        refine ev_goto (t := 40) i40_35 (by decide) ?_
        refine evn_icmp_lt (t := 47) i40_40 (by decide) (by omega) (fun z40 => ?_) (fun z40 => ?_)
        · refine ev_iconst (v := nI 0) i40_47 (by decide) ?_
          refine ev_zret i40_48 (by decide +kernel) (by decide) ?_
          exact ⟨zf (by simp [dueB, *] <;> omega), rfl⟩
        · refine ev_iconst (v := nI 1) i40_43 (by decide) ?_
          refine ev_goto (t := 48) i40_44 (by decide) ?_
          refine ev_zret i40_48 (by decide +kernel) (by decide) ?_
          exact ⟨zt (by simp [dueB, *] <;> omega), rfl⟩
theorem c41 {tb : dxT} {H : dxH} {a k n : Nat} {sd kd cl ce fu : Nat → Nat} {pa : Nat → Int32} {he : Nat} {sn : Bool} {ho wa : Int32} (hM : MdwAt H a cl ce fu pa he sn ho wa) (hH : HrdAt H n sd kd) (hb : he < 64) (ha : 6 ≤ a) (hfu : ∀ j, fu j < 10) (hkd : ∀ j, kd j < 4) (hk : k < 6) : Cl tb 41 [.ref a, .int (nI k)] H (Rt (.int (bI (he.testBit k && wrnB (kd k) (fu k)))) H) := by
  obtain ⟨m0, m1, m2, m3, m4⟩ := id hM
  obtain ⟨g0, g1, g2⟩ := id hH
  have hfk := hfu k
  have hkk := hkd k
  show Ev tb 41 0 [some (.ref a), some (.int (nI k))] [] H _
  refine ev_aload_n i41_0 rfl ?_
  refine ev_iload_n i41_1 rfl ?_
  refine ev_callV (vs := [.int (nI k)]) (rest := []) i41_2 ci41 lk3_62 (congrArg (fun q => q + 1) np23) ci23 (by decide) (by decide +kernel) (Nat.le_of_ble_eq_true rfl) ⟨rfl, rfl, Nat.le_of_ble_eq_true rfl⟩ rfl (by assumption) (c23 (by assumption) (by omega) (by omega)) (fun r HH hq => ?_)
  obtain ⟨rfl, rfl⟩ := hq
  show Ev tb 41 5 [some (.ref a), some (.int (nI k))] [.int (bI (he.testBit k))] H _
  refine evb_if_eq (t := 34) i41_5 (by decide) (fun z5 => ?_) (fun z5 => ?_)
  · refine ev_iconst (v := nI 0) i41_34 (by decide) ?_
    refine ev_zret i41_35 (by decide +kernel) (by decide) ?_
    exact ⟨zf (by simp [wrnB, *] <;> omega), rfl⟩
  · refine ev_aload_n i41_8 rfl ?_
    refine ev_get i41_9 ci41 fl3_24 (by assumption) rfl ?_
    refine ev_iload_n i41_12 rfl ?_
    refine ev_callV (vs := [.int (nI k)]) (rest := []) i41_13 ci41 lk3_87 (congrArg (fun q => q + 1) np17) ci17 (by decide) (by decide +kernel) (Nat.le_of_ble_eq_true rfl) ⟨rfl, rfl, Nat.le_of_ble_eq_true rfl⟩ rfl (by assumption) (c17 (by assumption) (by omega)) (fun r HH hq => ?_)
    obtain ⟨rfl, rfl⟩ := hq
    show Ev tb 41 16 [some (.ref a), some (.int (nI k))] [.int (nI (kd k))] H _
    refine ev_iconst (v := nI 3) i41_16 (by decide) ?_
    refine evn_icmp_ne (t := 34) i41_17 (by decide) (by omega) (fun z17 => ?_) (fun z17 => ?_)
    · refine ev_iconst (v := nI 0) i41_34 (by decide) ?_
      refine ev_zret i41_35 (by decide +kernel) (by decide) ?_
      exact ⟨zf (by simp [wrnB, *] <;> omega), rfl⟩
    · refine ev_aload_n i41_20 rfl ?_
      refine ev_get i41_21 ci41 fl3_18 (by assumption) rfl ?_
      refine ev_iload_n i41_24 rfl ?_
      refine ev_iald_n i41_25 (by assumption) (by omega) ?_
      refine ev_iconst (v := nI 5) i41_26 (by decide) ?_
      refine evn_icmp_ne (t := 34) i41_27 (by decide) (by omega) (fun z27 => ?_) (fun z27 => ?_)
      · refine ev_iconst (v := nI 0) i41_34 (by decide) ?_
        refine ev_zret i41_35 (by decide +kernel) (by decide) ?_
        exact ⟨zf (by simp [wrnB, *] <;> omega), rfl⟩
      · refine ev_iconst (v := nI 1) i41_30 (by decide) ?_
        refine ev_goto (t := 35) i41_31 (by decide) ?_
        refine ev_zret i41_35 (by decide +kernel) (by decide) ?_
        exact ⟨zt (by simp [wrnB, *] <;> omega), rfl⟩
theorem c27 {tb : dxT} {H : dxH} {a k c : Nat} {cl ce fu : Nat → Nat} {pa : Nat → Int32} {he : Nat} {sn : Bool} {ho wa : Int32} (hM : MdwAt H a cl ce fu pa he sn ho wa) (hb : he < 64) (ha : 6 ≤ a) (hk : k < 6) (ht : he.testBit k = true) (hc : c < 10) : Cl tb 27 [.ref a, .int (nI k), .int (nI c)] H (fun r H' => r = none ∧ MdwAt H' a cl (updN ce k c) fu pa he sn ho wa ∧ Off (mdC a) H H') := by
  obtain ⟨m0, m1, m2, m3, m4⟩ := id hM
  have hO : Off (mdC a) H H := Off.rf
  show Ev tb 27 0 [some (.ref a), some (.int (nI k)), some (.int (nI c))] [] H _
  refine ev_aload_n i27_0 rfl ?_
  refine ev_iload_n i27_1 rfl ?_
  refine ev_callV (vs := [.int (nI k)]) (rest := []) i27_2 ci27 lk3_62 (congrArg (fun q => q + 1) np23) ci23 (by decide) (by decide +kernel) (Nat.le_of_ble_eq_true rfl) ⟨rfl, rfl, Nat.le_of_ble_eq_true rfl⟩ rfl (by assumption) (c23 (by assumption) (by omega) (by omega)) (fun r HH hq => ?_)
  obtain ⟨rfl, rfl⟩ := hq
  show Ev tb 27 5 [some (.ref a), some (.int (nI k)), some (.int (nI c))] [.int (bI (he.testBit k))] H _
  refine evb_if_eq (t := 22) i27_5 (by decide) (fun z5 => ?_) (fun z5 => ?_)
  · refine ev_vret i27_22 (by decide +kernel) ?_
    exfalso; simp_all
  · refine ev_iload_n i27_8 rfl ?_
    refine ev_callS (vs := [.int (nI c)]) (rest := []) i27_9 ci27 lk3_69 (Or.inr rfl) np96 (by decide +kernel) (Nat.le_of_ble_eq_true rfl) ⟨rfl, rfl, Nat.le_of_ble_eq_true rfl⟩ rfl (c96n (by omega)) (fun r HH hq => ?_)
    obtain ⟨rfl, rfl⟩ := hq
    show Ev tb 27 12 [some (.ref a), some (.int (nI k)), some (.int (nI c))] [.int (bI (decide (c < 10)))] H _
    refine evd_if_eq (t := 22) i27_12 (by decide) (fun z12 => ?_) (fun z12 => ?_)
    · refine ev_vret i27_22 (by decide +kernel) ?_
      exfalso; simp_all
    · refine ev_aload_n i27_15 rfl ?_
      refine ev_get i27_16 ci27 fl3_15 (by assumption) rfl ?_
      refine ev_iload_n i27_19 rfl ?_
      refine ev_iload_n i27_20 rfl ?_
      refine evs_iastn i27_21 (by assumption) (by omega) (fun H1 hH1 => ?_)
      have m0 : H1[a]? = some (.inr (3, [.ref 3, .ref (a + 1), .ref (a + 2), .ref (a + 3), .ref (a + 4), .int (nI he), .int (bI sn), .int ho, .int wa])) := by rw [hH1]; exact set_ne m0 (by omega)
      have m1 : H1[a + 1]? = some (IA 10 cl) := by rw [hH1]; exact set_ne m1 (by omega)
      have m2 : H1[a + 2]? = some (IA 6 (updN ce k c)) := by rw [hH1]; exact set_self m2
      have m3 : H1[a + 3]? = some (IA 6 fu) := by rw [hH1]; exact set_ne m3 (by omega)
      have m4 : H1[a + 4]? = some (.inl (0, 2, .inl pa)) := by rw [hH1]; exact set_ne m4 (by omega)
      have hO : Off (mdC a) H H1 := by rw [hH1]; exact hO.set (by exact ⟨by omega, by omega⟩)
      refine ev_vret i27_22 (by decide +kernel) ?_
      exact ⟨rfl, ⟨m0, m1, m2, m3, m4⟩, hO⟩
theorem c28 {tb : dxT} {H : dxH} {a k x : Nat} {cl ce fu : Nat → Nat} {pa : Nat → Int32} {he : Nat} {sn : Bool} {ho wa : Int32} (hM : MdwAt H a cl ce fu pa he sn ho wa) (hb : he < 64) (ha : 6 ≤ a) (hk : k < 6) (ht : he.testBit k = true) : Cl tb 28 [.ref a, .int (nI k), .int (nI x)] H (fun r H' => r = none ∧ MdwAt H' a cl ce (updN fu k x) pa he sn ho wa ∧ Off (mdC a) H H') := by
  obtain ⟨m0, m1, m2, m3, m4⟩ := id hM
  have hO : Off (mdC a) H H := Off.rf
  show Ev tb 28 0 [some (.ref a), some (.int (nI k)), some (.int (nI x))] [] H _
  refine ev_aload_n i28_0 rfl ?_
  refine ev_iload_n i28_1 rfl ?_
  refine ev_callV (vs := [.int (nI k)]) (rest := []) i28_2 ci28 lk3_62 (congrArg (fun q => q + 1) np23) ci23 (by decide) (by decide +kernel) (Nat.le_of_ble_eq_true rfl) ⟨rfl, rfl, Nat.le_of_ble_eq_true rfl⟩ rfl (by assumption) (c23 (by assumption) (by omega) (by omega)) (fun r HH hq => ?_)
  obtain ⟨rfl, rfl⟩ := hq
  show Ev tb 28 5 [some (.ref a), some (.int (nI k)), some (.int (nI x))] [.int (bI (he.testBit k))] H _
  refine evb_if_eq (t := 15) i28_5 (by decide) (fun z5 => ?_) (fun z5 => ?_)
  · refine ev_vret i28_15 (by decide +kernel) ?_
    exfalso; simp_all
  · refine ev_aload_n i28_8 rfl ?_
    refine ev_get i28_9 ci28 fl3_18 (by assumption) rfl ?_
    refine ev_iload_n i28_12 rfl ?_
    refine ev_iload_n i28_13 rfl ?_
    refine evs_iastn i28_14 (by assumption) (by omega) (fun H1 hH1 => ?_)
    have m0 : H1[a]? = some (.inr (3, [.ref 3, .ref (a + 1), .ref (a + 2), .ref (a + 3), .ref (a + 4), .int (nI he), .int (bI sn), .int ho, .int wa])) := by rw [hH1]; exact set_ne m0 (by omega)
    have m1 : H1[a + 1]? = some (IA 10 cl) := by rw [hH1]; exact set_ne m1 (by omega)
    have m2 : H1[a + 2]? = some (IA 6 ce) := by rw [hH1]; exact set_ne m2 (by omega)
    have m3 : H1[a + 3]? = some (IA 6 (updN fu k x)) := by rw [hH1]; exact set_self m3
    have m4 : H1[a + 4]? = some (.inl (0, 2, .inl pa)) := by rw [hH1]; exact set_ne m4 (by omega)
    have hO : Off (mdC a) H H1 := by rw [hH1]; exact hO.set (by exact ⟨by omega, by omega⟩)
    refine ev_vret i28_15 (by decide +kernel) ?_
    exact ⟨rfl, ⟨m0, m1, m2, m3, m4⟩, hO⟩
theorem c29z {tb : dxT} {H : dxH} {a : Nat} {cl ce fu : Nat → Nat} {pa : Nat → Int32} {he : Nat} {sn : Bool} {ho wa : Int32} (hM : MdwAt H a cl ce fu pa he sn ho wa) : Cl tb 29 [.ref a, .int (nI 0)] H (fun r H' => r = none ∧ MdwAt H' a cl ce fu pa he sn ho wa ∧ Off (mdC a) H H') := by
  obtain ⟨m0, m1, m2, m3, m4⟩ := id hM
  have hO : Off (mdC a) H H := Off.rf
  show Ev tb 29 0 [some (.ref a), some (.int (nI 0))] [] H _
  refine ev_iload_n i29_0 rfl ?_
  refine evn_if_eq (t := 16) i29_1 (by decide) (by omega) (fun z1 => ?_) (fun z1 => by exfalso; omega)
  refine ev_vret i29_16 (by decide +kernel) ?_
  exact ⟨rfl, ⟨m0, m1, m2, m3, m4⟩, hO⟩
theorem c100 {tb : dxT} {H : dxH} {c : Nat} (hc : 1 ≤ c) (hc2 : c < 1000) : Cl tb 100 [.int (nI c)] H (Rt (.int (nI ((c - 1) / 10))) H) := by
  show Ev tb 100 0 [some (.int (nI c))] [] H _
  refine ev_iload_n i100_0 rfl ?_
  refine ev_iconst (v := nI 1) i100_1 (by decide) ?_
  refine evn_isub i100_2 (by omega) ?_
  refine ev_bipush (v := nI 10) i100_3 (by decide) ?_
  refine evn_idiv i100_5 (by omega) ?_
  refine ev_iret i100_6 (by decide +kernel) ?_
  exact ⟨rfl, rfl⟩
theorem c101 {tb : dxT} {H : dxH} {c : Nat} (hc : 1 ≤ c) (hc2 : c < 1000) : Cl tb 101 [.int (nI c)] H (Rt (.int (nI ((c - 1) % 10))) H) := by
  show Ev tb 101 0 [some (.int (nI c))] [] H _
  refine ev_iload_n i101_0 rfl ?_
  refine ev_iconst (v := nI 1) i101_1 (by decide) ?_
  refine evn_isub i101_2 (by omega) ?_
  refine ev_bipush (v := nI 10) i101_3 (by decide) ?_
  refine evn_irem i101_5 (by first | omega | exact ⟨Nat.lt_of_le_of_lt (Nat.div_le_self _ _) (by omega), by decide, by decide⟩) ?_
  refine ev_iret i101_6 (by decide +kernel) ?_
  exact ⟨rfl, rfl⟩
theorem c29 {tb : dxT} {H : dxH} {a n x : Nat} {sd kd cl ce fu : Nat → Nat} {pa : Nat → Int32} {he : Nat} {sn : Bool} {ho wa : Int32} (hM : MdwAt H a cl ce fu pa he sn ho wa) (hH : HrdAt H n sd kd) (hb : he < 64) (ha : 6 ≤ a) (hc1 : 1 ≤ x) (hx : (x - 1) / 10 < 6) (ht : he.testBit ((x - 1) / 10) = true) : Cl tb 29 [.ref a, .int (nI x)] H (fun r H' => r = none ∧ MdwAt H' a cl (updN ce ((x - 1) / 10) ((x - 1) % 10)) fu pa he sn ho wa ∧ Off (mdC a) H H') := by
  obtain ⟨m0, m1, m2, m3, m4⟩ := id hM
  obtain ⟨g0, g1, g2⟩ := id hH
  have hO : Off (mdC a) H H := Off.rf
  show Ev tb 29 0 [some (.ref a), some (.int (nI x))] [] H _
  refine ev_iload_n i29_0 rfl ?_
  refine evn_if_eq (t := 16) i29_1 (by decide) (by omega) (fun z1 => ?_) (fun z1 => ?_)
  · refine ev_vret i29_16 (by decide +kernel) ?_
    exfalso; omega
  · refine ev_aload_n i29_4 rfl ?_
    refine ev_iload_n i29_5 rfl ?_
    refine ev_callS (vs := [.int (nI x)]) (rest := [.ref a]) i29_6 ci29 lk3_72 (Or.inr rfl) np100 (by decide +kernel) (Nat.le_of_ble_eq_true rfl) ⟨rfl, rfl, Nat.le_of_ble_eq_true rfl⟩ rfl (c100 (by omega) (by omega)) (fun r HH hq => ?_)
    obtain ⟨rfl, rfl⟩ := hq
    show Ev tb 29 9 [some (.ref a), some (.int (nI x))] [.int (nI ((x - 1) / 10)), .ref a] H _
    refine ev_iload_n i29_9 rfl ?_
    refine ev_callS (vs := [.int (nI x)]) (rest := [.int (nI ((x - 1) / 10)), .ref a]) i29_10 ci29 lk3_75 (Or.inr rfl) np101 (by decide +kernel) (Nat.le_of_ble_eq_true rfl) ⟨rfl, rfl, Nat.le_of_ble_eq_true rfl⟩ rfl (c101 (by omega) (by omega)) (fun r HH hq => ?_)
    obtain ⟨rfl, rfl⟩ := hq
    show Ev tb 29 13 [some (.ref a), some (.int (nI x))] [.int (nI ((x - 1) % 10)), .int (nI ((x - 1) / 10)), .ref a] H _
    refine ev_callV (vs := [.int (nI ((x - 1) / 10)), .int (nI ((x - 1) % 10))]) (rest := []) i29_13 ci29 lk3_78 (congrArg (fun q => q + 1) np27) ci27 (by decide) (by decide +kernel) (Nat.le_of_ble_eq_true rfl) ⟨rfl, rfl, Nat.le_of_ble_eq_true rfl⟩ rfl (by assumption) (c27 (by assumption) hb ha (by omega) (by assumption) (by omega)) (fun r H1 hq => ?_)
    obtain ⟨rfl, hM, hO1⟩ := hq
    obtain ⟨m0, m1, m2, m3, m4⟩ := id hM
    have hO : Off (mdC a) H H1 := hO.trans hO1 (fun _ h => h) (fun _ h => h)
    have hH := hH.off hO1 (fun q => by have := q.1; omega) (fun q => by have := q.1; omega) (fun q => by have := q.1; omega)
    obtain ⟨g0, g1, g2⟩ := id hH
    show Ev tb 29 16 [some (.ref a), some (.int (nI x))] [] H1 _
    refine ev_vret i29_16 (by decide +kernel) ?_
    exact ⟨rfl, ⟨m0, m1, m2, m3, m4⟩, hO⟩
/-- the sort of an hour without snow and bells, cows from k on -/
def srtL (he : Nat) (kd fu : Nat → Nat) : Nat → Nat → Nat → Nat
  | 0, _, s => s
  | d + 1, k, s => if (he.testBit k && dueB (kd k) (fu k)) = true then 1 else srtL he kd fu d (k + 1) (if (he.testBit k && wrnB (kd k) (fu k)) = true then 2 else s)
theorem srtL_lt {he : Nat} {kd fu : Nat → Nat} : ∀ {d k s : Nat}, s < 4 → srtL he kd fu d k s < 4
  | 0, _, _, h => h
  | d + 1, k, s, h => by
    unfold srtL
    split
    · decide
    · refine srtL_lt ?_
      split
      · decide
      · exact h
def srtF (he : Nat) (kd fu : Nat → Nat) (sn rg : Bool) : Nat := if sn = true then 3 else if rg = true then 1 else srtL he kd fu 6 0 0
theorem srtF_lt {he : Nat} {kd fu : Nat → Nat} {sn rg : Bool} : srtF he kd fu sn rg < 4 := by
  unfold srtF
  split
  · decide
  · split
    · decide
    · exact srtL_lt (by decide)
def mlkF (he : Nat) (sd kd : Nat → Nat) (k : Nat) (x : (Nat → Nat) × (Nat → Int32)) : (Nat → Nat) × (Nat → Int32) := if (he.testBit k && dueB (kd k) (x.1 k)) = true then (updN x.1 k 0, upd x.2 (sd k) (x.2 (sd k) + nI (x.1 k))) else x
def eatF (he : Nat) (ce : Nat → Nat) (k : Nat) (x : (Nat → Nat) × (Nat → Nat)) : (Nat → Nat) × (Nat → Nat) := if he.testBit k = true ∧ 0 < x.1 (ce k) then (updN x.1 (ce k) (x.1 (ce k) - 1), updN x.2 k (if 9 < x.2 k + (if 5 ≤ x.1 (ce k) then 2 else 1) then 9 else x.2 k + (if 5 ≤ x.1 (ce k) then 2 else 1))) else x
theorem lq42 {tb : dxT} {H : dxH} {a n : Nat} {sd kd cl ce fu : Nat → Nat} {pa : Nat → Int32} {he : Nat} {sn rg : Bool} {ho wa : Int32} (hM : MdwAt H a cl ce fu pa he sn ho wa) (hH : HrdAt H n sd kd) (hb : he < 64) (ha : 6 ≤ a) (hfu : ∀ j, fu j < 10) (hkd : ∀ j, kd j < 4) : ∀ (d k s : Nat), k + d = 6 → s < 4 → Ev tb 42 19 [some (.ref a), some (.int (bI rg)), some (.int (nI s)), some (.int (nI k))] [] H (Rt (.int (nI (srtL he kd fu d k s))) H)
  | 0, k, s, hk, hs => by
    obtain rfl : k = 6 := by omega
    show Ev tb 42 19 [some (.ref a), some (.int (bI rg)), some (.int (nI s)), some (.int (nI 6))] [] H _
    refine ev_iload_n i42_19 rfl ?_
    refine ev_bipush (v := nI 6) i42_20 (by decide) ?_
    refine evn_icmp_ge (t := 51) i42_22 (by decide) (by omega) (fun z22 => ?_) (fun z22 => by exfalso; omega)
    refine ev_iload_n i42_51 rfl ?_
    refine ev_iret i42_52 (by decide +kernel) ?_
    exact ⟨rfl, rfl⟩
  | d + 1, k, s, hk, hs => by
    obtain ⟨m0, m1, m2, m3, m4⟩ := id hM
    unfold srtL
    show Ev tb 42 19 [some (.ref a), some (.int (bI rg)), some (.int (nI s)), some (.int (nI k))] [] H _
    refine ev_iload_n i42_19 rfl ?_
    refine ev_bipush (v := nI 6) i42_20 (by decide) ?_
    refine evn_icmp_ge (t := 51) i42_22 (by decide) (by omega) (fun z22 => by exfalso; omega) (fun z22 => ?_)
    refine ev_aload_n i42_25 rfl ?_
    refine ev_iload_n i42_26 rfl ?_
    refine ev_callV (vs := [.int (nI k)]) (rest := []) i42_27 ci42 lk3_90 (congrArg (fun q => q + 1) np40) ci40 (by decide) (by decide +kernel) (Nat.le_of_ble_eq_true rfl) ⟨rfl, rfl, Nat.le_of_ble_eq_true rfl⟩ rfl (by assumption) (c40 (by assumption) (by assumption) hb ha hfu hkd (by omega)) (fun r HH hq => ?_)
    obtain ⟨rfl, rfl⟩ := hq
    show Ev tb 42 30 [some (.ref a), some (.int (bI rg)), some (.int (nI s)), some (.int (nI k))] [.int (bI (he.testBit k && dueB (kd k) (fu k)))] H _
    refine evb_if_eq (t := 35) i42_30 (by decide) (fun z30 => ?_) (fun z30 => ?_)
    · refine ev_aload_n i42_35 rfl ?_
      refine ev_iload_n i42_36 rfl ?_
      refine ev_callV (vs := [.int (nI k)]) (rest := []) i42_37 ci42 lk3_93 (congrArg (fun q => q + 1) np41) ci41 (by decide) (by decide +kernel) (Nat.le_of_ble_eq_true rfl) ⟨rfl, rfl, Nat.le_of_ble_eq_true rfl⟩ rfl (by assumption) (c41 (by assumption) (by assumption) hb ha hfu hkd (by omega)) (fun r HH hq => ?_)
      obtain ⟨rfl, rfl⟩ := hq
      show Ev tb 42 40 [some (.ref a), some (.int (bI rg)), some (.int (nI s)), some (.int (nI k))] [.int (bI (he.testBit k && wrnB (kd k) (fu k)))] H _
      refine evb_if_eq (t := 45) i42_40 (by decide) (fun z40 => ?_) (fun z40 => ?_)
      · refine evn_iinc (d := 1) (L' := [some (.ref a), some (.int (bI rg)), some (.int (nI s)), some (.int (nI (k + 1)))]) i42_45 rfl rfl (by decide) rfl ?_
        refine ev_goto (t := 19) i42_48 (by decide) ?_
        rw [if_neg (by simp [*]), if_neg (by simp [*])]
        exact lq42 hM hH hb ha hfu hkd d (k + 1) _ (by omega) (by omega)
      · refine ev_iconst (v := nI 2) i42_43 (by decide) ?_
        refine ev_istore_n (L' := [some (.ref a), some (.int (bI rg)), some (.int (nI 2)), some (.int (nI k))]) i42_44 ⟨Nat.le_of_ble_eq_true rfl, rfl⟩ rfl ?_
        refine evn_iinc (d := 1) (L' := [some (.ref a), some (.int (bI rg)), some (.int (nI 2)), some (.int (nI (k + 1)))]) i42_45 rfl rfl (by decide) rfl ?_
        refine ev_goto (t := 19) i42_48 (by decide) ?_
        rw [if_neg (by simp [*]), if_pos (by simp [*])]
        exact lq42 hM hH hb ha hfu hkd d (k + 1) _ (by omega) (by omega)
    · refine ev_iconst (v := nI 1) i42_33 (by decide) ?_
      refine ev_iret i42_34 (by decide +kernel) ?_
      rw [if_pos (by assumption)]
      exact ⟨rfl, rfl⟩
theorem c42 {tb : dxT} {H : dxH} {a n : Nat} {sd kd cl ce fu : Nat → Nat} {pa : Nat → Int32} {he : Nat} {sn rg : Bool} {ho wa : Int32} (hM : MdwAt H a cl ce fu pa he sn ho wa) (hH : HrdAt H n sd kd) (hb : he < 64) (ha : 6 ≤ a) (hfu : ∀ j, fu j < 10) (hkd : ∀ j, kd j < 4) : Cl tb 42 [.ref a, .int (bI rg)] H (Rt (.int (nI (srtF he kd fu sn rg))) H) := by
  obtain ⟨m0, m1, m2, m3, m4⟩ := id hM
  obtain ⟨g0, g1, g2⟩ := id hH
  unfold srtF
  show Ev tb 42 0 [some (.ref a), some (.int (bI rg)), none, none] [] H _
  refine ev_aload_n i42_0 rfl ?_
  refine ev_get i42_1 ci42 fl3_32 (by assumption) rfl ?_
  refine evb_if_eq (t := 9) i42_4 (by decide) (fun z4 => ?_) (fun z4 => ?_)
  · refine ev_iload_n i42_9 rfl ?_
    refine evb_if_eq (t := 15) i42_10 (by decide) (fun z10 => ?_) (fun z10 => ?_)
    · refine ev_iconst (v := nI 0) i42_15 (by decide) ?_
      refine ev_istore_n (L' := [some (.ref a), some (.int (bI rg)), some (.int (nI 0)), none]) i42_16 ⟨Nat.le_of_ble_eq_true rfl, rfl⟩ rfl ?_
      refine ev_iconst (v := nI 0) i42_17 (by decide) ?_
      refine ev_istore_n (L' := [some (.ref a), some (.int (bI rg)), some (.int (nI 0)), some (.int (nI 0))]) i42_18 ⟨Nat.le_of_ble_eq_true rfl, rfl⟩ rfl ?_
      simp only [*, if_false, Bool.false_eq_true]
      exact lq42 hM hH hb ha hfu hkd 6 0 0 rfl (by decide)
    · refine ev_iconst (v := nI 1) i42_13 (by decide) ?_
      refine ev_iret i42_14 (by decide +kernel) ?_
      simp only [*, if_true, if_false, Bool.false_eq_true]
      exact ⟨rfl, rfl⟩
  · refine ev_iconst (v := nI 3) i42_7 (by decide) ?_
    refine ev_iret i42_8 (by decide +kernel) ?_
    simp only [*, if_true, if_false, Bool.false_eq_true]
    exact ⟨rfl, rfl⟩
theorem updN_lt {f : Nat → Nat} {m k x : Nat} (h : ∀ j, f j < m) (hx : x < m) : ∀ j, updN f k x j < m := fun j => by
  unfold updN
  split
  · exact hx
  · exact h j
theorem lq46 {tb : dxT} {a n : Nat} {sd kd cl ce : Nat → Nat} {he : Nat} {sn : Bool} {ho wa : Int32} (hb : he < 64) (ha : 6 ≤ a) (hkd : ∀ j, kd j < 4) (hsd : ∀ j, sd j < 2) : ∀ (d k : Nat) (H : dxH) (fu : Nat → Nat) (pa : Nat → Int32), k + d = 6 → (∀ j, fu j < 10) → MdwAt H a cl ce fu pa he sn ho wa → HrdAt H n sd kd → ∀ v, Ev tb 46 2 [some (.ref a), some (.int (nI k)), v] [] H (fun r H' => r = none ∧ MdwAt H' a cl ce (upto (mlkF he sd kd) d k (fu, pa)).1 (upto (mlkF he sd kd) d k (fu, pa)).2 he sn ho wa ∧ Off (mdC a) H H')
  | 0, k, H, fu, pa, hk, hfu, hM, hH, v => by
    obtain rfl : k = 6 := by omega
    refine ev_iload_n i46_2 rfl ?_
    refine ev_bipush (v := nI 6) i46_3 (by decide) ?_
    refine evn_icmp_ge (t := 60) i46_5 (by decide) (by omega) (fun c5 => ?_) (fun c5 => by exfalso; omega)
    refine ev_vret i46_60 (by decide +kernel) ?_
    exact ⟨rfl, hM, Off.rf⟩
  | d + 1, k, H, fu, pa, hk, hfu, hM, hH, v => by
    obtain ⟨m0, m1, m2, m3, m4⟩ := id hM
    obtain ⟨g0, g1, g2⟩ := id hH
    have hO : Off (mdC a) H H := Off.rf
    have hsk := hsd k
    have hfk := hfu k
    refine ev_iload_n i46_2 rfl ?_
    refine ev_bipush (v := nI 6) i46_3 (by decide) ?_
    refine evn_icmp_ge (t := 60) i46_5 (by decide) (by omega) (fun z5 => by exfalso; omega) (fun z5 => ?_)
    refine ev_aload_n i46_8 rfl ?_
    refine ev_get i46_9 ci46 fl3_24 (by assumption) rfl ?_
    refine ev_iload_n i46_12 rfl ?_
    refine ev_callV (vs := [.int (nI k)]) (rest := []) i46_13 ci46 lk3_65 (congrArg (fun q => q + 1) np16) ci16 (by decide) (by decide +kernel) (Nat.le_of_ble_eq_true rfl) ⟨rfl, rfl, Nat.le_of_ble_eq_true rfl⟩ rfl (by assumption) (c16 (by assumption) (by omega)) (fun r HH hq => ?_)
    obtain ⟨rfl, rfl⟩ := hq
    show Ev tb 46 16 [some (.ref a), some (.int (nI k)), v] [.int (nI (sd k))] H _
    refine ev_istore_n (L' := [some (.ref a), some (.int (nI k)), some (.int (nI (sd k)))]) i46_16 ⟨Nat.le_of_ble_eq_true rfl, rfl⟩ rfl ?_
    refine ev_aload_n i46_17 rfl ?_
    refine ev_iload_n i46_18 rfl ?_
    refine ev_callV (vs := [.int (nI k)]) (rest := []) i46_19 ci46 lk3_90 (congrArg (fun q => q + 1) np40) ci40 (by decide) (by decide +kernel) (Nat.le_of_ble_eq_true rfl) ⟨rfl, rfl, Nat.le_of_ble_eq_true rfl⟩ rfl (by assumption) (c40 (by assumption) (by assumption) hb ha hfu hkd (by omega)) (fun r HH hq => ?_)
    obtain ⟨rfl, rfl⟩ := hq
    show Ev tb 46 22 [some (.ref a), some (.int (nI k)), some (.int (nI (sd k)))] [.int (bI (he.testBit k && dueB (kd k) (fu k)))] H _
    refine evb_if_eq (t := 54) i46_22 (by decide) (fun z22 => ?_) (fun z22 => ?_)
    · refine evn_iinc (d := 1) (L' := [some (.ref a), some (.int (nI (k + 1))), some (.int (nI (sd k)))]) i46_54 rfl rfl (by decide) rfl ?_
      refine ev_goto (t := 2) i46_57 (by decide) ?_
      refine (lq46 hb ha hkd hsd d (k + 1) H fu pa (by omega) hfu ⟨m0, m1, m2, m3, m4⟩ (⟨g0, g1, g2⟩) _).post (fun r H' hq => ?_)
      obtain ⟨h1, h2, h3⟩ := hq
      have e1 : mlkF he sd kd k (fu, pa) = (fu, pa) := by
        unfold mlkF
        first | (exfalso; omega) | exact if_neg (by simp [*])
      refine ⟨h1, ?_, hO.trans h3 (fun _ h => h) (fun _ h => h)⟩
      show MdwAt H' a cl ce (upto (mlkF he sd kd) d (k + 1) (mlkF he sd kd k (fu, pa))).1 (upto (mlkF he sd kd) d (k + 1) (mlkF he sd kd k (fu, pa))).2 he sn ho wa
      rw [e1]
      exact h2
    · refine ev_iload_n i46_25 rfl ?_
      refine ev_callS (vs := [.int (nI (sd k))]) (rest := []) i46_26 ci46 lk3_84 (Or.inr rfl) np97 (by decide +kernel) (Nat.le_of_ble_eq_true rfl) ⟨rfl, rfl, Nat.le_of_ble_eq_true rfl⟩ rfl (c97n (by omega)) (fun r HH hq => ?_)
      obtain ⟨rfl, rfl⟩ := hq
      show Ev tb 46 29 [some (.ref a), some (.int (nI k)), some (.int (nI (sd k)))] [.int (bI (decide (sd k < 2)))] H _
      refine evd_if_eq (t := 54) i46_29 (by decide) (fun z29 => ?_) (fun z29 => ?_)
      · refine evn_iinc (d := 1) (L' := [some (.ref a), some (.int (nI (k + 1))), some (.int (nI (sd k)))]) i46_54 rfl rfl (by decide) rfl ?_
        refine ev_goto (t := 2) i46_57 (by decide) ?_
        refine (lq46 hb ha hkd hsd d (k + 1) H fu pa (by omega) hfu ⟨m0, m1, m2, m3, m4⟩ (⟨g0, g1, g2⟩) _).post (fun r H' hq => ?_)
        obtain ⟨h1, h2, h3⟩ := hq
        have e1 : mlkF he sd kd k (fu, pa) = (fu, pa) := by
          unfold mlkF
          first | (exfalso; omega) | exact if_neg (by simp [*])
        refine ⟨h1, ?_, hO.trans h3 (fun _ h => h) (fun _ h => h)⟩
        show MdwAt H' a cl ce (upto (mlkF he sd kd) d (k + 1) (mlkF he sd kd k (fu, pa))).1 (upto (mlkF he sd kd) d (k + 1) (mlkF he sd kd k (fu, pa))).2 he sn ho wa
        rw [e1]
        exact h2
      · refine ev_aload_n i46_32 rfl ?_
        refine ev_get i46_33 ci46 fl3_21 (by assumption) rfl ?_
        refine ev_iload_n i46_36 rfl ?_
        refine ev_dup2 i46_37 rfl rfl ?_
        refine ev_iald_n i46_38 (by assumption) (by omega) ?_
        refine ev_aload_n i46_39 rfl ?_
        refine ev_get i46_40 ci46 fl3_18 (by assumption) rfl ?_
        refine ev_iload_n i46_43 rfl ?_
        refine ev_iald_n i46_44 (by assumption) (by omega) ?_
        refine ev_iadd i46_45 ?_
        refine evs_iastw i46_46 (by assumption) (by omega) (fun H1 hH1 => ?_)
        have m0 : H1[a]? = some (.inr (3, [.ref 3, .ref (a + 1), .ref (a + 2), .ref (a + 3), .ref (a + 4), .int (nI he), .int (bI sn), .int ho, .int wa])) := by rw [hH1]; exact set_ne m0 (by omega)
        have m1 : H1[a + 1]? = some (IA 10 cl) := by rw [hH1]; exact set_ne m1 (by omega)
        have m2 : H1[a + 2]? = some (IA 6 ce) := by rw [hH1]; exact set_ne m2 (by omega)
        have m3 : H1[a + 3]? = some (IA 6 fu) := by rw [hH1]; exact set_ne m3 (by omega)
        have m4 : H1[a + 4]? = some (.inl (0, 2, .inl (upd pa (sd k) ((pa (sd k)) + (nI (fu k)))))) := by rw [hH1]; exact set_self m4
        have g0 : H1[3]? = some (.inr (2, [.ref 4, .ref 5, .int (nI n)])) := by rw [hH1]; exact set_ne g0 (by omega)
        have g1 : H1[4]? = some (IA 6 sd) := by rw [hH1]; exact set_ne g1 (by omega)
        have g2 : H1[5]? = some (IA 6 kd) := by rw [hH1]; exact set_ne g2 (by omega)
        have hO : Off (mdC a) H H1 := by rw [hH1]; exact hO.set (by exact ⟨by omega, by omega⟩)
        refine ev_aload_n i46_47 rfl ?_
        refine ev_get i46_48 ci46 fl3_18 (by assumption) rfl ?_
        refine ev_iload_n i46_51 rfl ?_
        refine ev_iconst (v := nI 0) i46_52 (by decide) ?_
        refine evs_iastn i46_53 (by assumption) (by omega) (fun H2 hH2 => ?_)
        have m0 : H2[a]? = some (.inr (3, [.ref 3, .ref (a + 1), .ref (a + 2), .ref (a + 3), .ref (a + 4), .int (nI he), .int (bI sn), .int ho, .int wa])) := by rw [hH2]; exact set_ne m0 (by omega)
        have m1 : H2[a + 1]? = some (IA 10 cl) := by rw [hH2]; exact set_ne m1 (by omega)
        have m2 : H2[a + 2]? = some (IA 6 ce) := by rw [hH2]; exact set_ne m2 (by omega)
        have m3 : H2[a + 3]? = some (IA 6 (updN fu k 0)) := by rw [hH2]; exact set_self m3
        have m4 : H2[a + 4]? = some (.inl (0, 2, .inl (upd pa (sd k) ((pa (sd k)) + (nI (fu k)))))) := by rw [hH2]; exact set_ne m4 (by omega)
        have g0 : H2[3]? = some (.inr (2, [.ref 4, .ref 5, .int (nI n)])) := by rw [hH2]; exact set_ne g0 (by omega)
        have g1 : H2[4]? = some (IA 6 sd) := by rw [hH2]; exact set_ne g1 (by omega)
        have g2 : H2[5]? = some (IA 6 kd) := by rw [hH2]; exact set_ne g2 (by omega)
        have hO : Off (mdC a) H H2 := by rw [hH2]; exact hO.set (by exact ⟨by omega, by omega⟩)
        refine evn_iinc (d := 1) (L' := [some (.ref a), some (.int (nI (k + 1))), some (.int (nI (sd k)))]) i46_54 rfl rfl (by decide) rfl ?_
        refine ev_goto (t := 2) i46_57 (by decide) ?_
        refine (lq46 hb ha hkd hsd d (k + 1) H2 (updN fu k 0) (upd pa (sd k) (pa (sd k) + nI (fu k))) (by omega) (updN_lt hfu (by decide)) ⟨m0, m1, m2, m3, m4⟩ (⟨g0, g1, g2⟩) _).post (fun r H' hq => ?_)
        obtain ⟨h1, h2, h3⟩ := hq
        have e1 : mlkF he sd kd k (fu, pa) = ((updN fu k 0), (upd pa (sd k) (pa (sd k) + nI (fu k)))) := by
          unfold mlkF
          exact if_pos (by assumption)
        refine ⟨h1, ?_, hO.trans h3 (fun _ h => h) (fun _ h => h)⟩
        show MdwAt H' a cl ce (upto (mlkF he sd kd) d (k + 1) (mlkF he sd kd k (fu, pa))).1 (upto (mlkF he sd kd) d (k + 1) (mlkF he sd kd k (fu, pa))).2 he sn ho wa
        rw [e1]
        exact h2
theorem c46 {tb : dxT} {H : dxH} {a n : Nat} {sd kd cl ce fu : Nat → Nat} {pa : Nat → Int32} {he : Nat} {sn : Bool} {ho wa : Int32} (hM : MdwAt H a cl ce fu pa he sn ho wa) (hH : HrdAt H n sd kd) (hb : he < 64) (ha : 6 ≤ a) (hfu : ∀ j, fu j < 10) (hkd : ∀ j, kd j < 4) (hsd : ∀ j, sd j < 2) : Cl tb 46 [.ref a] H (fun r H' => r = none ∧ MdwAt H' a cl ce (upto (mlkF he sd kd) 6 0 (fu, pa)).1 (upto (mlkF he sd kd) 6 0 (fu, pa)).2 he sn ho wa ∧ Off (mdC a) H H') := by
  show Ev tb 46 0 [some (.ref a), none, none] [] H _
  refine ev_iconst (v := nI 0) i46_0 (by decide) ?_
  refine ev_istore_n (L' := [some (.ref a), some (.int (nI 0)), none]) i46_1 ⟨Nat.le_of_ble_eq_true rfl, rfl⟩ rfl ?_
  exact lq46 hb ha hkd hsd 6 0 H fu pa rfl hfu hM hH _
theorem lq47 {tb : dxT} {a n : Nat} {sd kd ce : Nat → Nat} {pa : Nat → Int32} {he : Nat} {sn : Bool} {ho wa : Int32} (hb : he < 64) (ha : 6 ≤ a) (hce : ∀ j, ce j < 10) : ∀ (d k : Nat) (H : dxH) (cl fu : Nat → Nat), k + d = 6 → (∀ j, cl j < 10) → (∀ j, fu j < 10) → MdwAt H a cl ce fu pa he sn ho wa → HrdAt H n sd kd → ∀ v2 v3 v4, Ev tb 47 2 [some (.ref a), some (.int (nI k)), v2, v3, v4] [] H (fun r H' => r = none ∧ MdwAt H' a (upto (eatF he ce) d k (cl, fu)).1 ce (upto (eatF he ce) d k (cl, fu)).2 pa he sn ho wa ∧ Off (mdC a) H H')
  | 0, k, H, cl, fu, hk, hcl, hfu, hM, hH, v2, v3, v4 => by
    obtain rfl : k = 6 := by omega
    refine ev_iload_n i47_2 rfl ?_
    refine ev_bipush (v := nI 6) i47_3 (by decide) ?_
    refine evn_icmp_ge (t := 70) i47_5 (by decide) (by omega) (fun c5 => ?_) (fun c5 => by exfalso; omega)
    refine ev_vret i47_70 (by decide +kernel) ?_
    exact ⟨rfl, hM, Off.rf⟩
  | d + 1, k, H, cl, fu, hk, hcl, hfu, hM, hH, v2, v3, v4 => by
    obtain ⟨m0, m1, m2, m3, m4⟩ := id hM
    obtain ⟨g0, g1, g2⟩ := id hH
    have hO : Off (mdC a) H H := Off.rf
    have hek := hce k
    have hfk := hfu k
    have hck := hcl (ce k)
    by_cases hbt : he.testBit k = true
    · refine ev_iload_n i47_2 rfl ?_
      refine ev_bipush (v := nI 6) i47_3 (by decide) ?_
      refine evn_icmp_ge (t := 70) i47_5 (by decide) (by omega) (fun z5 => by exfalso; omega) (fun z5 => ?_)
      refine ev_aload_n i47_8 rfl ?_
      refine ev_iload_n i47_9 rfl ?_
      refine ev_callV (vs := [.int (nI k)]) (rest := []) i47_10 ci47 lk3_109 (congrArg (fun q => q + 1) np25) ci25 (by decide) (by decide +kernel) (Nat.le_of_ble_eq_true rfl) ⟨rfl, rfl, Nat.le_of_ble_eq_true rfl⟩ rfl (by assumption) (c25t (by assumption) hb ha (by omega) (by assumption)) (fun r HH hq => ?_)
      obtain ⟨rfl, rfl⟩ := hq
      show Ev tb 47 13 [some (.ref a), some (.int (nI k)), v2, v3, v4] [.int (nI (ce k))] H _
      refine ev_istore_n (L' := [some (.ref a), some (.int (nI k)), some (.int (nI (ce k))), v3, v4]) i47_13 ⟨Nat.le_of_ble_eq_true rfl, rfl⟩ rfl ?_
      refine ev_aload_n i47_14 rfl ?_
      refine ev_iload_n i47_15 rfl ?_
      refine ev_callV (vs := [.int (nI (ce k))]) (rest := []) i47_16 ci47 lk3_112 (congrArg (fun q => q + 1) np31) ci31 (by decide) (by decide +kernel) (Nat.le_of_ble_eq_true rfl) ⟨rfl, rfl, Nat.le_of_ble_eq_true rfl⟩ rfl (by assumption) (c31 (by assumption) hb ha (by omega)) (fun r HH hq => ?_)
      obtain ⟨rfl, rfl⟩ := hq
      show Ev tb 47 19 [some (.ref a), some (.int (nI k)), some (.int (nI (ce k))), v3, v4] [.int (nI (cl (ce k)))] H _
      refine ev_istore_n (L' := [some (.ref a), some (.int (nI k)), some (.int (nI (ce k))), some (.int (nI (cl (ce k)))), v4]) i47_19 ⟨Nat.le_of_ble_eq_true rfl, rfl⟩ rfl ?_
      refine ev_iload_n i47_20 rfl ?_
      refine evn_if_le (t := 64) i47_21 (by decide) (by omega) (fun z21 => ?_) (fun z21 => ?_)
      · refine evn_iinc (d := 1) (L' := [some (.ref a), some (.int (nI (k + 1))), some (.int (nI (ce k))), some (.int (nI (cl (ce k)))), v4]) i47_64 rfl rfl (by decide) rfl ?_
        refine ev_goto (t := 2) i47_67 (by decide) ?_
        refine (lq47 hb ha hce d (k + 1) H cl fu (by omega) hcl hfu ⟨m0, m1, m2, m3, m4⟩ ⟨g0, g1, g2⟩ _ _ _).post (fun r H' hq => ?_)
        obtain ⟨h1, h2, h3⟩ := hq
        have e1 : eatF he ce k (cl, fu) = (cl, fu) := by
          unfold eatF
          exact if_neg (by first | (intro q; have := q.2; omega) | simp [*])
        refine ⟨h1, ?_, hO.trans h3 (fun _ h => h) (fun _ h => h)⟩
        show MdwAt H' a (upto (eatF he ce) d (k + 1) (eatF he ce k (cl, fu))).1 ce (upto (eatF he ce) d (k + 1) (eatF he ce k (cl, fu))).2 pa he sn ho wa
        rw [e1]
        exact h2
      · refine ev_aload_n i47_24 rfl ?_
        refine ev_iload_n i47_25 rfl ?_
        refine ev_iload_n i47_26 rfl ?_
        refine ev_iconst (v := nI 1) i47_27 (by decide) ?_
        refine evn_isub i47_28 (by omega) ?_
        refine ev_callV (vs := [.int (nI (ce k)), .int (nI ((cl (ce k)) - 1))]) (rest := []) i47_29 ci47 lk3_115 (congrArg (fun q => q + 1) np32) ci32 (by decide) (by decide +kernel) (Nat.le_of_ble_eq_true rfl) ⟨rfl, rfl, Nat.le_of_ble_eq_true rfl⟩ rfl (by assumption) (c32 (by assumption) hb ha (by omega)) (fun r H1 hq => ?_)
        obtain ⟨rfl, hM, hO1⟩ := hq
        obtain ⟨m0, m1, m2, m3, m4⟩ := id hM
        have hO : Off (mdC a) H H1 := hO.trans hO1 (fun _ h => h) (fun _ h => h)
        have hH := hH.off hO1 (fun q => by have := q.1; omega) (fun q => by have := q.1; omega) (fun q => by have := q.1; omega)
        obtain ⟨g0, g1, g2⟩ := id hH
        show Ev tb 47 32 [some (.ref a), some (.int (nI k)), some (.int (nI (ce k))), some (.int (nI (cl (ce k)))), v4] [] H1 _
        refine ev_aload_n i47_32 rfl ?_
        refine ev_get i47_33 ci47 fl3_18 (by assumption) rfl ?_
        refine ev_iload_n i47_36 rfl ?_
        refine ev_iald_n i47_37 (by assumption) (by omega) ?_
        refine ev_iload_n i47_38 rfl ?_
        refine ev_iconst (v := nI 5) i47_39 (by decide) ?_
        refine evn_icmp_lt (t := 47) i47_40 (by decide) (by omega) (fun z40 => ?_) (fun z40 => ?_)
        · refine ev_iconst (v := nI 1) i47_47 (by decide) ?_
          refine evn_iadd i47_48 ?_
          refine ev_istore (L' := [some (.ref a), some (.int (nI k)), some (.int (nI (ce k))), some (.int (nI (cl (ce k)))), some (.int (nI ((fu k) + 1)))]) i47_49 ⟨Nat.le_of_ble_eq_true rfl, rfl⟩ rfl ?_
          refine ev_aload_n i47_51 rfl ?_
          refine ev_get i47_52 ci47 fl3_18 (by assumption) rfl ?_
          refine ev_iload_n i47_55 rfl ?_
          refine ev_iload i47_56 rfl ?_
          refine ev_bipush (v := nI 9) i47_58 (by decide) ?_
          refine evn_min i47_60 ci47 lk3_118 (by decide +kernel) rfl (by omega) ?_
          refine evs_iastn i47_63 (by assumption) (by omega) (fun H2 hH2 => ?_)
          have m0 : H2[a]? = some (.inr (3, [.ref 3, .ref (a + 1), .ref (a + 2), .ref (a + 3), .ref (a + 4), .int (nI he), .int (bI sn), .int ho, .int wa])) := by rw [hH2]; exact set_ne m0 (by omega)
          have m1 : H2[a + 1]? = some (IA 10 (updN cl (ce k) ((cl (ce k)) - 1))) := by rw [hH2]; exact set_ne m1 (by omega)
          have m2 : H2[a + 2]? = some (IA 6 ce) := by rw [hH2]; exact set_ne m2 (by omega)
          have m3 : H2[a + 3]? = some (IA 6 (updN fu k (if 9 < ((fu k) + 1) then 9 else ((fu k) + 1)))) := by rw [hH2]; exact set_self m3
          have m4 : H2[a + 4]? = some (.inl (0, 2, .inl pa)) := by rw [hH2]; exact set_ne m4 (by omega)
          have g0 : H2[3]? = some (.inr (2, [.ref 4, .ref 5, .int (nI n)])) := by rw [hH2]; exact set_ne g0 (by omega)
          have g1 : H2[4]? = some (IA 6 sd) := by rw [hH2]; exact set_ne g1 (by omega)
          have g2 : H2[5]? = some (IA 6 kd) := by rw [hH2]; exact set_ne g2 (by omega)
          have hO : Off (mdC a) H H2 := by rw [hH2]; exact hO.set (by exact ⟨by omega, by omega⟩)
          refine evn_iinc (d := 1) (L' := [some (.ref a), some (.int (nI (k + 1))), some (.int (nI (ce k))), some (.int (nI (cl (ce k)))), some (.int (nI ((fu k) + 1)))]) i47_64 rfl rfl (by decide) rfl ?_
          refine ev_goto (t := 2) i47_67 (by decide) ?_
          refine (lq47 hb ha hce d (k + 1) H2 (updN cl (ce k) (cl (ce k) - 1)) (updN fu k (if 9 < fu k + 1 then 9 else fu k + 1)) (by omega) (updN_lt hcl (by omega)) (updN_lt hfu (by split <;> omega)) ⟨m0, m1, m2, m3, m4⟩ ⟨g0, g1, g2⟩ _ _ _).post (fun r H' hq => ?_)
          obtain ⟨h1, h2, h3⟩ := hq
          have e1 : eatF he ce k (cl, fu) = ((updN cl (ce k) (cl (ce k) - 1)), (updN fu k (if 9 < fu k + 1 then 9 else fu k + 1))) := by
            unfold eatF
            have z5 : (if 5 ≤ cl (ce k) then 2 else 1) = 1 := by split <;> omega
            rw [if_pos ⟨hbt, by omega⟩]
            simp only [z5]
          refine ⟨h1, ?_, hO.trans h3 (fun _ h => h) (fun _ h => h)⟩
          show MdwAt H' a (upto (eatF he ce) d (k + 1) (eatF he ce k (cl, fu))).1 ce (upto (eatF he ce) d (k + 1) (eatF he ce k (cl, fu))).2 pa he sn ho wa
          rw [e1]
          exact h2
        · refine ev_iconst (v := nI 2) i47_43 (by decide) ?_
          refine ev_goto (t := 48) i47_44 (by decide) ?_
          refine evn_iadd i47_48 ?_
          refine ev_istore (L' := [some (.ref a), some (.int (nI k)), some (.int (nI (ce k))), some (.int (nI (cl (ce k)))), some (.int (nI ((fu k) + 2)))]) i47_49 ⟨Nat.le_of_ble_eq_true rfl, rfl⟩ rfl ?_
          refine ev_aload_n i47_51 rfl ?_
          refine ev_get i47_52 ci47 fl3_18 (by assumption) rfl ?_
          refine ev_iload_n i47_55 rfl ?_
          refine ev_iload i47_56 rfl ?_
          refine ev_bipush (v := nI 9) i47_58 (by decide) ?_
          refine evn_min i47_60 ci47 lk3_118 (by decide +kernel) rfl (by omega) ?_
          refine evs_iastn i47_63 (by assumption) (by omega) (fun H2 hH2 => ?_)
          have m0 : H2[a]? = some (.inr (3, [.ref 3, .ref (a + 1), .ref (a + 2), .ref (a + 3), .ref (a + 4), .int (nI he), .int (bI sn), .int ho, .int wa])) := by rw [hH2]; exact set_ne m0 (by omega)
          have m1 : H2[a + 1]? = some (IA 10 (updN cl (ce k) ((cl (ce k)) - 1))) := by rw [hH2]; exact set_ne m1 (by omega)
          have m2 : H2[a + 2]? = some (IA 6 ce) := by rw [hH2]; exact set_ne m2 (by omega)
          have m3 : H2[a + 3]? = some (IA 6 (updN fu k (if 9 < ((fu k) + 2) then 9 else ((fu k) + 2)))) := by rw [hH2]; exact set_self m3
          have m4 : H2[a + 4]? = some (.inl (0, 2, .inl pa)) := by rw [hH2]; exact set_ne m4 (by omega)
          have g0 : H2[3]? = some (.inr (2, [.ref 4, .ref 5, .int (nI n)])) := by rw [hH2]; exact set_ne g0 (by omega)
          have g1 : H2[4]? = some (IA 6 sd) := by rw [hH2]; exact set_ne g1 (by omega)
          have g2 : H2[5]? = some (IA 6 kd) := by rw [hH2]; exact set_ne g2 (by omega)
          have hO : Off (mdC a) H H2 := by rw [hH2]; exact hO.set (by exact ⟨by omega, by omega⟩)
          refine evn_iinc (d := 1) (L' := [some (.ref a), some (.int (nI (k + 1))), some (.int (nI (ce k))), some (.int (nI (cl (ce k)))), some (.int (nI ((fu k) + 2)))]) i47_64 rfl rfl (by decide) rfl ?_
          refine ev_goto (t := 2) i47_67 (by decide) ?_
          refine (lq47 hb ha hce d (k + 1) H2 (updN cl (ce k) (cl (ce k) - 1)) (updN fu k (if 9 < fu k + 2 then 9 else fu k + 2)) (by omega) (updN_lt hcl (by omega)) (updN_lt hfu (by split <;> omega)) ⟨m0, m1, m2, m3, m4⟩ ⟨g0, g1, g2⟩ _ _ _).post (fun r H' hq => ?_)
          obtain ⟨h1, h2, h3⟩ := hq
          have e1 : eatF he ce k (cl, fu) = ((updN cl (ce k) (cl (ce k) - 1)), (updN fu k (if 9 < fu k + 2 then 9 else fu k + 2))) := by
            unfold eatF
            have z5 : (if 5 ≤ cl (ce k) then 2 else 1) = 2 := by split <;> omega
            rw [if_pos ⟨hbt, by omega⟩]
            simp only [z5]
          refine ⟨h1, ?_, hO.trans h3 (fun _ h => h) (fun _ h => h)⟩
          show MdwAt H' a (upto (eatF he ce) d (k + 1) (eatF he ce k (cl, fu))).1 ce (upto (eatF he ce) d (k + 1) (eatF he ce k (cl, fu))).2 pa he sn ho wa
          rw [e1]
          exact h2
    · have hbf : he.testBit k = false := by simpa using hbt
      refine ev_iload_n i47_2 rfl ?_
      refine ev_bipush (v := nI 6) i47_3 (by decide) ?_
      refine evn_icmp_ge (t := 70) i47_5 (by decide) (by omega) (fun z5 => by exfalso; omega) (fun z5 => ?_)
      refine ev_aload_n i47_8 rfl ?_
      refine ev_iload_n i47_9 rfl ?_
      refine ev_callV (vs := [.int (nI k)]) (rest := []) i47_10 ci47 lk3_109 (congrArg (fun q => q + 1) np25) ci25 (by decide) (by decide +kernel) (Nat.le_of_ble_eq_true rfl) ⟨rfl, rfl, Nat.le_of_ble_eq_true rfl⟩ rfl (by assumption) (c25f (by assumption) hb ha (by omega) (by assumption)) (fun r HH hq => ?_)
      obtain ⟨rfl, rfl⟩ := hq
      show Ev tb 47 13 [some (.ref a), some (.int (nI k)), v2, v3, v4] [.int (-9)] H _
      refine ev_istore_n (L' := [some (.ref a), some (.int (nI k)), some (.int (-9)), v3, v4]) i47_13 ⟨Nat.le_of_ble_eq_true rfl, rfl⟩ rfl ?_
      refine ev_aload_n i47_14 rfl ?_
      refine ev_iload_n i47_15 rfl ?_
      refine ev_callV (vs := [.int (-9)]) (rest := []) i47_16 ci47 lk3_112 (congrArg (fun q => q + 1) np31) ci31 (by decide) (by decide +kernel) (Nat.le_of_ble_eq_true rfl) ⟨rfl, rfl, Nat.le_of_ble_eq_true rfl⟩ rfl (by assumption) (c31f (by assumption) hb ha) (fun r HH hq => ?_)
      obtain ⟨rfl, rfl⟩ := hq
      show Ev tb 47 19 [some (.ref a), some (.int (nI k)), some (.int (-9)), v3, v4] [.int (nI 0)] H _
      refine ev_istore_n (L' := [some (.ref a), some (.int (nI k)), some (.int (-9)), some (.int (nI 0)), v4]) i47_19 ⟨Nat.le_of_ble_eq_true rfl, rfl⟩ rfl ?_
      refine ev_iload_n i47_20 rfl ?_
      refine evn_if_le (t := 64) i47_21 (by decide) (by omega) (fun z21 => ?_) (fun z21 => by exfalso; omega)
      refine evn_iinc (d := 1) (L' := [some (.ref a), some (.int (nI (k + 1))), some (.int (-9)), some (.int (nI 0)), v4]) i47_64 rfl rfl (by decide) rfl ?_
      refine ev_goto (t := 2) i47_67 (by decide) ?_
      refine (lq47 hb ha hce d (k + 1) H cl fu (by omega) hcl hfu ⟨m0, m1, m2, m3, m4⟩ ⟨g0, g1, g2⟩ _ _ _).post (fun r H' hq => ?_)
      obtain ⟨h1, h2, h3⟩ := hq
      have e1 : eatF he ce k (cl, fu) = (cl, fu) := by
        unfold eatF
        exact if_neg (by first | (intro q; have := q.2; omega) | simp [*])
      refine ⟨h1, ?_, hO.trans h3 (fun _ h => h) (fun _ h => h)⟩
      show MdwAt H' a (upto (eatF he ce) d (k + 1) (eatF he ce k (cl, fu))).1 ce (upto (eatF he ce) d (k + 1) (eatF he ce k (cl, fu))).2 pa he sn ho wa
      rw [e1]
      exact h2
theorem c47 {tb : dxT} {H : dxH} {a n : Nat} {sd kd cl ce fu : Nat → Nat} {pa : Nat → Int32} {he : Nat} {sn : Bool} {ho wa : Int32} (hM : MdwAt H a cl ce fu pa he sn ho wa) (hH : HrdAt H n sd kd) (hb : he < 64) (ha : 6 ≤ a) (hfu : ∀ j, fu j < 10) (hcl : ∀ j, cl j < 10) (hce : ∀ j, ce j < 10) : Cl tb 47 [.ref a] H (fun r H' => r = none ∧ MdwAt H' a (upto (eatF he ce) 6 0 (cl, fu)).1 ce (upto (eatF he ce) 6 0 (cl, fu)).2 pa he sn ho wa ∧ Off (mdC a) H H') := by
  show Ev tb 47 0 [some (.ref a), none, none, none, none] [] H _
  refine ev_iconst (v := nI 0) i47_0 (by decide) ?_
  refine ev_istore_n (L' := [some (.ref a), some (.int (nI 0)), none, none, none]) i47_1 ⟨Nat.le_of_ble_eq_true rfl, rfl⟩ rfl ?_
  exact lq47 hb ha hce 6 0 H cl fu rfl hcl hfu hM hH _ _ _
abbrev Hs : Type := (Nat → Nat) × (Nat → Nat) × (Nat → Int32) × Int32 × Int32
/-- an hour: clover, how full, pails, hours, hours of war -/
def hrF (he : Nat) (sd kd ce : Nat → Nat) (sn rg : Bool) (x : Hs) : Hs :=
  ((if srtF he kd x.2.1 sn rg = 3 then (x.1, (if srtF he kd x.2.1 sn rg = 1 then upto (mlkF he sd kd) 6 0 (x.2.1, x.2.2.1) else (x.2.1, x.2.2.1)).1) else upto (eatF he ce) 6 0 (x.1, (if srtF he kd x.2.1 sn rg = 1 then upto (mlkF he sd kd) 6 0 (x.2.1, x.2.2.1) else (x.2.1, x.2.2.1)).1)).1,
   (if srtF he kd x.2.1 sn rg = 3 then (x.1, (if srtF he kd x.2.1 sn rg = 1 then upto (mlkF he sd kd) 6 0 (x.2.1, x.2.2.1) else (x.2.1, x.2.2.1)).1) else upto (eatF he ce) 6 0 (x.1, (if srtF he kd x.2.1 sn rg = 1 then upto (mlkF he sd kd) 6 0 (x.2.1, x.2.2.1) else (x.2.1, x.2.2.1)).1)).2,
   (if srtF he kd x.2.1 sn rg = 1 then upto (mlkF he sd kd) 6 0 (x.2.1, x.2.2.1) else (x.2.1, x.2.2.1)).2,
   x.2.2.2.1 + nI 1, if srtF he kd x.2.1 sn rg = 0 then x.2.2.2.2 + nI 1 else x.2.2.2.2)
def Vn (m : Nat) (f : Nat → Nat) : Prop := ∀ j, m ≤ j → f j = 0
def Vi (m : Nat) (f : Nat → Int32) : Prop := ∀ j, m ≤ j → f j = 0
def SOK (x : Hs) : Prop := (∀ j, x.1 j < 10) ∧ (∀ j, x.2.1 j < 10) ∧ Vn 10 x.1 ∧ Vn 6 x.2.1 ∧ Vi 2 x.2.2.1
theorem Vn.up {m k v : Nat} {f : Nat → Nat} (h : Vn m f) (hk : k < m) : Vn m (updN f k v) := fun j hj => by
  unfold updN
  rw [if_neg (by omega)]
  exact h j hj
theorem Vi.up {m k : Nat} {v : Int32} {f : Nat → Int32} (h : Vi m f) (hk : k < m) : Vi m (upd f k v) := fun j hj => by
  unfold upd
  rw [if_neg (by omega)]
  exact h j hj
theorem upto_inv {α : Type} {f : Nat → α → α} {P : α → Prop} {N : Nat} (hf : ∀ k x, k < N → P x → P (f k x)) : ∀ (d k : Nat) (x : α), k + d ≤ N → P x → P (upto f d k x)
  | 0, _, _, _, h => h
  | d + 1, k, x, hk, h => upto_inv hf d (k + 1) (f k x) (by omega) (hf k x (by omega) h)
theorem mlk_lt {he : Nat} {sd kd : Nat → Nat} : ∀ (d k : Nat) (x : (Nat → Nat) × (Nat → Int32)), (∀ j, x.1 j < 10) → ∀ j, (upto (mlkF he sd kd) d k x).1 j < 10
  | 0, _, _, h => h
  | d + 1, k, x, h => by
    unfold upto
    refine mlk_lt d (k + 1) _ ?_
    unfold mlkF
    split
    · exact updN_lt h (by decide)
    · exact h
theorem eat_lt {he : Nat} {ce : Nat → Nat} : ∀ (d k : Nat) (x : (Nat → Nat) × (Nat → Nat)), (∀ j, x.1 j < 10) → (∀ j, x.2 j < 10) → (∀ j, (upto (eatF he ce) d k x).1 j < 10) ∧ ∀ j, (upto (eatF he ce) d k x).2 j < 10
  | 0, _, _, h, h2 => ⟨h, h2⟩
  | d + 1, k, x, h, h2 => by
    unfold upto
    have := h (ce k)
    unfold eatF
    split
    · refine eat_lt d (k + 1) _ (updN_lt h (by omega)) (updN_lt h2 ?_)
      repeat' split
      all_goals omega
    · exact eat_lt d (k + 1) _ h h2
theorem mlk_vn {he : Nat} {sd kd : Nat → Nat} (hsd : ∀ j, sd j < 2) (x : (Nat → Nat) × (Nat → Int32)) (h : Vn 6 x.1 ∧ Vi 2 x.2) : Vn 6 (upto (mlkF he sd kd) 6 0 x).1 ∧ Vi 2 (upto (mlkF he sd kd) 6 0 x).2 := by
  refine upto_inv (N := 6) (P := fun x => Vn 6 x.1 ∧ Vi 2 x.2) (fun k x hk h => ?_) 6 0 x (by decide) h
  unfold mlkF
  split
  · exact ⟨h.1.up hk, h.2.up (hsd k)⟩
  · exact h
theorem eat_vn {he : Nat} {ce : Nat → Nat} (hce : ∀ j, ce j < 10) (x : (Nat → Nat) × (Nat → Nat)) (h : Vn 10 x.1 ∧ Vn 6 x.2) : Vn 10 (upto (eatF he ce) 6 0 x).1 ∧ Vn 6 (upto (eatF he ce) 6 0 x).2 := by
  refine upto_inv (N := 6) (P := fun x => Vn 10 x.1 ∧ Vn 6 x.2) (fun k x hk h => ?_) 6 0 x (by decide) h
  unfold eatF
  split
  · exact ⟨h.1.up (hce k), h.2.up hk⟩
  · exact h
theorem hrF_ok {he : Nat} {sd kd ce : Nat → Nat} {sn rg : Bool} (hce : ∀ j, ce j < 10) (hsd : ∀ j, sd j < 2) {x : Hs} (h : SOK x) : SOK (hrF he sd kd ce sn rg x) := by
  obtain ⟨h1, h2, h3, h4, h5⟩ := h
  have hm : ∀ j, (if srtF he kd x.2.1 sn rg = 1 then upto (mlkF he sd kd) 6 0 (x.2.1, x.2.2.1) else (x.2.1, x.2.2.1)).1 j < 10 := by
    split
    · exact mlk_lt 6 0 _ h2
    · exact h2
  have hv : Vn 6 (if srtF he kd x.2.1 sn rg = 1 then upto (mlkF he sd kd) 6 0 (x.2.1, x.2.2.1) else (x.2.1, x.2.2.1)).1 ∧ Vi 2 (if srtF he kd x.2.1 sn rg = 1 then upto (mlkF he sd kd) 6 0 (x.2.1, x.2.2.1) else (x.2.1, x.2.2.1)).2 := by
    split
    · exact mlk_vn hsd _ ⟨h4, h5⟩
    · exact ⟨h4, h5⟩
  unfold SOK hrF
  dsimp only
  generalize (if srtF he kd x.2.1 sn rg = 1 then upto (mlkF he sd kd) 6 0 (x.2.1, x.2.2.1) else (x.2.1, x.2.2.1)) = y at hm hv ⊢
  split
  · exact ⟨h1, hm, h3, hv.1, hv.2⟩
  · have e1 := eat_lt (he := he) (ce := ce) 6 0 (x.1, y.1) h1 hm
    have e2 := eat_vn (he := he) hce (x.1, y.1) ⟨h3, hv.1⟩
    exact ⟨e1.1, e1.2, e2.1, e2.2, hv.2⟩
theorem c43 {tb : dxT} {H : dxH} {a n : Nat} {sd kd cl ce fu : Nat → Nat} {pa : Nat → Int32} {he : Nat} {sn rg : Bool} {ho wa : Int32} (hM : MdwAt H a cl ce fu pa he sn ho wa) (hH : HrdAt H n sd kd) (hb : he < 64) (ha : 6 ≤ a) (hfu : ∀ j, fu j < 10) (hcl : ∀ j, cl j < 10) (hce : ∀ j, ce j < 10) (hkd : ∀ j, kd j < 4) (hsd : ∀ j, sd j < 2) : Cl tb 43 [.ref a, .int (bI rg)] H (fun r H' => r = some (.int (nI (srtF he kd fu sn rg))) ∧ MdwAt H' a (hrF he sd kd ce sn rg (cl, fu, pa, ho, wa)).1 ce (hrF he sd kd ce sn rg (cl, fu, pa, ho, wa)).2.1 (hrF he sd kd ce sn rg (cl, fu, pa, ho, wa)).2.2.1 he sn (hrF he sd kd ce sn rg (cl, fu, pa, ho, wa)).2.2.2.1 (hrF he sd kd ce sn rg (cl, fu, pa, ho, wa)).2.2.2.2 ∧ Off (mdC a) H H') := by
  obtain ⟨m0, m1, m2, m3, m4⟩ := id hM
  obtain ⟨g0, g1, g2⟩ := id hH
  have hO : Off (mdC a) H H := Off.rf
  have hs4 := srtF_lt (he := he) (kd := kd) (fu := fu) (sn := sn) (rg := rg)
  show Ev tb 43 0 [some (.ref a), some (.int (bI rg)), none] [] H _
  refine ev_aload_n i43_0 rfl ?_
  refine ev_iload_n i43_1 rfl ?_
  refine ev_callV (vs := [.int (bI rg)]) (rest := []) i43_2 ci43 lk3_96 (congrArg (fun q => q + 1) np42) ci42 (by decide) (by decide +kernel) (Nat.le_of_ble_eq_true rfl) ⟨rfl, rfl, Nat.le_of_ble_eq_true rfl⟩ rfl (by assumption) (c42 (by assumption) (by assumption) hb ha hfu hkd) (fun r HH hq => ?_)
  obtain ⟨rfl, rfl⟩ := hq
  show Ev tb 43 5 [some (.ref a), some (.int (bI rg)), none] [.int (nI (srtF he kd fu sn rg))] H _
  refine ev_istore_n (L' := [some (.ref a), some (.int (bI rg)), some (.int (nI (srtF he kd fu sn rg)))]) i43_5 ⟨Nat.le_of_ble_eq_true rfl, rfl⟩ rfl ?_
  refine ev_iload_n i43_6 rfl ?_
  refine ev_iconst (v := nI 1) i43_7 (by decide) ?_
  refine evn_icmp_ne (t := 15) i43_8 (by decide) (by omega) (fun z8 => ?_) (fun z8 => ?_)
  · refine ev_iload_n i43_15 rfl ?_
    refine ev_iconst (v := nI 3) i43_16 (by decide) ?_
    refine evn_icmp_eq (t := 24) i43_17 (by decide) (by omega) (fun z17 => ?_) (fun z17 => ?_)
    · refine ev_iload_n i43_24 rfl ?_
      refine evn_if_ne (t := 38) i43_25 (by decide) (by omega) (fun z25 => ?_) (fun z25 => ?_)
      · refine ev_aload_n i43_38 rfl ?_
        refine ev_dup i43_39 rfl ?_
        refine ev_get i43_40 ci43 fl3_36 (by assumption) rfl ?_
        refine ev_iconst (v := nI 1) i43_43 (by decide) ?_
        refine ev_iadd i43_44 ?_
        refine evs_put (fs' := [.ref 3, .ref (a + 1), .ref (a + 2), .ref (a + 3), .ref (a + 4), .int (nI he), .int (bI sn), .int (ho + (nI 1)), .int wa]) i43_45 ci43 fl3_36 (by assumption) ⟨Nat.le_of_ble_eq_true rfl, rfl, Or.inl rfl⟩ rfl (fun H1 hH1 => ?_)
        have m0 : H1[a]? = some (.inr (3, [.ref 3, .ref (a + 1), .ref (a + 2), .ref (a + 3), .ref (a + 4), .int (nI he), .int (bI sn), .int (ho + (nI 1)), .int wa])) := by rw [hH1]; exact set_self m0
        have m1 : H1[a + 1]? = some (IA 10 cl) := by rw [hH1]; exact set_ne m1 (by omega)
        have m2 : H1[a + 2]? = some (IA 6 ce) := by rw [hH1]; exact set_ne m2 (by omega)
        have m3 : H1[a + 3]? = some (IA 6 fu) := by rw [hH1]; exact set_ne m3 (by omega)
        have m4 : H1[a + 4]? = some (.inl (0, 2, .inl pa)) := by rw [hH1]; exact set_ne m4 (by omega)
        have g0 : H1[3]? = some (.inr (2, [.ref 4, .ref 5, .int (nI n)])) := by rw [hH1]; exact set_ne g0 (by omega)
        have g1 : H1[4]? = some (IA 6 sd) := by rw [hH1]; exact set_ne g1 (by omega)
        have g2 : H1[5]? = some (IA 6 kd) := by rw [hH1]; exact set_ne g2 (by omega)
        have hO : Off (mdC a) H H1 := by rw [hH1]; exact hO.set (by exact ⟨by omega, by omega⟩)
        refine ev_iload_n i43_48 rfl ?_
        refine ev_iret i43_49 (by decide +kernel) ?_
        first
          | (exfalso; omega)
          | (refine ⟨rfl, ?_, hO⟩
             have e1 : hrF he sd kd ce sn rg (cl, fu, pa, ho, wa) = (cl, fu, pa, ho + (nI 1), wa) := by
               unfold hrF
               simp [z8, z17, z25]
             rw [e1]
             exact ⟨m0, m1, m2, m3, m4⟩)
      · refine ev_aload_n i43_28 rfl ?_
        refine ev_dup i43_29 rfl ?_
        refine ev_get i43_30 ci43 fl3_39 (by assumption) rfl ?_
        refine ev_iconst (v := nI 1) i43_33 (by decide) ?_
        refine ev_iadd i43_34 ?_
        refine evs_put (fs' := [.ref 3, .ref (a + 1), .ref (a + 2), .ref (a + 3), .ref (a + 4), .int (nI he), .int (bI sn), .int ho, .int (wa + (nI 1))]) i43_35 ci43 fl3_39 (by assumption) ⟨Nat.le_of_ble_eq_true rfl, rfl, Or.inl rfl⟩ rfl (fun H1 hH1 => ?_)
        have m0 : H1[a]? = some (.inr (3, [.ref 3, .ref (a + 1), .ref (a + 2), .ref (a + 3), .ref (a + 4), .int (nI he), .int (bI sn), .int ho, .int (wa + (nI 1))])) := by rw [hH1]; exact set_self m0
        have m1 : H1[a + 1]? = some (IA 10 cl) := by rw [hH1]; exact set_ne m1 (by omega)
        have m2 : H1[a + 2]? = some (IA 6 ce) := by rw [hH1]; exact set_ne m2 (by omega)
        have m3 : H1[a + 3]? = some (IA 6 fu) := by rw [hH1]; exact set_ne m3 (by omega)
        have m4 : H1[a + 4]? = some (.inl (0, 2, .inl pa)) := by rw [hH1]; exact set_ne m4 (by omega)
        have g0 : H1[3]? = some (.inr (2, [.ref 4, .ref 5, .int (nI n)])) := by rw [hH1]; exact set_ne g0 (by omega)
        have g1 : H1[4]? = some (IA 6 sd) := by rw [hH1]; exact set_ne g1 (by omega)
        have g2 : H1[5]? = some (IA 6 kd) := by rw [hH1]; exact set_ne g2 (by omega)
        have hO : Off (mdC a) H H1 := by rw [hH1]; exact hO.set (by exact ⟨by omega, by omega⟩)
        refine ev_aload_n i43_38 rfl ?_
        refine ev_dup i43_39 rfl ?_
        refine ev_get i43_40 ci43 fl3_36 (by assumption) rfl ?_
        refine ev_iconst (v := nI 1) i43_43 (by decide) ?_
        refine ev_iadd i43_44 ?_
        refine evs_put (fs' := [.ref 3, .ref (a + 1), .ref (a + 2), .ref (a + 3), .ref (a + 4), .int (nI he), .int (bI sn), .int (ho + (nI 1)), .int (wa + (nI 1))]) i43_45 ci43 fl3_36 (by assumption) ⟨Nat.le_of_ble_eq_true rfl, rfl, Or.inl rfl⟩ rfl (fun H2 hH2 => ?_)
        have m0 : H2[a]? = some (.inr (3, [.ref 3, .ref (a + 1), .ref (a + 2), .ref (a + 3), .ref (a + 4), .int (nI he), .int (bI sn), .int (ho + (nI 1)), .int (wa + (nI 1))])) := by rw [hH2]; exact set_self m0
        have m1 : H2[a + 1]? = some (IA 10 cl) := by rw [hH2]; exact set_ne m1 (by omega)
        have m2 : H2[a + 2]? = some (IA 6 ce) := by rw [hH2]; exact set_ne m2 (by omega)
        have m3 : H2[a + 3]? = some (IA 6 fu) := by rw [hH2]; exact set_ne m3 (by omega)
        have m4 : H2[a + 4]? = some (.inl (0, 2, .inl pa)) := by rw [hH2]; exact set_ne m4 (by omega)
        have g0 : H2[3]? = some (.inr (2, [.ref 4, .ref 5, .int (nI n)])) := by rw [hH2]; exact set_ne g0 (by omega)
        have g1 : H2[4]? = some (IA 6 sd) := by rw [hH2]; exact set_ne g1 (by omega)
        have g2 : H2[5]? = some (IA 6 kd) := by rw [hH2]; exact set_ne g2 (by omega)
        have hO : Off (mdC a) H H2 := by rw [hH2]; exact hO.set (by exact ⟨by omega, by omega⟩)
        refine ev_iload_n i43_48 rfl ?_
        refine ev_iret i43_49 (by decide +kernel) ?_
        first
          | (exfalso; omega)
          | (refine ⟨rfl, ?_, hO⟩
             have e1 : hrF he sd kd ce sn rg (cl, fu, pa, ho, wa) = (cl, fu, pa, ho + (nI 1), wa + (nI 1)) := by
               unfold hrF
               simp [z8, z17, z25]
             rw [e1]
             exact ⟨m0, m1, m2, m3, m4⟩)
    · refine ev_aload_n i43_20 rfl ?_
      refine ev_callV (vs := []) (rest := []) i43_21 ci43 lk3_103 (congrArg (fun q => q + 1) np47) ci47 (by decide) (by decide +kernel) (Nat.le_of_ble_eq_true rfl) ⟨rfl, rfl, Nat.le_of_ble_eq_true rfl⟩ rfl (by assumption) (c47 (by assumption) (by assumption) hb ha hfu hcl hce) (fun r H1 hq => ?_)
      obtain ⟨rfl, hM, hO1⟩ := hq
      obtain ⟨m0, m1, m2, m3, m4⟩ := id hM
      have hO : Off (mdC a) H H1 := hO.trans hO1 (fun _ h => h) (fun _ h => h)
      have hH := hH.off hO1 (fun q => by have := q.1; omega) (fun q => by have := q.1; omega) (fun q => by have := q.1; omega)
      obtain ⟨g0, g1, g2⟩ := id hH
      show Ev tb 43 24 [some (.ref a), some (.int (bI rg)), some (.int (nI (srtF he kd fu sn rg)))] [] H1 _
      refine ev_iload_n i43_24 rfl ?_
      refine evn_if_ne (t := 38) i43_25 (by decide) (by omega) (fun z25 => ?_) (fun z25 => ?_)
      · refine ev_aload_n i43_38 rfl ?_
        refine ev_dup i43_39 rfl ?_
        refine ev_get i43_40 ci43 fl3_36 (by assumption) rfl ?_
        refine ev_iconst (v := nI 1) i43_43 (by decide) ?_
        refine ev_iadd i43_44 ?_
        refine evs_put (fs' := [.ref 3, .ref (a + 1), .ref (a + 2), .ref (a + 3), .ref (a + 4), .int (nI he), .int (bI sn), .int (ho + (nI 1)), .int wa]) i43_45 ci43 fl3_36 (by assumption) ⟨Nat.le_of_ble_eq_true rfl, rfl, Or.inl rfl⟩ rfl (fun H2 hH2 => ?_)
        have m0 : H2[a]? = some (.inr (3, [.ref 3, .ref (a + 1), .ref (a + 2), .ref (a + 3), .ref (a + 4), .int (nI he), .int (bI sn), .int (ho + (nI 1)), .int wa])) := by rw [hH2]; exact set_self m0
        have m1 : H2[a + 1]? = some (IA 10 ((upto (eatF he ce) 6 0 (cl, fu)).1)) := by rw [hH2]; exact set_ne m1 (by omega)
        have m2 : H2[a + 2]? = some (IA 6 ce) := by rw [hH2]; exact set_ne m2 (by omega)
        have m3 : H2[a + 3]? = some (IA 6 ((upto (eatF he ce) 6 0 (cl, fu)).2)) := by rw [hH2]; exact set_ne m3 (by omega)
        have m4 : H2[a + 4]? = some (.inl (0, 2, .inl pa)) := by rw [hH2]; exact set_ne m4 (by omega)
        have g0 : H2[3]? = some (.inr (2, [.ref 4, .ref 5, .int (nI n)])) := by rw [hH2]; exact set_ne g0 (by omega)
        have g1 : H2[4]? = some (IA 6 sd) := by rw [hH2]; exact set_ne g1 (by omega)
        have g2 : H2[5]? = some (IA 6 kd) := by rw [hH2]; exact set_ne g2 (by omega)
        have hO : Off (mdC a) H H2 := by rw [hH2]; exact hO.set (by exact ⟨by omega, by omega⟩)
        refine ev_iload_n i43_48 rfl ?_
        refine ev_iret i43_49 (by decide +kernel) ?_
        first
          | (exfalso; omega)
          | (refine ⟨rfl, ?_, hO⟩
             have e1 : hrF he sd kd ce sn rg (cl, fu, pa, ho, wa) = ((upto (eatF he ce) 6 0 (cl, fu)).1, (upto (eatF he ce) 6 0 (cl, fu)).2, pa, ho + (nI 1), wa) := by
               unfold hrF
               simp [z8, z17, z25]
             rw [e1]
             exact ⟨m0, m1, m2, m3, m4⟩)
      · refine ev_aload_n i43_28 rfl ?_
        refine ev_dup i43_29 rfl ?_
        refine ev_get i43_30 ci43 fl3_39 (by assumption) rfl ?_
        refine ev_iconst (v := nI 1) i43_33 (by decide) ?_
        refine ev_iadd i43_34 ?_
        refine evs_put (fs' := [.ref 3, .ref (a + 1), .ref (a + 2), .ref (a + 3), .ref (a + 4), .int (nI he), .int (bI sn), .int ho, .int (wa + (nI 1))]) i43_35 ci43 fl3_39 (by assumption) ⟨Nat.le_of_ble_eq_true rfl, rfl, Or.inl rfl⟩ rfl (fun H2 hH2 => ?_)
        have m0 : H2[a]? = some (.inr (3, [.ref 3, .ref (a + 1), .ref (a + 2), .ref (a + 3), .ref (a + 4), .int (nI he), .int (bI sn), .int ho, .int (wa + (nI 1))])) := by rw [hH2]; exact set_self m0
        have m1 : H2[a + 1]? = some (IA 10 ((upto (eatF he ce) 6 0 (cl, fu)).1)) := by rw [hH2]; exact set_ne m1 (by omega)
        have m2 : H2[a + 2]? = some (IA 6 ce) := by rw [hH2]; exact set_ne m2 (by omega)
        have m3 : H2[a + 3]? = some (IA 6 ((upto (eatF he ce) 6 0 (cl, fu)).2)) := by rw [hH2]; exact set_ne m3 (by omega)
        have m4 : H2[a + 4]? = some (.inl (0, 2, .inl pa)) := by rw [hH2]; exact set_ne m4 (by omega)
        have g0 : H2[3]? = some (.inr (2, [.ref 4, .ref 5, .int (nI n)])) := by rw [hH2]; exact set_ne g0 (by omega)
        have g1 : H2[4]? = some (IA 6 sd) := by rw [hH2]; exact set_ne g1 (by omega)
        have g2 : H2[5]? = some (IA 6 kd) := by rw [hH2]; exact set_ne g2 (by omega)
        have hO : Off (mdC a) H H2 := by rw [hH2]; exact hO.set (by exact ⟨by omega, by omega⟩)
        refine ev_aload_n i43_38 rfl ?_
        refine ev_dup i43_39 rfl ?_
        refine ev_get i43_40 ci43 fl3_36 (by assumption) rfl ?_
        refine ev_iconst (v := nI 1) i43_43 (by decide) ?_
        refine ev_iadd i43_44 ?_
        refine evs_put (fs' := [.ref 3, .ref (a + 1), .ref (a + 2), .ref (a + 3), .ref (a + 4), .int (nI he), .int (bI sn), .int (ho + (nI 1)), .int (wa + (nI 1))]) i43_45 ci43 fl3_36 (by assumption) ⟨Nat.le_of_ble_eq_true rfl, rfl, Or.inl rfl⟩ rfl (fun H3 hH3 => ?_)
        have m0 : H3[a]? = some (.inr (3, [.ref 3, .ref (a + 1), .ref (a + 2), .ref (a + 3), .ref (a + 4), .int (nI he), .int (bI sn), .int (ho + (nI 1)), .int (wa + (nI 1))])) := by rw [hH3]; exact set_self m0
        have m1 : H3[a + 1]? = some (IA 10 ((upto (eatF he ce) 6 0 (cl, fu)).1)) := by rw [hH3]; exact set_ne m1 (by omega)
        have m2 : H3[a + 2]? = some (IA 6 ce) := by rw [hH3]; exact set_ne m2 (by omega)
        have m3 : H3[a + 3]? = some (IA 6 ((upto (eatF he ce) 6 0 (cl, fu)).2)) := by rw [hH3]; exact set_ne m3 (by omega)
        have m4 : H3[a + 4]? = some (.inl (0, 2, .inl pa)) := by rw [hH3]; exact set_ne m4 (by omega)
        have g0 : H3[3]? = some (.inr (2, [.ref 4, .ref 5, .int (nI n)])) := by rw [hH3]; exact set_ne g0 (by omega)
        have g1 : H3[4]? = some (IA 6 sd) := by rw [hH3]; exact set_ne g1 (by omega)
        have g2 : H3[5]? = some (IA 6 kd) := by rw [hH3]; exact set_ne g2 (by omega)
        have hO : Off (mdC a) H H3 := by rw [hH3]; exact hO.set (by exact ⟨by omega, by omega⟩)
        refine ev_iload_n i43_48 rfl ?_
        refine ev_iret i43_49 (by decide +kernel) ?_
        first
          | (exfalso; omega)
          | (refine ⟨rfl, ?_, hO⟩
             have e1 : hrF he sd kd ce sn rg (cl, fu, pa, ho, wa) = ((upto (eatF he ce) 6 0 (cl, fu)).1, (upto (eatF he ce) 6 0 (cl, fu)).2, pa, ho + (nI 1), wa + (nI 1)) := by
               unfold hrF
               simp [z8, z17, z25]
             rw [e1]
             exact ⟨m0, m1, m2, m3, m4⟩)
  · refine ev_aload_n i43_11 rfl ?_
    refine ev_callV (vs := []) (rest := []) i43_12 ci43 lk3_100 (congrArg (fun q => q + 1) np46) ci46 (by decide) (by decide +kernel) (Nat.le_of_ble_eq_true rfl) ⟨rfl, rfl, Nat.le_of_ble_eq_true rfl⟩ rfl (by assumption) (c46 (by assumption) (by assumption) hb ha hfu hkd hsd) (fun r H1 hq => ?_)
    obtain ⟨rfl, hM, hO1⟩ := hq
    obtain ⟨m0, m1, m2, m3, m4⟩ := id hM
    have hO : Off (mdC a) H H1 := hO.trans hO1 (fun _ h => h) (fun _ h => h)
    have hH := hH.off hO1 (fun q => by have := q.1; omega) (fun q => by have := q.1; omega) (fun q => by have := q.1; omega)
    obtain ⟨g0, g1, g2⟩ := id hH
    have hfu := mlk_lt (he := he) (sd := sd) (kd := kd) 6 0 (fu, pa) hfu
    show Ev tb 43 15 [some (.ref a), some (.int (bI rg)), some (.int (nI (srtF he kd fu sn rg)))] [] H1 _
    refine ev_iload_n i43_15 rfl ?_
    refine ev_iconst (v := nI 3) i43_16 (by decide) ?_
    refine evn_icmp_eq (t := 24) i43_17 (by decide) (by omega) (fun z17 => ?_) (fun z17 => ?_)
    · refine ev_iload_n i43_24 rfl ?_
      refine evn_if_ne (t := 38) i43_25 (by decide) (by omega) (fun z25 => ?_) (fun z25 => ?_)
      · refine ev_aload_n i43_38 rfl ?_
        refine ev_dup i43_39 rfl ?_
        refine ev_get i43_40 ci43 fl3_36 (by assumption) rfl ?_
        refine ev_iconst (v := nI 1) i43_43 (by decide) ?_
        refine ev_iadd i43_44 ?_
        refine evs_put (fs' := [.ref 3, .ref (a + 1), .ref (a + 2), .ref (a + 3), .ref (a + 4), .int (nI he), .int (bI sn), .int (ho + (nI 1)), .int wa]) i43_45 ci43 fl3_36 (by assumption) ⟨Nat.le_of_ble_eq_true rfl, rfl, Or.inl rfl⟩ rfl (fun H2 hH2 => ?_)
        have m0 : H2[a]? = some (.inr (3, [.ref 3, .ref (a + 1), .ref (a + 2), .ref (a + 3), .ref (a + 4), .int (nI he), .int (bI sn), .int (ho + (nI 1)), .int wa])) := by rw [hH2]; exact set_self m0
        have m1 : H2[a + 1]? = some (IA 10 cl) := by rw [hH2]; exact set_ne m1 (by omega)
        have m2 : H2[a + 2]? = some (IA 6 ce) := by rw [hH2]; exact set_ne m2 (by omega)
        have m3 : H2[a + 3]? = some (IA 6 ((upto (mlkF he sd kd) 6 0 (fu, pa)).1)) := by rw [hH2]; exact set_ne m3 (by omega)
        have m4 : H2[a + 4]? = some (.inl (0, 2, .inl ((upto (mlkF he sd kd) 6 0 (fu, pa)).2))) := by rw [hH2]; exact set_ne m4 (by omega)
        have g0 : H2[3]? = some (.inr (2, [.ref 4, .ref 5, .int (nI n)])) := by rw [hH2]; exact set_ne g0 (by omega)
        have g1 : H2[4]? = some (IA 6 sd) := by rw [hH2]; exact set_ne g1 (by omega)
        have g2 : H2[5]? = some (IA 6 kd) := by rw [hH2]; exact set_ne g2 (by omega)
        have hO : Off (mdC a) H H2 := by rw [hH2]; exact hO.set (by exact ⟨by omega, by omega⟩)
        refine ev_iload_n i43_48 rfl ?_
        refine ev_iret i43_49 (by decide +kernel) ?_
        first
          | (exfalso; omega)
          | (refine ⟨rfl, ?_, hO⟩
             have e1 : hrF he sd kd ce sn rg (cl, fu, pa, ho, wa) = (cl, (upto (mlkF he sd kd) 6 0 (fu, pa)).1, (upto (mlkF he sd kd) 6 0 (fu, pa)).2, ho + (nI 1), wa) := by
               unfold hrF
               simp [z8, z17, z25]
             rw [e1]
             exact ⟨m0, m1, m2, m3, m4⟩)
      · refine ev_aload_n i43_28 rfl ?_
        refine ev_dup i43_29 rfl ?_
        refine ev_get i43_30 ci43 fl3_39 (by assumption) rfl ?_
        refine ev_iconst (v := nI 1) i43_33 (by decide) ?_
        refine ev_iadd i43_34 ?_
        refine evs_put (fs' := [.ref 3, .ref (a + 1), .ref (a + 2), .ref (a + 3), .ref (a + 4), .int (nI he), .int (bI sn), .int ho, .int (wa + (nI 1))]) i43_35 ci43 fl3_39 (by assumption) ⟨Nat.le_of_ble_eq_true rfl, rfl, Or.inl rfl⟩ rfl (fun H2 hH2 => ?_)
        have m0 : H2[a]? = some (.inr (3, [.ref 3, .ref (a + 1), .ref (a + 2), .ref (a + 3), .ref (a + 4), .int (nI he), .int (bI sn), .int ho, .int (wa + (nI 1))])) := by rw [hH2]; exact set_self m0
        have m1 : H2[a + 1]? = some (IA 10 cl) := by rw [hH2]; exact set_ne m1 (by omega)
        have m2 : H2[a + 2]? = some (IA 6 ce) := by rw [hH2]; exact set_ne m2 (by omega)
        have m3 : H2[a + 3]? = some (IA 6 ((upto (mlkF he sd kd) 6 0 (fu, pa)).1)) := by rw [hH2]; exact set_ne m3 (by omega)
        have m4 : H2[a + 4]? = some (.inl (0, 2, .inl ((upto (mlkF he sd kd) 6 0 (fu, pa)).2))) := by rw [hH2]; exact set_ne m4 (by omega)
        have g0 : H2[3]? = some (.inr (2, [.ref 4, .ref 5, .int (nI n)])) := by rw [hH2]; exact set_ne g0 (by omega)
        have g1 : H2[4]? = some (IA 6 sd) := by rw [hH2]; exact set_ne g1 (by omega)
        have g2 : H2[5]? = some (IA 6 kd) := by rw [hH2]; exact set_ne g2 (by omega)
        have hO : Off (mdC a) H H2 := by rw [hH2]; exact hO.set (by exact ⟨by omega, by omega⟩)
        refine ev_aload_n i43_38 rfl ?_
        refine ev_dup i43_39 rfl ?_
        refine ev_get i43_40 ci43 fl3_36 (by assumption) rfl ?_
        refine ev_iconst (v := nI 1) i43_43 (by decide) ?_
        refine ev_iadd i43_44 ?_
        refine evs_put (fs' := [.ref 3, .ref (a + 1), .ref (a + 2), .ref (a + 3), .ref (a + 4), .int (nI he), .int (bI sn), .int (ho + (nI 1)), .int (wa + (nI 1))]) i43_45 ci43 fl3_36 (by assumption) ⟨Nat.le_of_ble_eq_true rfl, rfl, Or.inl rfl⟩ rfl (fun H3 hH3 => ?_)
        have m0 : H3[a]? = some (.inr (3, [.ref 3, .ref (a + 1), .ref (a + 2), .ref (a + 3), .ref (a + 4), .int (nI he), .int (bI sn), .int (ho + (nI 1)), .int (wa + (nI 1))])) := by rw [hH3]; exact set_self m0
        have m1 : H3[a + 1]? = some (IA 10 cl) := by rw [hH3]; exact set_ne m1 (by omega)
        have m2 : H3[a + 2]? = some (IA 6 ce) := by rw [hH3]; exact set_ne m2 (by omega)
        have m3 : H3[a + 3]? = some (IA 6 ((upto (mlkF he sd kd) 6 0 (fu, pa)).1)) := by rw [hH3]; exact set_ne m3 (by omega)
        have m4 : H3[a + 4]? = some (.inl (0, 2, .inl ((upto (mlkF he sd kd) 6 0 (fu, pa)).2))) := by rw [hH3]; exact set_ne m4 (by omega)
        have g0 : H3[3]? = some (.inr (2, [.ref 4, .ref 5, .int (nI n)])) := by rw [hH3]; exact set_ne g0 (by omega)
        have g1 : H3[4]? = some (IA 6 sd) := by rw [hH3]; exact set_ne g1 (by omega)
        have g2 : H3[5]? = some (IA 6 kd) := by rw [hH3]; exact set_ne g2 (by omega)
        have hO : Off (mdC a) H H3 := by rw [hH3]; exact hO.set (by exact ⟨by omega, by omega⟩)
        refine ev_iload_n i43_48 rfl ?_
        refine ev_iret i43_49 (by decide +kernel) ?_
        first
          | (exfalso; omega)
          | (refine ⟨rfl, ?_, hO⟩
             have e1 : hrF he sd kd ce sn rg (cl, fu, pa, ho, wa) = (cl, (upto (mlkF he sd kd) 6 0 (fu, pa)).1, (upto (mlkF he sd kd) 6 0 (fu, pa)).2, ho + (nI 1), wa + (nI 1)) := by
               unfold hrF
               simp [z8, z17, z25]
             rw [e1]
             exact ⟨m0, m1, m2, m3, m4⟩)
    · refine ev_aload_n i43_20 rfl ?_
      refine ev_callV (vs := []) (rest := []) i43_21 ci43 lk3_103 (congrArg (fun q => q + 1) np47) ci47 (by decide) (by decide +kernel) (Nat.le_of_ble_eq_true rfl) ⟨rfl, rfl, Nat.le_of_ble_eq_true rfl⟩ rfl (by assumption) (c47 (by assumption) (by assumption) hb ha hfu hcl hce) (fun r H2 hq => ?_)
      obtain ⟨rfl, hM, hO1⟩ := hq
      obtain ⟨m0, m1, m2, m3, m4⟩ := id hM
      have hO : Off (mdC a) H H2 := hO.trans hO1 (fun _ h => h) (fun _ h => h)
      have hH := hH.off hO1 (fun q => by have := q.1; omega) (fun q => by have := q.1; omega) (fun q => by have := q.1; omega)
      obtain ⟨g0, g1, g2⟩ := id hH
      show Ev tb 43 24 [some (.ref a), some (.int (bI rg)), some (.int (nI (srtF he kd fu sn rg)))] [] H2 _
      refine ev_iload_n i43_24 rfl ?_
      refine evn_if_ne (t := 38) i43_25 (by decide) (by omega) (fun z25 => ?_) (fun z25 => ?_)
      · refine ev_aload_n i43_38 rfl ?_
        refine ev_dup i43_39 rfl ?_
        refine ev_get i43_40 ci43 fl3_36 (by assumption) rfl ?_
        refine ev_iconst (v := nI 1) i43_43 (by decide) ?_
        refine ev_iadd i43_44 ?_
        refine evs_put (fs' := [.ref 3, .ref (a + 1), .ref (a + 2), .ref (a + 3), .ref (a + 4), .int (nI he), .int (bI sn), .int (ho + (nI 1)), .int wa]) i43_45 ci43 fl3_36 (by assumption) ⟨Nat.le_of_ble_eq_true rfl, rfl, Or.inl rfl⟩ rfl (fun H3 hH3 => ?_)
        have m0 : H3[a]? = some (.inr (3, [.ref 3, .ref (a + 1), .ref (a + 2), .ref (a + 3), .ref (a + 4), .int (nI he), .int (bI sn), .int (ho + (nI 1)), .int wa])) := by rw [hH3]; exact set_self m0
        have m1 : H3[a + 1]? = some (IA 10 ((upto (eatF he ce) 6 0 (cl, (upto (mlkF he sd kd) 6 0 (fu, pa)).1)).1)) := by rw [hH3]; exact set_ne m1 (by omega)
        have m2 : H3[a + 2]? = some (IA 6 ce) := by rw [hH3]; exact set_ne m2 (by omega)
        have m3 : H3[a + 3]? = some (IA 6 ((upto (eatF he ce) 6 0 (cl, (upto (mlkF he sd kd) 6 0 (fu, pa)).1)).2)) := by rw [hH3]; exact set_ne m3 (by omega)
        have m4 : H3[a + 4]? = some (.inl (0, 2, .inl ((upto (mlkF he sd kd) 6 0 (fu, pa)).2))) := by rw [hH3]; exact set_ne m4 (by omega)
        have g0 : H3[3]? = some (.inr (2, [.ref 4, .ref 5, .int (nI n)])) := by rw [hH3]; exact set_ne g0 (by omega)
        have g1 : H3[4]? = some (IA 6 sd) := by rw [hH3]; exact set_ne g1 (by omega)
        have g2 : H3[5]? = some (IA 6 kd) := by rw [hH3]; exact set_ne g2 (by omega)
        have hO : Off (mdC a) H H3 := by rw [hH3]; exact hO.set (by exact ⟨by omega, by omega⟩)
        refine ev_iload_n i43_48 rfl ?_
        refine ev_iret i43_49 (by decide +kernel) ?_
        first
          | (exfalso; omega)
          | (refine ⟨rfl, ?_, hO⟩
             have e1 : hrF he sd kd ce sn rg (cl, fu, pa, ho, wa) = ((upto (eatF he ce) 6 0 (cl, (upto (mlkF he sd kd) 6 0 (fu, pa)).1)).1, (upto (eatF he ce) 6 0 (cl, (upto (mlkF he sd kd) 6 0 (fu, pa)).1)).2, (upto (mlkF he sd kd) 6 0 (fu, pa)).2, ho + (nI 1), wa) := by
               unfold hrF
               simp [z8, z17, z25]
             rw [e1]
             exact ⟨m0, m1, m2, m3, m4⟩)
      · refine ev_aload_n i43_28 rfl ?_
        refine ev_dup i43_29 rfl ?_
        refine ev_get i43_30 ci43 fl3_39 (by assumption) rfl ?_
        refine ev_iconst (v := nI 1) i43_33 (by decide) ?_
        refine ev_iadd i43_34 ?_
        refine evs_put (fs' := [.ref 3, .ref (a + 1), .ref (a + 2), .ref (a + 3), .ref (a + 4), .int (nI he), .int (bI sn), .int ho, .int (wa + (nI 1))]) i43_35 ci43 fl3_39 (by assumption) ⟨Nat.le_of_ble_eq_true rfl, rfl, Or.inl rfl⟩ rfl (fun H3 hH3 => ?_)
        have m0 : H3[a]? = some (.inr (3, [.ref 3, .ref (a + 1), .ref (a + 2), .ref (a + 3), .ref (a + 4), .int (nI he), .int (bI sn), .int ho, .int (wa + (nI 1))])) := by rw [hH3]; exact set_self m0
        have m1 : H3[a + 1]? = some (IA 10 ((upto (eatF he ce) 6 0 (cl, (upto (mlkF he sd kd) 6 0 (fu, pa)).1)).1)) := by rw [hH3]; exact set_ne m1 (by omega)
        have m2 : H3[a + 2]? = some (IA 6 ce) := by rw [hH3]; exact set_ne m2 (by omega)
        have m3 : H3[a + 3]? = some (IA 6 ((upto (eatF he ce) 6 0 (cl, (upto (mlkF he sd kd) 6 0 (fu, pa)).1)).2)) := by rw [hH3]; exact set_ne m3 (by omega)
        have m4 : H3[a + 4]? = some (.inl (0, 2, .inl ((upto (mlkF he sd kd) 6 0 (fu, pa)).2))) := by rw [hH3]; exact set_ne m4 (by omega)
        have g0 : H3[3]? = some (.inr (2, [.ref 4, .ref 5, .int (nI n)])) := by rw [hH3]; exact set_ne g0 (by omega)
        have g1 : H3[4]? = some (IA 6 sd) := by rw [hH3]; exact set_ne g1 (by omega)
        have g2 : H3[5]? = some (IA 6 kd) := by rw [hH3]; exact set_ne g2 (by omega)
        have hO : Off (mdC a) H H3 := by rw [hH3]; exact hO.set (by exact ⟨by omega, by omega⟩)
        refine ev_aload_n i43_38 rfl ?_
        refine ev_dup i43_39 rfl ?_
        refine ev_get i43_40 ci43 fl3_36 (by assumption) rfl ?_
        refine ev_iconst (v := nI 1) i43_43 (by decide) ?_
        refine ev_iadd i43_44 ?_
        refine evs_put (fs' := [.ref 3, .ref (a + 1), .ref (a + 2), .ref (a + 3), .ref (a + 4), .int (nI he), .int (bI sn), .int (ho + (nI 1)), .int (wa + (nI 1))]) i43_45 ci43 fl3_36 (by assumption) ⟨Nat.le_of_ble_eq_true rfl, rfl, Or.inl rfl⟩ rfl (fun H4 hH4 => ?_)
        have m0 : H4[a]? = some (.inr (3, [.ref 3, .ref (a + 1), .ref (a + 2), .ref (a + 3), .ref (a + 4), .int (nI he), .int (bI sn), .int (ho + (nI 1)), .int (wa + (nI 1))])) := by rw [hH4]; exact set_self m0
        have m1 : H4[a + 1]? = some (IA 10 ((upto (eatF he ce) 6 0 (cl, (upto (mlkF he sd kd) 6 0 (fu, pa)).1)).1)) := by rw [hH4]; exact set_ne m1 (by omega)
        have m2 : H4[a + 2]? = some (IA 6 ce) := by rw [hH4]; exact set_ne m2 (by omega)
        have m3 : H4[a + 3]? = some (IA 6 ((upto (eatF he ce) 6 0 (cl, (upto (mlkF he sd kd) 6 0 (fu, pa)).1)).2)) := by rw [hH4]; exact set_ne m3 (by omega)
        have m4 : H4[a + 4]? = some (.inl (0, 2, .inl ((upto (mlkF he sd kd) 6 0 (fu, pa)).2))) := by rw [hH4]; exact set_ne m4 (by omega)
        have g0 : H4[3]? = some (.inr (2, [.ref 4, .ref 5, .int (nI n)])) := by rw [hH4]; exact set_ne g0 (by omega)
        have g1 : H4[4]? = some (IA 6 sd) := by rw [hH4]; exact set_ne g1 (by omega)
        have g2 : H4[5]? = some (IA 6 kd) := by rw [hH4]; exact set_ne g2 (by omega)
        have hO : Off (mdC a) H H4 := by rw [hH4]; exact hO.set (by exact ⟨by omega, by omega⟩)
        refine ev_iload_n i43_48 rfl ?_
        refine ev_iret i43_49 (by decide +kernel) ?_
        first
          | (exfalso; omega)
          | (refine ⟨rfl, ?_, hO⟩
             have e1 : hrF he sd kd ce sn rg (cl, fu, pa, ho, wa) = ((upto (eatF he ce) 6 0 (cl, (upto (mlkF he sd kd) 6 0 (fu, pa)).1)).1, (upto (eatF he ce) 6 0 (cl, (upto (mlkF he sd kd) 6 0 (fu, pa)).1)).2, (upto (mlkF he sd kd) 6 0 (fu, pa)).2, ho + (nI 1), wa + (nI 1)) := by
               unfold hrF
               simp [z8, z17, z25]
             rw [e1]
             exact ⟨m0, m1, m2, m3, m4⟩)
abbrev MdS (H : dxH) (a : Nat) (ce : Nat → Nat) (he : Nat) (sn : Bool) (x : Hs) : Prop := MdwAt H a x.1 ce x.2.1 x.2.2.1 he sn x.2.2.2.1 x.2.2.2.2
/-- d hours without bells -/
def hrs (he : Nat) (sd kd ce : Nat → Nat) (sn : Bool) : Nat → Hs → Hs
  | 0, x => x
  | d + 1, x => hrs he sd kd ce sn d (hrF he sd kd ce sn false x)
def cntL (he : Nat) (sd kd ce : Nat → Nat) (sn : Bool) (s : Nat) : Nat → Hs → Nat
  | 0, _ => 0
  | d + 1, x => (if srtF he kd x.2.1 sn false = s then 1 else 0) + cntL he sd kd ce sn s d (hrF he sd kd ce sn false x)
theorem cntL_le {he : Nat} {sd kd ce : Nat → Nat} {sn : Bool} {s : Nat} : ∀ {d : Nat} {x : Hs}, cntL he sd kd ce sn s d x ≤ d
  | 0, _ => Nat.le_refl _
  | d + 1, x => by
    have := cntL_le (he := he) (sd := sd) (kd := kd) (ce := ce) (sn := sn) (s := s) (d := d) (x := hrF he sd kd ce sn false x)
    unfold cntL
    split <;> omega
def lstL (he : Nat) (sd kd ce : Nat → Nat) (sn : Bool) : Nat → Hs → Int32 → Int32
  | 0, _, v => v
  | d + 1, x, _ => lstL he sd kd ce sn d (hrF he sd kd ce sn false x) (nI (srtF he kd x.2.1 sn false))
theorem hrs_ok {he : Nat} {sd kd ce : Nat → Nat} {sn : Bool} (hce : ∀ j, ce j < 10) (hsd : ∀ j, sd j < 2) : ∀ {d : Nat} {x : Hs}, SOK x → SOK (hrs he sd kd ce sn d x)
  | 0, _, h => h
  | d + 1, x, h => hrs_ok hce hsd (d := d) (hrF_ok hce hsd h)
theorem hrF_eta (he : Nat) (sd kd ce : Nat → Nat) (sn rg : Bool) (x : Hs) : hrF he sd kd ce sn rg (x.1, x.2.1, x.2.2.1, x.2.2.2.1, x.2.2.2.2) = hrF he sd kd ce sn rg x := rfl
theorem c43x {tb : dxT} {H : dxH} {a n : Nat} {sd kd ce : Nat → Nat} {he : Nat} {sn rg : Bool} {x : Hs} (hb : he < 64) (ha : 6 ≤ a) (hce : ∀ j, ce j < 10) (hkd : ∀ j, kd j < 4) (hsd : ∀ j, sd j < 2) (hM : MdS H a ce he sn x) (hH : HrdAt H n sd kd) (hx : SOK x) : Cl tb 43 [.ref a, .int (bI rg)] H (fun r H' => r = some (.int (nI (srtF he kd x.2.1 sn rg))) ∧ MdS H' a ce he sn (hrF he sd kd ce sn rg x) ∧ Off (mdC a) H H') := c43 hM hH hb ha hx.2.1 hx.1 hce hkd hsd
theorem lq44 {tb : dxT} {a n : Nat} {sd kd ce : Nat → Nat} {he : Nat} {sn : Bool} {s m : Nat} (hb : he < 64) (ha : 6 ≤ a) (hce : ∀ j, ce j < 10) (hkd : ∀ j, kd j < 4) (hsd : ∀ j, sd j < 2) (hs : s < 4) (hm : m < 1000) : ∀ (d k c : Nat) (H : dxH) (x : Hs), k + d = m → c ≤ k → MdS H a ce he sn x → HrdAt H n sd kd → SOK x → Ev tb 44 5 [some (.ref a), some (.int (nI s)), some (.int (nI m)), some (.int (nI c)), some (.int (nI k))] [] H (fun r H' => r = some (.int (nI (c + cntL he sd kd ce sn s d x))) ∧ MdS H' a ce he sn (hrs he sd kd ce sn d x) ∧ Off (mdC a) H H')
  | 0, k, c, H, x, hk, hc, hM, hH, hx => by
    obtain rfl : k = m := by omega
    refine ev_iload i44_5 rfl ?_
    refine ev_iload_n i44_7 rfl ?_
    refine evn_icmp_ge (t := 29) i44_8 (by decide) (by omega) (fun z8 => ?_) (fun z8 => by exfalso; omega)
    refine ev_iload_n i44_29 rfl ?_
    refine ev_iret i44_30 (by decide +kernel) ?_
    exact ⟨rfl, hM, Off.rf⟩
  | d + 1, k, c, H, x, hk, hc, hM, hH, hx => by
    have m0 := hM.1
    have hs4 := srtF_lt (he := he) (kd := kd) (fu := x.2.1) (sn := sn) (rg := false)
    refine ev_iload i44_5 rfl ?_
    refine ev_iload_n i44_7 rfl ?_
    refine evn_icmp_ge (t := 29) i44_8 (by decide) (by omega) (fun z8 => by exfalso; omega) (fun z8 => ?_)
    refine ev_aload_n i44_11 rfl ?_
    refine ev_iconst (v := nI 0) i44_12 (by decide) ?_
    refine ev_callV (vs := [.int (nI 0)]) (rest := []) i44_13 ci44 lk3_106 (congrArg (fun q => q + 1) np43) ci43 (by decide) (by decide +kernel) (Nat.le_of_ble_eq_true rfl) ⟨rfl, rfl, Nat.le_of_ble_eq_true rfl⟩ rfl (by assumption) (c43x (rg := false) hb ha hce hkd hsd (by assumption) (by assumption) hx) (fun r H1 hq => ?_)
    obtain ⟨rfl, hM, hO1⟩ := hq
    have hH := hH.off hO1 (fun q => by have := q.1; omega) (fun q => by have := q.1; omega) (fun q => by have := q.1; omega)
    have m0 := hM.1
    show Ev tb 44 16 [some (.ref a), some (.int (nI s)), some (.int (nI m)), some (.int (nI c)), some (.int (nI k))] [.int (nI (srtF he kd x.2.1 sn false))] H1 _
    refine ev_iload_n i44_16 rfl ?_
    refine evn_icmp_ne (t := 23) i44_17 (by decide) (by omega) (fun z17 => ?_) (fun z17 => ?_)
    · refine evn_iinc (d := 1) (L' := [some (.ref a), some (.int (nI s)), some (.int (nI m)), some (.int (nI c)), some (.int (nI (k + 1)))]) i44_23 rfl rfl (by decide) rfl ?_
      refine ev_goto (t := 5) i44_26 (by decide) ?_
      refine (lq44 hb ha hce hkd hsd hs hm d (k + 1) c H1 (hrF he sd kd ce sn false x) (by omega) (by omega) hM hH (hrF_ok hce hsd hx)).post (fun r H' hq => ?_)
      obtain ⟨rfl, h2, h3⟩ := hq
      refine ⟨?_, h2, hO1.trans h3 (fun _ h => h) (fun _ h => h)⟩
      conv => rhs; unfold cntL
      rw [if_neg z17, Nat.zero_add]
    · refine evn_iinc (d := 1) (L' := [some (.ref a), some (.int (nI s)), some (.int (nI m)), some (.int (nI (c + 1))), some (.int (nI k))]) i44_20 rfl rfl (by decide) rfl ?_
      refine evn_iinc (d := 1) (L' := [some (.ref a), some (.int (nI s)), some (.int (nI m)), some (.int (nI (c + 1))), some (.int (nI (k + 1)))]) i44_23 rfl rfl (by decide) rfl ?_
      refine ev_goto (t := 5) i44_26 (by decide) ?_
      refine (lq44 hb ha hce hkd hsd hs hm d (k + 1) (c + 1) H1 (hrF he sd kd ce sn false x) (by omega) (by omega) hM hH (hrF_ok hce hsd hx)).post (fun r H' hq => ?_)
      obtain ⟨rfl, h2, h3⟩ := hq
      refine ⟨?_, h2, hO1.trans h3 (fun _ h => h) (fun _ h => h)⟩
      conv => rhs; unfold cntL
      rw [if_pos z17, Nat.add_assoc]
theorem c44 {tb : dxT} {a n : Nat} {sd kd ce : Nat → Nat} {he : Nat} {sn : Bool} {s m : Nat} {H : dxH} {x : Hs} (hb : he < 64) (ha : 6 ≤ a) (hce : ∀ j, ce j < 10) (hkd : ∀ j, kd j < 4) (hsd : ∀ j, sd j < 2) (hs : s < 4) (hm : m < 1000) (hM : MdS H a ce he sn x) (hH : HrdAt H n sd kd) (hx : SOK x) : Cl tb 44 [.ref a, .int (nI s), .int (nI m)] H (fun r H' => r = some (.int (nI (cntL he sd kd ce sn s m x))) ∧ MdS H' a ce he sn (hrs he sd kd ce sn m x) ∧ Off (mdC a) H H') := by
  show Ev tb 44 0 [some (.ref a), some (.int (nI s)), some (.int (nI m)), none, none] [] H _
  refine ev_iconst (v := nI 0) i44_0 (by decide) ?_
  refine ev_istore_n (L' := [some (.ref a), some (.int (nI s)), some (.int (nI m)), some (.int (nI 0)), none]) i44_1 ⟨Nat.le_of_ble_eq_true rfl, rfl⟩ rfl ?_
  refine ev_iconst (v := nI 0) i44_2 (by decide) ?_
  refine ev_istore (L' := [some (.ref a), some (.int (nI s)), some (.int (nI m)), some (.int (nI 0)), some (.int (nI 0))]) i44_3 ⟨Nat.le_of_ble_eq_true rfl, rfl⟩ rfl ?_
  have k1 := lq44 hb ha hce hkd hsd hs hm m 0 0 H x (Nat.zero_add m) (Nat.le_refl 0) hM hH hx (tb := tb)
  rw [Nat.zero_add] at k1
  exact k1
theorem lq45 {tb : dxT} {a n : Nat} {sd kd ce : Nat → Nat} {he : Nat} {sn : Bool} {m : Nat} (hb : he < 64) (ha : 6 ≤ a) (hce : ∀ j, ce j < 10) (hkd : ∀ j, kd j < 4) (hsd : ∀ j, sd j < 2) (hm : m < 1000) : ∀ (d k : Nat) (v : Int32) (H : dxH) (x : Hs), k + d = m → MdS H a ce he sn x → HrdAt H n sd kd → SOK x → Ev tb 45 5 [some (.ref a), some (.int (nI m)), some (.int v), some (.int (nI k))] [] H (fun r H' => r = some (.int (lstL he sd kd ce sn d x v)) ∧ MdS H' a ce he sn (hrs he sd kd ce sn d x) ∧ Off (mdC a) H H')
  | 0, k, v, H, x, hk, hM, hH, hx => by
    obtain rfl : k = m := by omega
    refine ev_iload_n i45_5 rfl ?_
    refine ev_iload_n i45_6 rfl ?_
    refine evn_icmp_ge (t := 22) i45_7 (by decide) (by omega) (fun z7 => ?_) (fun z7 => by exfalso; omega)
    refine ev_iload_n i45_22 rfl ?_
    refine ev_iret i45_23 (by decide +kernel) ?_
    exact ⟨rfl, hM, Off.rf⟩
  | d + 1, k, v, H, x, hk, hM, hH, hx => by
    have m0 := hM.1
    refine ev_iload_n i45_5 rfl ?_
    refine ev_iload_n i45_6 rfl ?_
    refine evn_icmp_ge (t := 22) i45_7 (by decide) (by omega) (fun z7 => by exfalso; omega) (fun z7 => ?_)
    refine ev_aload_n i45_10 rfl ?_
    refine ev_iconst (v := nI 0) i45_11 (by decide) ?_
    refine ev_callV (vs := [.int (nI 0)]) (rest := []) i45_12 ci45 lk3_106 (congrArg (fun q => q + 1) np43) ci43 (by decide) (by decide +kernel) (Nat.le_of_ble_eq_true rfl) ⟨rfl, rfl, Nat.le_of_ble_eq_true rfl⟩ rfl (by assumption) (c43x (rg := false) hb ha hce hkd hsd (by assumption) (by assumption) hx) (fun r H1 hq => ?_)
    obtain ⟨rfl, hM, hO1⟩ := hq
    have hH := hH.off hO1 (fun q => by have := q.1; omega) (fun q => by have := q.1; omega) (fun q => by have := q.1; omega)
    have m0 := hM.1
    show Ev tb 45 15 [some (.ref a), some (.int (nI m)), some (.int v), some (.int (nI k))] [.int (nI (srtF he kd x.2.1 sn false))] H1 _
    refine ev_istore_n (L' := [some (.ref a), some (.int (nI m)), some (.int (nI (srtF he kd x.2.1 sn false))), some (.int (nI k))]) i45_15 ⟨Nat.le_of_ble_eq_true rfl, rfl⟩ rfl ?_
    refine evn_iinc (d := 1) (L' := [some (.ref a), some (.int (nI m)), some (.int (nI (srtF he kd x.2.1 sn false))), some (.int (nI (k + 1)))]) i45_16 rfl rfl (by decide) rfl ?_
    refine ev_goto (t := 5) i45_19 (by decide) ?_
    refine (lq45 hb ha hce hkd hsd hm d (k + 1) _ H1 (hrF he sd kd ce sn false x) (by omega) hM hH (hrF_ok hce hsd hx)).post (fun r H' hq => ?_)
    exact ⟨hq.1, hq.2.1, hO1.trans hq.2.2 (fun _ h => h) (fun _ h => h)⟩
theorem c45 {tb : dxT} {a n : Nat} {sd kd ce : Nat → Nat} {he : Nat} {sn : Bool} {m : Nat} {H : dxH} {x : Hs} (hb : he < 64) (ha : 6 ≤ a) (hce : ∀ j, ce j < 10) (hkd : ∀ j, kd j < 4) (hsd : ∀ j, sd j < 2) (hm : m < 1000) (hM : MdS H a ce he sn x) (hH : HrdAt H n sd kd) (hx : SOK x) : Cl tb 45 [.ref a, .int (nI m)] H (fun r H' => r = some (.int (lstL he sd kd ce sn m x (-9))) ∧ MdS H' a ce he sn (hrs he sd kd ce sn m x) ∧ Off (mdC a) H H') := by
  show Ev tb 45 0 [some (.ref a), some (.int (nI m)), none, none] [] H _
  refine ev_bipush (v := (-9)) i45_0 (by decide) ?_
  refine ev_istore_n (L' := [some (.ref a), some (.int (nI m)), some (.int (-9)), none]) i45_2 ⟨Nat.le_of_ble_eq_true rfl, rfl⟩ rfl ?_
  refine ev_iconst (v := nI 0) i45_3 (by decide) ?_
  refine ev_istore_n (L' := [some (.ref a), some (.int (nI m)), some (.int (-9)), some (.int (nI 0))]) i45_4 ⟨Nat.le_of_ble_eq_true rfl, rfl⟩ rfl ?_
  exact lq45 hb ha hce hkd hsd hm m 0 _ H x (Nat.zero_add m) hM hH hx
theorem and6 : ∀ a, a < 64 → ∀ b, b < 64 → (nI a &&& nI b) = nI (a &&& b) := by decide +kernel
theorem c22 {tb : dxT} {H : dxH} {a x : Nat} {cl ce fu : Nat → Nat} {pa : Nat → Int32} {he : Nat} {sn : Bool} {ho wa : Int32} (hM : MdwAt H a cl ce fu pa he sn ho wa) (ha : 6 ≤ a) (hb : he < 64) (hx : x < 64) : Cl tb 22 [.ref a, .int (nI x)] H (fun r H' => r = none ∧ MdwAt H' a cl ce fu pa (he &&& x) sn ho wa ∧ Off (mdC a) H H') := by
  obtain ⟨m0, m1, m2, m3, m4⟩ := id hM
  have hO : Off (mdC a) H H := Off.rf
  show Ev tb 22 0 [some (.ref a), some (.int (nI x))] [] H _
  refine ev_aload_n i22_0 rfl ?_
  refine ev_dup i22_1 rfl ?_
  refine ev_get i22_2 ci22 fl3_28 (by assumption) rfl ?_
  refine ev_iload_n i22_5 rfl ?_
  refine ev_iand i22_6 ?_
  refine evs_put (fs' := [.ref 3, .ref (a + 1), .ref (a + 2), .ref (a + 3), .ref (a + 4), .int ((nI he) &&& (nI x)), .int (bI sn), .int ho, .int wa]) i22_7 ci22 fl3_28 (by assumption) ⟨Nat.le_of_ble_eq_true rfl, rfl, Or.inl rfl⟩ rfl (fun H1 hH1 => ?_)
  have m0 : H1[a]? = some (.inr (3, [.ref 3, .ref (a + 1), .ref (a + 2), .ref (a + 3), .ref (a + 4), .int ((nI he) &&& (nI x)), .int (bI sn), .int ho, .int wa])) := by rw [hH1]; exact set_self m0
  have m1 : H1[a + 1]? = some (IA 10 cl) := by rw [hH1]; exact set_ne m1 (by omega)
  have m2 : H1[a + 2]? = some (IA 6 ce) := by rw [hH1]; exact set_ne m2 (by omega)
  have m3 : H1[a + 3]? = some (IA 6 fu) := by rw [hH1]; exact set_ne m3 (by omega)
  have m4 : H1[a + 4]? = some (.inl (0, 2, .inl pa)) := by rw [hH1]; exact set_ne m4 (by omega)
  have hO : Off (mdC a) H H1 := by rw [hH1]; exact hO.set (by exact ⟨by omega, by omega⟩)
  refine ev_vret i22_10 (by decide +kernel) ?_
  rw [and6 he hb x hx] at m0
  exact ⟨rfl, ⟨m0, m1, m2, m3, m4⟩, hO⟩
