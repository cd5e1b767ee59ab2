/-! texts, tellings, choices; herds and meadows made anew -/
def TxtAt (H : dxH) (tx : Nat → Nat) (ln : Nat) : Prop := H[1]? = some (.inr (4, [.ref 2, .int (nI ln)])) ∧ H[2]? = some (IA 64 tx)
def txC : Nat → Prop := fun j => j = 1 ∨ j = 2
def TelAt (H : dxH) (tc th : Nat → Nat) (td : Nat → Bool) (tm : Nat) : Prop := H[102]? = some (.inr (6, [.ref 103, .ref 104, .ref 105, .int (nI tm)])) ∧ H[103]? = some (IA 6 tc) ∧ H[104]? = some (IA 6 th) ∧ H[105]? = some (ZA 6 td)
def tlC : Nat → Prop := fun j => 102 ≤ j ∧ j ≤ 105
theorem TxtAt.off {H H' : dxH} {tx : Nat → Nat} {ln : Nat} {A : Nat → Prop} (h : TxtAt H tx ln) (hO : Off A H H') (h1 : ¬ A 1) (h2 : ¬ A 2) : TxtAt H' tx ln := ⟨hO.at h.1 h1, hO.at h.2 h2⟩
theorem TelAt.off {H H' : dxH} {tc th : Nat → Nat} {td : Nat → Bool} {tm : Nat} {A : Nat → Prop} (h : TelAt H tc th td tm) (hO : Off A H H') (hA : ∀ j, 102 ≤ j → j ≤ 105 → ¬ A j) : TelAt H' tc th td tm := ⟨hO.at h.1 (hA _ (by decide) (by decide)), hO.at h.2.1 (hA _ (by decide) (by decide)), hO.at h.2.2.1 (hA _ (by decide) (by decide)), hO.at h.2.2.2 (hA _ (by decide) (by decide))⟩
theorem c49 {tb : dxT} {H : dxH} {tx : Nat → Nat} {ln : Nat} (hX : TxtAt H tx ln) (hln : ln ≤ 64) : Cl tb 49 [.ref 1] H (Rt (.int (nI ln)) H) := by
  obtain ⟨x0, x1⟩ := id hX
  show Ev tb 49 0 [some (.ref 1)] [] H _
  refine ev_aload_n i49_0 rfl ?_
  refine ev_get i49_1 ci49 fl4_15 (by assumption) rfl ?_
  refine ev_iret i49_4 (by decide +kernel) ?_
  exact ⟨rfl, rfl⟩
theorem c50 {tb : dxT} {H : dxH} {tx : Nat → Nat} {ln : Nat} (hX : TxtAt H tx ln) (hln : ln ≤ 64) : Cl tb 50 [.ref 1] H (fun r H' => r = none ∧ TxtAt H' tx 0 ∧ Off txC H H') := by
  obtain ⟨x0, x1⟩ := id hX
  have hO : Off txC H H := Off.rf
  show Ev tb 50 0 [some (.ref 1)] [] H _
  refine ev_aload_n i50_0 rfl ?_
  refine ev_iconst (v := nI 0) i50_1 (by decide) ?_
  refine evs_put (fs' := [.ref 2, .int (nI 0)]) i50_2 ci50 fl4_15 (by assumption) ⟨Nat.le_of_ble_eq_true rfl, rfl, Or.inl rfl⟩ rfl (fun H1 hH1 => ?_)
  have x0 : H1[1]? = some (.inr (4, [.ref 2, .int (nI 0)])) := by rw [hH1]; exact set_self x0
  have x1 : H1[2]? = some (IA 64 tx) := by rw [hH1]; exact set_ne x1 (by omega)
  have hO : Off txC H H1 := by rw [hH1]; exact hO.set (by first | exact Or.inl rfl | exact Or.inr rfl)
  refine ev_vret i50_5 (by decide +kernel) ?_
  exact ⟨rfl, ⟨x0, x1⟩, hO⟩
theorem c51t {tb : dxT} {H : dxH} {tx : Nat → Nat} {ln : Nat} {c : Nat} (hX : TxtAt H tx ln) (hln : ln ≤ 64) (hc : c < 256) (h : ln < 64) : Cl tb 51 [.ref 1, .int (nI c)] H (fun r H' => r = some (.int (bI true)) ∧ TxtAt H' (updN tx ln c) (ln + 1) ∧ Off txC H H') := by
  obtain ⟨x0, x1⟩ := id hX
  have hO : Off txC H H := Off.rf
  show Ev tb 51 0 [some (.ref 1), some (.int (nI c))] [] H _
  refine ev_aload_n i51_0 rfl ?_
  refine ev_get i51_1 ci51 fl4_15 (by assumption) rfl ?_
  refine ev_bipush (v := nI 64) i51_4 (by decide) ?_
  refine evn_icmp_lt (t := 11) i51_6 (by decide) (by omega) (fun z6 => ?_) (fun z6 => by exfalso; omega)
  refine ev_aload_n i51_11 rfl ?_
  refine ev_get i51_12 ci51 fl4_9 (by assumption) rfl ?_
  refine ev_aload_n i51_15 rfl ?_
  refine ev_get i51_16 ci51 fl4_15 (by assumption) rfl ?_
  refine ev_iload_n i51_19 rfl ?_
  refine evs_iastn i51_20 (by assumption) (by omega) (fun H1 hH1 => ?_)
  have x0 : H1[1]? = some (.inr (4, [.ref 2, .int (nI ln)])) := by rw [hH1]; exact set_ne x0 (by omega)
  have x1 : H1[2]? = some (IA 64 (updN tx ln c)) := by rw [hH1]; exact set_self x1
  have hO : Off txC H H1 := by rw [hH1]; exact hO.set (by first | exact Or.inl rfl | exact Or.inr rfl)
  refine ev_aload_n i51_21 rfl ?_
  refine ev_dup i51_22 rfl ?_
  refine ev_get i51_23 ci51 fl4_15 (by assumption) rfl ?_
  refine ev_iconst (v := nI 1) i51_26 (by decide) ?_
  refine evn_iadd i51_27 ?_
  refine evs_put (fs' := [.ref 2, .int (nI (ln + 1))]) i51_28 ci51 fl4_15 (by assumption) ⟨Nat.le_of_ble_eq_true rfl, rfl, Or.inl rfl⟩ rfl (fun H2 hH2 => ?_)
  have x0 : H2[1]? = some (.inr (4, [.ref 2, .int (nI (ln + 1))])) := by rw [hH2]; exact set_self x0
  have x1 : H2[2]? = some (IA 64 (updN tx ln c)) := by rw [hH2]; exact set_ne x1 (by omega)
  have hO : Off txC H H2 := by rw [hH2]; exact hO.set (by first | exact Or.inl rfl | exact Or.inr rfl)
  refine ev_iconst (v := nI 1) i51_31 (by decide) ?_
  refine ev_zret i51_32 (by decide +kernel) (by decide) ?_
  exact ⟨zt rfl, ⟨x0, x1⟩, hO⟩
theorem c51f {tb : dxT} {H : dxH} {tx : Nat → Nat} {ln : Nat} {c : Nat} (hX : TxtAt H tx ln) (hln : ln ≤ 64) (h : ¬ ln < 64) : Cl tb 51 [.ref 1, .int (nI c)] H (Rt (.int (bI false)) H) := by
  obtain ⟨x0, x1⟩ := id hX
  show Ev tb 51 0 [some (.ref 1), some (.int (nI c))] [] H _
  refine ev_aload_n i51_0 rfl ?_
  refine ev_get i51_1 ci51 fl4_15 (by assumption) rfl ?_
  refine ev_bipush (v := nI 64) i51_4 (by decide) ?_
  refine evn_icmp_lt (t := 11) i51_6 (by decide) (by omega) (fun z6 => by exfalso; omega) (fun z6 => ?_)
  refine ev_iconst (v := nI 0) i51_9 (by decide) ?_
  refine ev_zret i51_10 (by decide +kernel) (by decide) ?_
  exact ⟨zf rfl, rfl⟩
theorem c52t {tb : dxT} {H : dxH} {tx : Nat → Nat} {ln : Nat} {p : Nat} (hX : TxtAt H tx ln) (hln : ln ≤ 64) (h : p < ln) : Cl tb 52 [.ref 1, .int (nI p)] H (Rt (.int (nI (tx p))) H) := by
  obtain ⟨x0, x1⟩ := id hX
  show Ev tb 52 0 [some (.ref 1), some (.int (nI p))] [] H _
  refine ev_iload_n i52_0 rfl ?_
  refine evn_if_lt (t := 27) i52_1 (by decide) (by omega) ?_
  refine ev_iload_n i52_4 rfl ?_
  refine ev_aload_n i52_5 rfl ?_
  refine ev_get i52_6 ci52 fl4_15 (by assumption) rfl ?_
  refine evn_icmp_ge (t := 27) i52_9 (by decide) (by omega) (fun z9 => by exfalso; omega) (fun z9 => ?_)
  refine ev_iload_n i52_12 rfl ?_
  refine ev_bipush (v := nI 64) i52_13 (by decide) ?_
  refine evn_icmp_ge (t := 27) i52_15 (by decide) (by omega) (fun z15 => by exfalso; omega) (fun z15 => ?_)
  refine ev_aload_n i52_18 rfl ?_
  refine ev_get i52_19 ci52 fl4_9 (by assumption) rfl ?_
  refine ev_iload_n i52_22 rfl ?_
  refine ev_iald_n i52_23 (by assumption) (by omega) ?_
  refine ev_goto (t := 29) i52_24 (by decide) ?_
  refine ev_iret i52_29 (by decide +kernel) ?_
  exact ⟨rfl, rfl⟩
theorem c52f {tb : dxT} {H : dxH} {tx : Nat → Nat} {ln : Nat} {p : Nat} (hX : TxtAt H tx ln) (hln : ln ≤ 64) (hp : p < 2147483648) (h : ¬ p < ln) : Cl tb 52 [.ref 1, .int (nI p)] H (Rt (.int (-9)) H) := by
  obtain ⟨x0, x1⟩ := id hX
  show Ev tb 52 0 [some (.ref 1), some (.int (nI p))] [] H _
  refine ev_iload_n i52_0 rfl ?_
  refine evn_if_lt (t := 27) i52_1 (by decide) (by omega) ?_
  refine ev_iload_n i52_4 rfl ?_
  refine ev_aload_n i52_5 rfl ?_
  refine ev_get i52_6 ci52 fl4_15 (by assumption) rfl ?_
  refine evn_icmp_ge (t := 27) i52_9 (by decide) (by omega) (fun z9 => ?_) (fun z9 => by exfalso; omega)
  refine ev_bipush (v := (-9)) i52_27 (by decide) ?_
  refine ev_iret i52_29 (by decide +kernel) ?_
  exact ⟨rfl, rfl⟩
theorem c53t {tb : dxT} {H : dxH} {tx : Nat → Nat} {ln : Nat} {p : Nat} (hX : TxtAt H tx ln) (hln : ln ≤ 64) (htx : ∀ j, tx j < 256) (h : p < ln) (h1 : 48 ≤ tx p) (h2 : tx p ≤ 57) : Cl tb 53 [.ref 1, .int (nI p)] H (Rt (.int (nI (tx p - 48))) H) := by
  obtain ⟨x0, x1⟩ := id hX
  show Ev tb 53 0 [some (.ref 1), some (.int (nI p)), none] [] H _
  refine ev_aload_n i53_0 rfl ?_
  refine ev_iload_n i53_1 rfl ?_
  refine ev_callV (vs := [.int (nI p)]) (rest := []) i53_2 ci53 lk4_19 (congrArg (fun q => q + 1) np52) ci52 (by decide) (by decide +kernel) (Nat.le_of_ble_eq_true rfl) ⟨rfl, rfl, Nat.le_of_ble_eq_true rfl⟩ rfl (by assumption) (c52t (by assumption) (by omega) (by omega)) (fun r HH hq => ?_)
  obtain ⟨rfl, rfl⟩ := hq
  show Ev tb 53 5 [some (.ref 1), some (.int (nI p)), none] [.int (nI (tx p))] H _
  refine ev_istore_n (L' := [some (.ref 1), some (.int (nI p)), some (.int (nI (tx p)))]) i53_5 ⟨Nat.le_of_ble_eq_true rfl, rfl⟩ rfl ?_
  refine ev_iload_n i53_6 rfl ?_
  refine ev_bipush (v := nI 48) i53_7 (by decide) ?_
  refine evn_icmp_lt (t := 25) i53_9 (by decide) (by omega) (fun z9 => by exfalso; omega) (fun z9 => ?_)
  refine ev_iload_n i53_12 rfl ?_
  refine ev_bipush (v := nI 57) i53_13 (by decide) ?_
  refine evn_icmp_gt (t := 25) i53_15 (by decide) (by omega) (fun z15 => by exfalso; omega) (fun z15 => ?_)
  refine ev_iload_n i53_18 rfl ?_
  refine ev_bipush (v := nI 48) i53_19 (by decide) ?_
  refine evn_isub i53_21 (by omega) ?_
  refine ev_goto (t := 27) i53_22 (by decide) ?_
  refine ev_iret i53_27 (by decide +kernel) ?_
  exact ⟨rfl, rfl⟩
theorem c53f {tb : dxT} {H : dxH} {tx : Nat → Nat} {ln : Nat} {p : Nat} (hX : TxtAt H tx ln) (hln : ln ≤ 64) (htx : ∀ j, tx j < 256) (hp : p < 2147483648) (h : p < ln → ¬ (48 ≤ tx p ∧ tx p ≤ 57)) : Cl tb 53 [.ref 1, .int (nI p)] H (Rt (.int (-9)) H) := by
  obtain ⟨x0, x1⟩ := id hX
  by_cases hpl : p < ln
  · have hh := h hpl
    have hb := htx p
    show Ev tb 53 0 [some (.ref 1), some (.int (nI p)), none] [] H _
    refine ev_aload_n i53_0 rfl ?_
    refine ev_iload_n i53_1 rfl ?_
    refine ev_callV (vs := [.int (nI p)]) (rest := []) i53_2 ci53 lk4_19 (congrArg (fun q => q + 1) np52) ci52 (by decide) (by decide +kernel) (Nat.le_of_ble_eq_true rfl) ⟨rfl, rfl, Nat.le_of_ble_eq_true rfl⟩ rfl (by assumption) (c52t (by assumption) (by omega) (by omega)) (fun r HH hq => ?_)
    obtain ⟨rfl, rfl⟩ := hq
    show Ev tb 53 5 [some (.ref 1), some (.int (nI p)), none] [.int (nI (tx p))] H _
    refine ev_istore_n (L' := [some (.ref 1), some (.int (nI p)), some (.int (nI (tx p)))]) i53_5 ⟨Nat.le_of_ble_eq_true rfl, rfl⟩ rfl ?_
    refine ev_iload_n i53_6 rfl ?_
    refine ev_bipush (v := nI 48) i53_7 (by decide) ?_
    refine evn_icmp_lt (t := 25) i53_9 (by decide) (by omega) (fun z9 => ?_) (fun z9 => ?_)
    · refine ev_bipush (v := (-9)) i53_25 (by decide) ?_
      refine ev_iret i53_27 (by decide +kernel) ?_
      exact ⟨rfl, rfl⟩
    · refine ev_iload_n i53_12 rfl ?_
      refine ev_bipush (v := nI 57) i53_13 (by decide) ?_
      refine evn_icmp_gt (t := 25) i53_15 (by decide) (by omega) (fun z15 => ?_) (fun z15 => ?_)
      · refine ev_bipush (v := (-9)) i53_25 (by decide) ?_
        refine ev_iret i53_27 (by decide +kernel) ?_
        exact ⟨rfl, rfl⟩
      · refine ev_iload_n i53_18 rfl ?_
        refine ev_bipush (v := nI 48) i53_19 (by decide) ?_
        refine evn_isub i53_21 (by omega) ?_
        refine ev_goto (t := 27) i53_22 (by decide) ?_
        refine ev_iret i53_27 (by decide +kernel) ?_
        exfalso; omega
  · show Ev tb 53 0 [some (.ref 1), some (.int (nI p)), none] [] H _
    refine ev_aload_n i53_0 rfl ?_
    refine ev_iload_n i53_1 rfl ?_
    refine ev_callV (vs := [.int (nI p)]) (rest := []) i53_2 ci53 lk4_19 (congrArg (fun q => q + 1) np52) ci52 (by decide) (by decide +kernel) (Nat.le_of_ble_eq_true rfl) ⟨rfl, rfl, Nat.le_of_ble_eq_true rfl⟩ rfl (by assumption) (c52f (by assumption) (by omega) (by omega) (by omega)) (fun r HH hq => ?_)
    obtain ⟨rfl, rfl⟩ := hq
    show Ev tb 53 5 [some (.ref 1), some (.int (nI p)), none] [.int (-9)] H _
    refine ev_istore_n (L' := [some (.ref 1), some (.int (nI p)), some (.int (-9))]) i53_5 ⟨Nat.le_of_ble_eq_true rfl, rfl⟩ rfl ?_
    refine ev_iload_n i53_6 rfl ?_
    refine ev_bipush (v := nI 48) i53_7 (by decide) ?_
    refine ev_icmp_lt (t := 25) i53_9 (by decide) (fun z9 => ?_) (fun z9 => by exfalso; exact z9 (by decide))
    refine ev_bipush (v := (-9)) i53_25 (by decide) ?_
    refine ev_iret i53_27 (by decide +kernel) ?_
    exact ⟨rfl, rfl⟩
theorem c63 {tb : dxT} {H : dxH} {tc th : Nat → Nat} {td : Nat → Bool} {tm : Nat} (hT : TelAt H tc th td tm) (htm : tm ≤ 6) : Cl tb 63 [.ref 102] H (Rt (.int (nI tm)) H) := by
  obtain ⟨l0, l1, l2, l3⟩ := id hT
  show Ev tb 63 0 [some (.ref 102)] [] H _
  refine ev_aload_n i63_0 rfl ?_
  refine ev_get i63_1 ci63 fl6_22 (by assumption) rfl ?_
  refine ev_iret i63_4 (by decide +kernel) ?_
  exact ⟨rfl, rfl⟩
theorem c62 {tb : dxT} {H : dxH} {tc th : Nat → Nat} {td : Nat → Bool} {tm : Nat} (hT : TelAt H tc th td tm) (htm : tm ≤ 6) : Cl tb 62 [.ref 102] H (fun r H' => r = none ∧ TelAt H' tc th td 0 ∧ Off tlC H H') := by
  obtain ⟨l0, l1, l2, l3⟩ := id hT
  have hO : Off tlC H H := Off.rf
  show Ev tb 62 0 [some (.ref 102)] [] H _
  refine ev_aload_n i62_0 rfl ?_
  refine ev_iconst (v := nI 0) i62_1 (by decide) ?_
  refine evs_put (fs' := [.ref 103, .ref 104, .ref 105, .int (nI 0)]) i62_2 ci62 fl6_22 (by assumption) ⟨Nat.le_of_ble_eq_true rfl, rfl, Or.inl rfl⟩ rfl (fun H1 hH1 => ?_)
  have l0 : H1[102]? = some (.inr (6, [.ref 103, .ref 104, .ref 105, .int (nI 0)])) := by rw [hH1]; exact set_self l0
  have l1 : H1[103]? = some (IA 6 tc) := by rw [hH1]; exact set_ne l1 (by omega)
  have l2 : H1[104]? = some (IA 6 th) := by rw [hH1]; exact set_ne l2 (by omega)
  have l3 : H1[105]? = some (ZA 6 td) := by rw [hH1]; exact set_ne l3 (by omega)
  have hO : Off tlC H H1 := by rw [hH1]; exact hO.set (by unfold tlC; decide)
  refine ev_vret i62_5 (by decide +kernel) ?_
  exact ⟨rfl, ⟨l0, l1, l2, l3⟩, hO⟩
theorem c64t {tb : dxT} {H : dxH} {tc th : Nat → Nat} {td : Nat → Bool} {tm : Nat} {c h : Nat} {b : Bool} (hT : TelAt H tc th td tm) (htm : tm ≤ 6) (hm : tm < 6) : Cl tb 64 [.ref 102, .int (nI c), .int (nI h), .int (bI b)] H (fun r H' => r = some (.int (bI true)) ∧ TelAt H' (updN tc tm c) (updN th tm h) (updB td tm b) (tm + 1) ∧ Off tlC H H') := by
  obtain ⟨l0, l1, l2, l3⟩ := id hT
  have hO : Off tlC H H := Off.rf
  show Ev tb 64 0 [some (.ref 102), some (.int (nI c)), some (.int (nI h)), some (.int (bI b))] [] H _
  refine ev_aload_n i64_0 rfl ?_
  refine ev_get i64_1 ci64 fl6_22 (by assumption) rfl ?_
  refine ev_bipush (v := nI 6) i64_4 (by decide) ?_
  refine evn_icmp_lt (t := 11) i64_6 (by decide) (by omega) (fun z6 => ?_) (fun z6 => by exfalso; omega)
  refine ev_aload_n i64_11 rfl ?_
  refine ev_get i64_12 ci64 fl6_9 (by assumption) rfl ?_
  refine ev_aload_n i64_15 rfl ?_
  refine ev_get i64_16 ci64 fl6_22 (by assumption) rfl ?_
  refine ev_iload_n i64_19 rfl ?_
  refine evs_iastn i64_20 (by assumption) (by omega) (fun H1 hH1 => ?_)
  have l0 : H1[102]? = some (.inr (6, [.ref 103, .ref 104, .ref 105, .int (nI tm)])) := by rw [hH1]; exact set_ne l0 (by omega)
  have l1 : H1[103]? = some (IA 6 (updN tc tm c)) := by rw [hH1]; exact set_self l1
  have l2 : H1[104]? = some (IA 6 th) := by rw [hH1]; exact set_ne l2 (by omega)
  have l3 : H1[105]? = some (ZA 6 td) := by rw [hH1]; exact set_ne l3 (by omega)
  have hO : Off tlC H H1 := by rw [hH1]; exact hO.set (by unfold tlC; decide)
  refine ev_aload_n i64_21 rfl ?_
  refine ev_get i64_22 ci64 fl6_15 (by assumption) rfl ?_
  refine ev_aload_n i64_25 rfl ?_
  refine ev_get i64_26 ci64 fl6_22 (by assumption) rfl ?_
  refine ev_iload_n i64_29 rfl ?_
  refine evs_iastn i64_30 (by assumption) (by omega) (fun H2 hH2 => ?_)
  have l0 : H2[102]? = some (.inr (6, [.ref 103, .ref 104, .ref 105, .int (nI tm)])) := by rw [hH2]; exact set_ne l0 (by omega)
  have l1 : H2[103]? = some (IA 6 (updN tc tm c)) := by rw [hH2]; exact set_ne l1 (by omega)
  have l2 : H2[104]? = some (IA 6 (updN th tm h)) := by rw [hH2]; exact set_self l2
  have l3 : H2[105]? = some (ZA 6 td) := by rw [hH2]; exact set_ne l3 (by omega)
  have hO : Off tlC H H2 := by rw [hH2]; exact hO.set (by unfold tlC; decide)
  refine ev_aload_n i64_31 rfl ?_
  refine ev_get i64_32 ci64 fl6_18 (by assumption) rfl ?_
  refine ev_aload_n i64_35 rfl ?_
  refine ev_get i64_36 ci64 fl6_22 (by assumption) rfl ?_
  refine ev_iload_n i64_39 rfl ?_
  refine evz_bast i64_40 (by assumption) (by omega) (fun H3 hH3 => ?_)
  have l0 : H3[102]? = some (.inr (6, [.ref 103, .ref 104, .ref 105, .int (nI tm)])) := by rw [hH3]; exact set_ne l0 (by omega)
  have l1 : H3[103]? = some (IA 6 (updN tc tm c)) := by rw [hH3]; exact set_ne l1 (by omega)
  have l2 : H3[104]? = some (IA 6 (updN th tm h)) := by rw [hH3]; exact set_ne l2 (by omega)
  have l3 : H3[105]? = some (ZA 6 (updB td tm b)) := by rw [hH3]; exact set_self l3
  have hO : Off tlC H H3 := by rw [hH3]; exact hO.set (by unfold tlC; decide)
  refine ev_aload_n i64_41 rfl ?_
  refine ev_dup i64_42 rfl ?_
  refine ev_get i64_43 ci64 fl6_22 (by assumption) rfl ?_
  refine ev_iconst (v := nI 1) i64_46 (by decide) ?_
  refine evn_iadd i64_47 ?_
  refine evs_put (fs' := [.ref 103, .ref 104, .ref 105, .int (nI (tm + 1))]) i64_48 ci64 fl6_22 (by assumption) ⟨Nat.le_of_ble_eq_true rfl, rfl, Or.inl rfl⟩ rfl (fun H4 hH4 => ?_)
  have l0 : H4[102]? = some (.inr (6, [.ref 103, .ref 104, .ref 105, .int (nI (tm + 1))])) := by rw [hH4]; exact set_self l0
  have l1 : H4[103]? = some (IA 6 (updN tc tm c)) := by rw [hH4]; exact set_ne l1 (by omega)
  have l2 : H4[104]? = some (IA 6 (updN th tm h)) := by rw [hH4]; exact set_ne l2 (by omega)
  have l3 : H4[105]? = some (ZA 6 (updB td tm b)) := by rw [hH4]; exact set_ne l3 (by omega)
  have hO : Off tlC H H4 := by rw [hH4]; exact hO.set (by unfold tlC; decide)
  refine ev_iconst (v := nI 1) i64_51 (by decide) ?_
  refine ev_zret i64_52 (by decide +kernel) (by decide) ?_
  exact ⟨zt rfl, ⟨l0, l1, l2, l3⟩, hO⟩
theorem c64f {tb : dxT} {H : dxH} {tc th : Nat → Nat} {td : Nat → Bool} {tm : Nat} {c h : Nat} {b : Bool} (hT : TelAt H tc th td tm) (htm : tm ≤ 6) (hm : ¬ tm < 6) : Cl tb 64 [.ref 102, .int (nI c), .int (nI h), .int (bI b)] H (Rt (.int (bI false)) H) := by
  obtain ⟨l0, l1, l2, l3⟩ := id hT
  show Ev tb 64 0 [some (.ref 102), some (.int (nI c)), some (.int (nI h)), some (.int (bI b))] [] H _
  refine ev_aload_n i64_0 rfl ?_
  refine ev_get i64_1 ci64 fl6_22 (by assumption) rfl ?_
  refine ev_bipush (v := nI 6) i64_4 (by decide) ?_
  refine evn_icmp_lt (t := 11) i64_6 (by decide) (by omega) (fun z6 => by exfalso; omega) (fun z6 => ?_)
  refine ev_iconst (v := nI 0) i64_9 (by decide) ?_
  refine ev_zret i64_10 (by decide +kernel) (by decide) ?_
  exact ⟨zf rfl, rfl⟩
/-- what was told of hour h is not so of the i-th telling -/
def offB (he : Nat) (kd fu tc th : Nat → Nat) (td : Nat → Bool) (h i : Nat) : Bool := decide (th i = h) && he.testBit (tc i) && !((he.testBit (tc i) && dueB (kd (tc i)) (fu (tc i))) == td i)
theorem lq65 {tb : dxT} {H : dxH} {a n h : Nat} {sd kd cl ce fu : Nat → Nat} {pa : Nat → Int32} {he : Nat} {sn : Bool} {ho wa : Int32} {tc th : Nat → Nat} {td : Nat → Bool} {tm : Nat} (hM : MdwAt H a cl ce fu pa he sn ho wa) (hH : HrdAt H n sd kd) (hb : he < 64) (ha : 6 ≤ a) (hfu : ∀ j, fu j < 10) (hkd : ∀ j, kd j < 4) (hT : TelAt H tc th td tm) (htm : tm ≤ 6) (htc : ∀ j, tc j < 6) (hth : ∀ j, th j < 8) (hh : h < 2147483648) : ∀ (d i : Nat), i + d = tm → ∀ v, Ev tb 65 2 [some (.ref 102), some (.ref a), some (.int (nI h)), some (.int (nI i)), v] [] H (Rt (.int (bI (!(anyB (offB he kd fu tc th td h) d i)))) H)
  | 0, i, hi, v => by
    obtain ⟨l0, l1, l2, l3⟩ := id hT
    obtain rfl : i = tm := by omega
    show Ev tb 65 2 [some (.ref 102), some (.ref a), some (.int (nI h)), some (.int (nI i)), v] [] H _
    refine ev_iload_n i65_2 rfl ?_
    refine ev_aload_n i65_3 rfl ?_
    refine ev_get i65_4 ci65 fl6_22 (by assumption) rfl ?_
    refine evn_icmp_ge (t := 78) i65_7 (by decide) (by omega) (fun z7 => ?_) (fun z7 => by exfalso; omega)
    refine ev_iconst (v := nI 1) i65_78 (by decide) ?_
    refine ev_zret i65_79 (by decide +kernel) (by decide) ?_
    exact ⟨zt rfl, rfl⟩
  | d + 1, i, hi, v => by
    obtain ⟨m0, m1, m2, m3, m4⟩ := id hM
    obtain ⟨l0, l1, l2, l3⟩ := id hT
    have htci := htc i
    have hthi := hth i
    unfold anyB
    show Ev tb 65 2 [some (.ref 102), some (.ref a), some (.int (nI h)), some (.int (nI i)), v] [] H _
    refine ev_iload_n i65_2 rfl ?_
    refine ev_aload_n i65_3 rfl ?_
    refine ev_get i65_4 ci65 fl6_22 (by assumption) rfl ?_
    refine evn_icmp_ge (t := 78) i65_7 (by decide) (by omega) (fun z7 => by exfalso; omega) (fun z7 => ?_)
    refine ev_iload_n i65_10 rfl ?_
    refine ev_bipush (v := nI 6) i65_11 (by decide) ?_
    refine evn_icmp_ge (t := 78) i65_13 (by decide) (by omega) (fun z13 => by exfalso; omega) (fun z13 => ?_)
    refine ev_aload_n i65_16 rfl ?_
    refine ev_get i65_17 ci65 fl6_15 (by assumption) rfl ?_
    refine ev_iload_n i65_20 rfl ?_
    refine ev_iald_n i65_21 (by assumption) (by omega) ?_
    refine ev_iload_n i65_22 rfl ?_
    refine evn_icmp_ne (t := 43) i65_23 (by decide) (by omega) (fun z23 => ?_) (fun z23 => ?_)
    · refine ev_iconst (v := nI 0) i65_43 (by decide) ?_
      refine ev_istore (L' := [some (.ref 102), some (.ref a), some (.int (nI h)), some (.int (nI i)), some (.int (nI 0))]) i65_44 ⟨Nat.le_of_ble_eq_true rfl, rfl⟩ rfl ?_
      refine ev_iload i65_46 rfl ?_
      refine evn_if_eq (t := 72) i65_48 (by decide) (by omega) (fun z48 => ?_) (fun z48 => by exfalso; omega)
      refine evn_iinc (d := 1) (L' := [some (.ref 102), some (.ref a), some (.int (nI h)), some (.int (nI (i + 1))), some (.int (nI 0))]) i65_72 rfl rfl (by decide) rfl ?_
      refine ev_goto (t := 2) i65_75 (by decide) ?_
      refine (lq65 hM hH hb ha hfu hkd hT htm htc hth hh d (i + 1) (by omega) _).post (fun r H' hq => ⟨hq.1.trans ?_, hq.2⟩)
      have e1 : offB he kd fu tc th td h i = false := by
        unfold offB
        simp [*]
      rw [e1, Bool.false_or]
    · refine ev_aload_n i65_26 rfl ?_
      refine ev_aload_n i65_27 rfl ?_
      refine ev_get i65_28 ci65 fl6_9 (by assumption) rfl ?_
      refine ev_iload_n i65_31 rfl ?_
      refine ev_iald_n i65_32 (by assumption) (by omega) ?_
      refine ev_callV (vs := [.int (nI (tc i))]) (rest := []) i65_33 ci65 lk6_26 (congrArg (fun q => q + 1) np23) ci23 (by decide) (by decide +kernel) (Nat.le_of_ble_eq_true rfl) ⟨rfl, rfl, Nat.le_of_ble_eq_true rfl⟩ rfl (by assumption) (c23 (by assumption) (by omega) (by omega)) (fun r HH hq => ?_)
      obtain ⟨rfl, rfl⟩ := hq
      show Ev tb 65 36 [some (.ref 102), some (.ref a), some (.int (nI h)), some (.int (nI i)), v] [.int (bI (he.testBit (tc i)))] H _
      refine evb_if_eq (t := 43) i65_36 (by decide) (fun z36 => ?_) (fun z36 => ?_)
      · refine ev_iconst (v := nI 0) i65_43 (by decide) ?_
        refine ev_istore (L' := [some (.ref 102), some (.ref a), some (.int (nI h)), some (.int (nI i)), some (.int (nI 0))]) i65_44 ⟨Nat.le_of_ble_eq_true rfl, rfl⟩ rfl ?_
        refine ev_iload i65_46 rfl ?_
        refine evn_if_eq (t := 72) i65_48 (by decide) (by omega) (fun z48 => ?_) (fun z48 => by exfalso; omega)
        refine evn_iinc (d := 1) (L' := [some (.ref 102), some (.ref a), some (.int (nI h)), some (.int (nI (i + 1))), some (.int (nI 0))]) i65_72 rfl rfl (by decide) rfl ?_
        refine ev_goto (t := 2) i65_75 (by decide) ?_
        refine (lq65 hM hH hb ha hfu hkd hT htm htc hth hh d (i + 1) (by omega) _).post (fun r H' hq => ⟨hq.1.trans ?_, hq.2⟩)
        have e1 : offB he kd fu tc th td h i = false := by
          unfold offB
          simp [*]
        rw [e1, Bool.false_or]
      · refine ev_iconst (v := nI 1) i65_39 (by decide) ?_
        refine ev_goto (t := 44) i65_40 (by decide) ?_
        refine ev_istore (L' := [some (.ref 102), some (.ref a), some (.int (nI h)), some (.int (nI i)), some (.int (nI 1))]) i65_44 ⟨Nat.le_of_ble_eq_true rfl, rfl⟩ rfl ?_
        refine ev_iload i65_46 rfl ?_
        refine evn_if_eq (t := 72) i65_48 (by decide) (by omega) (fun z48 => by exfalso; omega) (fun z48 => ?_)
        refine ev_aload_n i65_51 rfl ?_
        refine ev_aload_n i65_52 rfl ?_
        refine ev_get i65_53 ci65 fl6_9 (by assumption) rfl ?_
        refine ev_iload_n i65_56 rfl ?_
        refine ev_iald_n i65_57 (by assumption) (by omega) ?_
        refine ev_callV (vs := [.int (nI (tc i))]) (rest := []) i65_58 ci65 lk6_32 (congrArg (fun q => q + 1) np40) ci40 (by decide) (by decide +kernel) (Nat.le_of_ble_eq_true rfl) ⟨rfl, rfl, Nat.le_of_ble_eq_true rfl⟩ rfl (by assumption) (c40 (by assumption) (by assumption) hb ha hfu hkd (by omega)) (fun r HH hq => ?_)
        obtain ⟨rfl, rfl⟩ := hq
        show Ev tb 65 61 [some (.ref 102), some (.ref a), some (.int (nI h)), some (.int (nI i)), some (.int (nI 1))] [.int (bI (he.testBit (tc i) && dueB (kd (tc i)) (fu (tc i))))] H _
        refine ev_aload_n i65_61 rfl ?_
        refine ev_get i65_62 ci65 fl6_18 (by assumption) rfl ?_
        refine ev_iload_n i65_65 rfl ?_
        refine evz_bald i65_66 (by assumption) (by omega) ?_
        refine evb_icmp_eq (t := 72) i65_67 (by decide) (fun z67 => ?_) (fun z67 => ?_)
        · refine evn_iinc (d := 1) (L' := [some (.ref 102), some (.ref a), some (.int (nI h)), some (.int (nI (i + 1))), some (.int (nI 1))]) i65_72 rfl rfl (by decide) rfl ?_
          refine ev_goto (t := 2) i65_75 (by decide) ?_
          refine (lq65 hM hH hb ha hfu hkd hT htm htc hth hh d (i + 1) (by omega) _).post (fun r H' hq => ⟨hq.1.trans ?_, hq.2⟩)
          have e1 : offB he kd fu tc th td h i = false := by
            unfold offB
            rw [z67]; simp
          rw [e1, Bool.false_or]
        · refine ev_iconst (v := nI 0) i65_70 (by decide) ?_
          refine ev_zret i65_71 (by decide +kernel) (by decide) ?_
          have e1 : offB he kd fu tc th td h i = true := by
            unfold offB
            rw [beq_eq_false_iff_ne.mpr z67]
            simp [*]
          exact ⟨zf (by rw [e1]; rfl), rfl⟩
theorem c65 {tb : dxT} {H : dxH} {a n h : Nat} {sd kd cl ce fu : Nat → Nat} {pa : Nat → Int32} {he : Nat} {sn : Bool} {ho wa : Int32} {tc th : Nat → Nat} {td : Nat → Bool} {tm : Nat} (hM : MdwAt H a cl ce fu pa he sn ho wa) (hH : HrdAt H n sd kd) (hb : he < 64) (ha : 6 ≤ a) (hfu : ∀ j, fu j < 10) (hkd : ∀ j, kd j < 4) (hT : TelAt H tc th td tm) (htm : tm ≤ 6) (htc : ∀ j, tc j < 6) (hth : ∀ j, th j < 8) (hh : h < 2147483648) : Cl tb 65 [.ref 102, .ref a, .int (nI h)] H (Rt (.int (bI (!(anyB (offB he kd fu tc th td h) tm 0)))) H) := by
  show Ev tb 65 0 [some (.ref 102), some (.ref a), some (.int (nI h)), none, none] [] H _
  refine ev_iconst (v := nI 0) i65_0 (by decide) ?_
  refine ev_istore_n (L' := [some (.ref 102), some (.ref a), some (.int (nI h)), some (.int (nI 0)), none]) i65_1 ⟨Nat.le_of_ble_eq_true rfl, rfl⟩ rfl ?_
  exact lq65 hM hH hb ha hfu hkd hT htm htc hth hh tm 0 (Nat.zero_add tm) _
