/-! the model reads its text  -/
def RI (R rs rkk : Nat → Int32) (t : Tl) : Prop := (∀ j, j < 10 → R j = nI (t.2.2.2.1 j)) ∧ (∀ k, k < t.1 → R (10 + k) = nI (t.2.2.2.2.1 k) ∧ R (16 + k) = nI (t.2.2.2.2.2 k) ∧ rs k = nI (t.2.1 k) ∧ rkk k = nI (t.2.2.1 k)) ∧ ∀ j, 22 ≤ j → j < 27 → R j = nI 0
theorem RI.G {R rs rkk : Nat → Int32} {t : Tl} {tx : Nat → Nat} {p : Nat} (h : RI R rs rkk t) (hf : tx (p + 1) - 48 < 10) (ht : t.1 ≤ 6) : RI (upd R (tx (p + 1) - 48) (nI (tx (p + 2) - 48))) rs rkk (telG tx p t) := by
  obtain ⟨h1, h2, h3⟩ := h
  refine ⟨fun j hj => ?_, fun k hk => ?_, fun j h4 h5 => ?_⟩
  · show upd R (tx (p + 1) - 48) (nI (tx (p + 2) - 48)) j = nI (updN t.2.2.2.1 (tx (p + 1) - 48) (tx (p + 2) - 48) j)
    unfold upd updN
    by_cases q : j = tx (p + 1) - 48
    · rw [if_pos q, if_pos q]
    · rw [if_neg q, if_neg q]
      exact h1 j hj
  · have hk2 : k < t.1 := hk
    obtain ⟨k1, k2, k3⟩ := h2 k hk2
    refine ⟨?_, ?_, k3⟩
    · unfold upd
      rw [if_neg (by omega)]
      exact k1
    · unfold upd
      rw [if_neg (by omega)]
      exact k2
  · unfold upd
    rw [if_neg (by omega)]
    exact h3 j h4 h5
theorem RI.K {R rs rkk : Nat → Int32} {t : Tl} {tx : Nat → Nat} {p : Nat} (h : RI R rs rkk t) (ht : t.1 < 6) : RI (upd (upd R (10 + t.1) (nI (tx (p + 1) - 48))) (16 + t.1) (nI (tx (p + 1 + 2) - 48))) (upd rs t.1 (nI (tx (p + 1 + 1) - 48))) (upd rkk t.1 (nI (tx (p + 1 + 3) - 48))) (telK tx p t) := by
  obtain ⟨h1, h2, h3⟩ := h
  refine ⟨fun j hj => ?_, fun k hk => ?_, fun j h4 h5 => ?_⟩
  · unfold upd
    rw [if_neg (by omega), if_neg (by omega)]
    exact h1 j hj
  · have hk2 : k < t.1 + 1 := hk
    show upd (upd R (10 + t.1) _) (16 + t.1) _ (10 + k) = nI (updN t.2.2.2.2.1 t.1 (tx (p + 1) - 48) k) ∧ upd (upd R (10 + t.1) _) (16 + t.1) _ (16 + k) = nI (updN t.2.2.2.2.2 t.1 (tx (p + 3) - 48) k) ∧ upd rs t.1 _ k = nI (updN t.2.1 t.1 (tx (p + 2) - 48) k) ∧ upd rkk t.1 _ k = nI (updN t.2.2.1 t.1 (tx (p + 4) - 48) k)
    unfold upd updN
    by_cases q : k = t.1
    · subst q
      rw [if_neg (by omega), if_pos rfl, if_pos rfl, if_pos rfl, if_pos rfl, if_pos rfl, if_pos rfl, if_pos rfl, if_pos rfl]
      exact ⟨rfl, rfl, rfl, rfl⟩
    · obtain ⟨k1, k2, k3, k4⟩ := h2 k (by omega)
      rw [if_neg (by omega), if_neg (by omega), if_neg q, if_neg (by omega), if_neg (by omega), if_neg q, if_neg q, if_neg q, if_neg q, if_neg q]
      exact ⟨k1, k2, k3, k4⟩
  · unfold upd
    rw [if_neg (by omega), if_neg (by omega)]
    exact h3 j h4 h5
theorem okK1 {tx : Nat → Nat} {us p : Nat} : okP tx false us p 1 = true ↔ (48 + 0 ≤ tx (p + 1 + 1) ∧ tx (p + 1 + 1) ≤ 48 + 1) := by
  have h := okP_s (tx := tx) (g := false) (us := us) (p := p) (i := 0)
  rw [show plo false (0 + 1) = 0 by decide, show phi false (0 + 1) = 1 by decide] at h
  exact h
theorem okK2 {tx : Nat → Nat} {us p : Nat} : okP tx false us p 2 = true ↔ (48 + 0 ≤ tx (p + 1 + 2) ∧ tx (p + 1 + 2) ≤ 48 + 9) := by
  have h := okP_s (tx := tx) (g := false) (us := us) (p := p) (i := 1)
  rw [show plo false (1 + 1) = 0 by decide, show phi false (1 + 1) = 9 by decide] at h
  exact h
theorem okK3 {tx : Nat → Nat} {us p : Nat} : okP tx false us p 3 = true ↔ (48 + 0 ≤ tx (p + 1 + 3) ∧ tx (p + 1 + 3) ≤ 48 + 3) := by
  have h := okP_s (tx := tx) (g := false) (us := us) (p := p) (i := 2)
  rw [show plo false (2 + 1) = 0 by decide, show phi false (2 + 1) = 3 by decide] at h
  exact h
theorem okG1 {tx : Nat → Nat} {us p : Nat} : okP tx true us p 1 = true ↔ (48 + 1 ≤ tx (p + 1 + 1) ∧ tx (p + 1 + 1) ≤ 48 + 9) := by
  have h := okP_s (tx := tx) (g := true) (us := us) (p := p) (i := 0)
  rw [show plo true (0 + 1) = 1 by decide, show phi true (0 + 1) = 9 by decide] at h
  exact h
theorem c125ok {tb : dxT} {H : dxH} {n : Nat} {f : Nat → Int32} {sed : Int64} {ln : Nat} {rv : Int32} {c tk : Nat} {mt : Nat → Int32} {tx : Nat → Nat} {p : Nat} {R rs rkk : Nat → Int32} (c0 : H[111]? = some (pOb n f sed ln (nI c) rv (nI tk) (nI (p + 1)) (-9))) (a5 : H[115]? = some (.inl (0, 27, .inl R))) (a6 : H[116]? = some (.inl (0, 6, .inl rs))) (a7 : H[117]? = some (.inl (0, 6, .inl rkk))) (t0 : H[118]? = some (.inl (0, 64, .inl mt))) (hmt : ∀ j, j < ln → mt j = nI (tx j)) (hln : ln ≤ 64) (htx : ∀ j, tx j < 256) (hc : c < 6) (htk : tk < 1024) (hp64 : p < ln) (k0 : p + 1 < ln ∧ okP tx false tk p 0 = true) (k1 : p + 1 + 1 < ln ∧ okP tx false tk p 1 = true) (k2 : p + 1 + 2 < ln ∧ okP tx false tk p 2 = true) (k3 : p + 1 + 3 < ln ∧ okP tx false tk p 3 = true) : Cl tb 125 [.ref 111] H (fun r H' => r = none ∧ H'[111]? = some (pOb n f sed ln (nI (c + 1)) rv (nI (tk ||| 2 ^ (tx (p + 1) - 48))) (nI (p + 5)) (-9)) ∧ H'[115]? = some (.inl (0, 27, .inl (upd (upd R (10 + c) (nI (tx (p + 1) - 48))) (16 + c) (nI (tx (p + 1 + 2) - 48))))) ∧ H'[116]? = some (.inl (0, 6, .inl (upd rs c (nI (tx (p + 1 + 1) - 48))))) ∧ H'[117]? = some (.inl (0, 6, .inl (upd rkk c (nI (tx (p + 1 + 3) - 48))))) ∧ Off (fun j => j = 111 ∨ (115 ≤ j ∧ j ≤ 117)) H H') := by
  unfold pOb at c0
  have hO : Off (fun j => j = 111 ∨ (115 ≤ j ∧ j ≤ 117)) H H := Off.rf
  obtain ⟨l0, o0⟩ := k0
  obtain ⟨q0, hbit⟩ := okP_0.mp o0
  obtain ⟨l1, o1⟩ := k1
  have q1 := okK1.mp o1
  obtain ⟨l2, o2⟩ := k2
  have q2 := okK2.mp o2
  obtain ⟨l3, o3⟩ := k3
  have q3 := okK3.mp o3
  show Ev tb 125 0 [some (.ref 111)] [] H _
  refine ev_aload_n i125_0 rfl ?_
  refine ev_get i125_1 ci125 fl8_19 (by assumption) rfl ?_
  refine ev_bipush (v := nI 10) i125_4 (by decide) ?_
  refine ev_aload_n i125_6 rfl ?_
  refine ev_get i125_7 ci125 fl8_81 (by assumption) rfl ?_
  refine evn_iadd i125_10 ?_
  refine ev_aload_n i125_11 rfl ?_
  refine ev_sipush (v := nI 1023) i125_12 (by decide) ?_
  refine ev_aload_n i125_15 rfl ?_
  refine ev_get i125_16 ci125 fl8_87 (by assumption) rfl ?_
  refine ev_iconst (v := (-1)) i125_19 (by decide) ?_
  refine ev_ixor i125_20 ?_
  refine ev_iand i125_21 ?_
  rw [msk tk htk]
  refine ev_callV (vs := [.int (nI (1023 - tk))]) (rest := [.int (nI (10 + c)), .ref 115]) i125_22 ci125 lk8_90 (congrArg (fun q => q + 1) np123) ci123 (by decide) (by decide +kernel) (Nat.le_of_ble_eq_true rfl) ⟨rfl, rfl, Nat.le_of_ble_eq_true rfl⟩ rfl (by assumption) (c123ok c0 t0 hmt hln htx (by omega) (by omega) (by omega) (by omega) hbit) (fun r H1 hq => ?_)
  obtain ⟨rfl, c0, hO1⟩ := hq
  have c0 : H1[111]? = some (.inr (8, [.int (nI n), .ref 112, .ref 113, .ref 114, .ref 115, .ref 116, .ref 117, .int (nI c), .int rv, .int (nI tk), .ref 118, .int (nI ln), .int (nI (p + 1 + 1)), .int (-9), .int (f 6), .int (f 7), .ref 119, .ref 120, .int (f 8), .ref 121, .ref 122, .ref 123, .ref 124, .long sed, .ref 125, .ref 126])) := c0
  have a5 := hO1.at a5 (by decide)
  have a6 := hO1.at a6 (by decide)
  have a7 := hO1.at a7 (by decide)
  have t0 := hO1.at t0 (by decide)
  have hO := hO.trans hO1 (C := (fun j => j = 111 ∨ (115 ≤ j ∧ j ≤ 117))) (fun _ q => q) (fun _ q => Or.inl q)
  show Ev tb 125 25 [some (.ref 111)] [.int (nI (tx (p + 1) - 48)), .int (nI (10 + c)), .ref 115] H1 _
  refine evs_iastw i125_25 (by assumption) (by omega) (fun H2 hH2 => ?_)
  have c0 : H2[111]? = some (.inr (8, [.int (nI n), .ref 112, .ref 113, .ref 114, .ref 115, .ref 116, .ref 117, .int (nI c), .int rv, .int (nI tk), .ref 118, .int (nI ln), .int (nI (p + 1 + 1)), .int (-9), .int (f 6), .int (f 7), .ref 119, .ref 120, .int (f 8), .ref 121, .ref 122, .ref 123, .ref 124, .long sed, .ref 125, .ref 126])) := by rw [hH2]; exact set_ne c0 (by omega)
  have a5 : H2[115]? = some (.inl (0, 27, .inl (upd R (10 + c) (nI (tx (p + 1) - 48))))) := by rw [hH2]; exact set_self a5
  have a6 : H2[116]? = some (.inl (0, 6, .inl rs)) := by rw [hH2]; exact set_ne a6 (by omega)
  have a7 : H2[117]? = some (.inl (0, 6, .inl rkk)) := by rw [hH2]; exact set_ne a7 (by omega)
  have t0 : H2[118]? = some (.inl (0, 64, .inl mt)) := by rw [hH2]; exact set_ne t0 (by omega)
  have hO : Off (fun j => j = 111 ∨ (115 ≤ j ∧ j ≤ 117)) H H2 := by rw [hH2]; exact hO.set (by first | exact Or.inl rfl | exact Or.inr ⟨by decide, by decide⟩)
  refine ev_aload_n i125_26 rfl ?_
  refine ev_get i125_27 ci125 fl8_22 (by assumption) rfl ?_
  refine ev_aload_n i125_30 rfl ?_
  refine ev_get i125_31 ci125 fl8_81 (by assumption) rfl ?_
  refine ev_aload_n i125_34 rfl ?_
  refine ev_iconst (v := nI 0) i125_35 (by decide) ?_
  refine ev_iconst (v := nI 1) i125_36 (by decide) ?_
  refine ev_callV (vs := [.int (nI 0), .int (nI 1)]) (rest := [.int (nI c), .ref 116]) i125_37 ci125 lk8_94 (congrArg (fun q => q + 1) np122) ci122 (by decide) (by decide +kernel) (Nat.le_of_ble_eq_true rfl) ⟨rfl, rfl, Nat.le_of_ble_eq_true rfl⟩ rfl (by assumption) (c122ok c0 t0 hmt hln htx (by decide) (by decide) (by omega) (by omega) (by omega)) (fun r H3 hq => ?_)
  obtain ⟨rfl, c0, hO3⟩ := hq
  have c0 : H3[111]? = some (.inr (8, [.int (nI n), .ref 112, .ref 113, .ref 114, .ref 115, .ref 116, .ref 117, .int (nI c), .int rv, .int (nI tk), .ref 118, .int (nI ln), .int (nI (p + 1 + 2)), .int (-9), .int (f 6), .int (f 7), .ref 119, .ref 120, .int (f 8), .ref 121, .ref 122, .ref 123, .ref 124, .long sed, .ref 125, .ref 126])) := c0
  have a5 := hO3.at a5 (by decide)
  have a6 := hO3.at a6 (by decide)
  have a7 := hO3.at a7 (by decide)
  have t0 := hO3.at t0 (by decide)
  have hO := hO.trans hO3 (C := (fun j => j = 111 ∨ (115 ≤ j ∧ j ≤ 117))) (fun _ q => q) (fun _ q => Or.inl q)
  show Ev tb 125 40 [some (.ref 111)] [.int (nI (tx (p + 1 + 1) - 48)), .int (nI c), .ref 116] H3 _
  refine evs_iastw i125_40 (by assumption) (by omega) (fun H4 hH4 => ?_)
  have c0 : H4[111]? = some (.inr (8, [.int (nI n), .ref 112, .ref 113, .ref 114, .ref 115, .ref 116, .ref 117, .int (nI c), .int rv, .int (nI tk), .ref 118, .int (nI ln), .int (nI (p + 1 + 2)), .int (-9), .int (f 6), .int (f 7), .ref 119, .ref 120, .int (f 8), .ref 121, .ref 122, .ref 123, .ref 124, .long sed, .ref 125, .ref 126])) := by rw [hH4]; exact set_ne c0 (by omega)
  have a5 : H4[115]? = some (.inl (0, 27, .inl (upd R (10 + c) (nI (tx (p + 1) - 48))))) := by rw [hH4]; exact set_ne a5 (by omega)
  have a6 : H4[116]? = some (.inl (0, 6, .inl (upd rs c (nI (tx (p + 1 + 1) - 48))))) := by rw [hH4]; exact set_self a6
  have a7 : H4[117]? = some (.inl (0, 6, .inl rkk)) := by rw [hH4]; exact set_ne a7 (by omega)
  have t0 : H4[118]? = some (.inl (0, 64, .inl mt)) := by rw [hH4]; exact set_ne t0 (by omega)
  have hO : Off (fun j => j = 111 ∨ (115 ≤ j ∧ j ≤ 117)) H H4 := by rw [hH4]; exact hO.set (by first | exact Or.inl rfl | exact Or.inr ⟨by decide, by decide⟩)
  refine ev_aload_n i125_41 rfl ?_
  refine ev_get i125_42 ci125 fl8_19 (by assumption) rfl ?_
  refine ev_bipush (v := nI 16) i125_45 (by decide) ?_
  refine ev_aload_n i125_47 rfl ?_
  refine ev_get i125_48 ci125 fl8_81 (by assumption) rfl ?_
  refine evn_iadd i125_51 ?_
  refine ev_aload_n i125_52 rfl ?_
  refine ev_iconst (v := nI 0) i125_53 (by decide) ?_
  refine ev_bipush (v := nI 9) i125_54 (by decide) ?_
  refine ev_callV (vs := [.int (nI 0), .int (nI 9)]) (rest := [.int (nI (16 + c)), .ref 115]) i125_56 ci125 lk8_94 (congrArg (fun q => q + 1) np122) ci122 (by decide) (by decide +kernel) (Nat.le_of_ble_eq_true rfl) ⟨rfl, rfl, Nat.le_of_ble_eq_true rfl⟩ rfl (by assumption) (c122ok c0 t0 hmt hln htx (by decide) (by decide) (by omega) (by omega) (by omega)) (fun r H5 hq => ?_)
  obtain ⟨rfl, c0, hO5⟩ := hq
  have c0 : H5[111]? = some (.inr (8, [.int (nI n), .ref 112, .ref 113, .ref 114, .ref 115, .ref 116, .ref 117, .int (nI c), .int rv, .int (nI tk), .ref 118, .int (nI ln), .int (nI (p + 1 + 3)), .int (-9), .int (f 6), .int (f 7), .ref 119, .ref 120, .int (f 8), .ref 121, .ref 122, .ref 123, .ref 124, .long sed, .ref 125, .ref 126])) := c0
  have a5 := hO5.at a5 (by decide)
  have a6 := hO5.at a6 (by decide)
  have a7 := hO5.at a7 (by decide)
  have t0 := hO5.at t0 (by decide)
  have hO := hO.trans hO5 (C := (fun j => j = 111 ∨ (115 ≤ j ∧ j ≤ 117))) (fun _ q => q) (fun _ q => Or.inl q)
  show Ev tb 125 59 [some (.ref 111)] [.int (nI (tx (p + 1 + 2) - 48)), .int (nI (16 + c)), .ref 115] H5 _
  refine evs_iastw i125_59 (by assumption) (by omega) (fun H6 hH6 => ?_)
  have c0 : H6[111]? = some (.inr (8, [.int (nI n), .ref 112, .ref 113, .ref 114, .ref 115, .ref 116, .ref 117, .int (nI c), .int rv, .int (nI tk), .ref 118, .int (nI ln), .int (nI (p + 1 + 3)), .int (-9), .int (f 6), .int (f 7), .ref 119, .ref 120, .int (f 8), .ref 121, .ref 122, .ref 123, .ref 124, .long sed, .ref 125, .ref 126])) := by rw [hH6]; exact set_ne c0 (by omega)
  have a5 : H6[115]? = some (.inl (0, 27, .inl (upd (upd R (10 + c) (nI (tx (p + 1) - 48))) (16 + c) (nI (tx (p + 1 + 2) - 48))))) := by rw [hH6]; exact set_self a5
  have a6 : H6[116]? = some (.inl (0, 6, .inl (upd rs c (nI (tx (p + 1 + 1) - 48))))) := by rw [hH6]; exact set_ne a6 (by omega)
  have a7 : H6[117]? = some (.inl (0, 6, .inl rkk)) := by rw [hH6]; exact set_ne a7 (by omega)
  have t0 : H6[118]? = some (.inl (0, 64, .inl mt)) := by rw [hH6]; exact set_ne t0 (by omega)
  have hO : Off (fun j => j = 111 ∨ (115 ≤ j ∧ j ≤ 117)) H H6 := by rw [hH6]; exact hO.set (by first | exact Or.inl rfl | exact Or.inr ⟨by decide, by decide⟩)
  refine ev_aload_n i125_60 rfl ?_
  refine ev_get i125_61 ci125 fl8_25 (by assumption) rfl ?_
  refine ev_aload_n i125_64 rfl ?_
  refine ev_get i125_65 ci125 fl8_81 (by assumption) rfl ?_
  refine ev_aload_n i125_68 rfl ?_
  refine ev_iconst (v := nI 0) i125_69 (by decide) ?_
  refine ev_iconst (v := nI 3) i125_70 (by decide) ?_
  refine ev_callV (vs := [.int (nI 0), .int (nI 3)]) (rest := [.int (nI c), .ref 117]) i125_71 ci125 lk8_94 (congrArg (fun q => q + 1) np122) ci122 (by decide) (by decide +kernel) (Nat.le_of_ble_eq_true rfl) ⟨rfl, rfl, Nat.le_of_ble_eq_true rfl⟩ rfl (by assumption) (c122ok c0 t0 hmt hln htx (by decide) (by decide) (by omega) (by omega) (by omega)) (fun r H7 hq => ?_)
  obtain ⟨rfl, c0, hO7⟩ := hq
  have c0 : H7[111]? = some (.inr (8, [.int (nI n), .ref 112, .ref 113, .ref 114, .ref 115, .ref 116, .ref 117, .int (nI c), .int rv, .int (nI tk), .ref 118, .int (nI ln), .int (nI (p + 1 + 4)), .int (-9), .int (f 6), .int (f 7), .ref 119, .ref 120, .int (f 8), .ref 121, .ref 122, .ref 123, .ref 124, .long sed, .ref 125, .ref 126])) := c0
  have a5 := hO7.at a5 (by decide)
  have a6 := hO7.at a6 (by decide)
  have a7 := hO7.at a7 (by decide)
  have t0 := hO7.at t0 (by decide)
  have hO := hO.trans hO7 (C := (fun j => j = 111 ∨ (115 ≤ j ∧ j ≤ 117))) (fun _ q => q) (fun _ q => Or.inl q)
  show Ev tb 125 74 [some (.ref 111)] [.int (nI (tx (p + 1 + 3) - 48)), .int (nI c), .ref 117] H7 _
  refine evs_iastw i125_74 (by assumption) (by omega) (fun H8 hH8 => ?_)
  have c0 : H8[111]? = some (.inr (8, [.int (nI n), .ref 112, .ref 113, .ref 114, .ref 115, .ref 116, .ref 117, .int (nI c), .int rv, .int (nI tk), .ref 118, .int (nI ln), .int (nI (p + 1 + 4)), .int (-9), .int (f 6), .int (f 7), .ref 119, .ref 120, .int (f 8), .ref 121, .ref 122, .ref 123, .ref 124, .long sed, .ref 125, .ref 126])) := by rw [hH8]; exact set_ne c0 (by omega)
  have a5 : H8[115]? = some (.inl (0, 27, .inl (upd (upd R (10 + c) (nI (tx (p + 1) - 48))) (16 + c) (nI (tx (p + 1 + 2) - 48))))) := by rw [hH8]; exact set_ne a5 (by omega)
  have a6 : H8[116]? = some (.inl (0, 6, .inl (upd rs c (nI (tx (p + 1 + 1) - 48))))) := by rw [hH8]; exact set_ne a6 (by omega)
  have a7 : H8[117]? = some (.inl (0, 6, .inl (upd rkk c (nI (tx (p + 1 + 3) - 48))))) := by rw [hH8]; exact set_self a7
  have t0 : H8[118]? = some (.inl (0, 64, .inl mt)) := by rw [hH8]; exact set_ne t0 (by omega)
  have hO : Off (fun j => j = 111 ∨ (115 ≤ j ∧ j ≤ 117)) H H8 := by rw [hH8]; exact hO.set (by first | exact Or.inl rfl | exact Or.inr ⟨by decide, by decide⟩)
  refine ev_aload_n i125_75 rfl ?_
  refine ev_dup i125_76 rfl ?_
  refine ev_get i125_77 ci125 fl8_87 (by assumption) rfl ?_
  refine ev_iconst (v := nI 1) i125_80 (by decide) ?_
  refine ev_aload_n i125_81 rfl ?_
  refine ev_get i125_82 ci125 fl8_19 (by assumption) rfl ?_
  refine ev_bipush (v := nI 10) i125_85 (by decide) ?_
  refine ev_aload_n i125_87 rfl ?_
  refine ev_get i125_88 ci125 fl8_81 (by assumption) rfl ?_
  refine evn_iadd i125_91 ?_
  refine ev_iald_n i125_92 (by assumption) (by omega) ?_
  have hh : (upd (upd R (10 + c) (nI (tx (p + 1) - 48))) (16 + c) (nI (tx (p + 1 + 2) - 48))) (10 + c) = nI (tx (p + 1) - 48) := by
    unfold upd
    rw [if_neg (by omega), if_pos rfl]
  rw [hh]
  refine ev_ishl i125_93 ?_
  refine ev_ior i125_94 ?_
  rw [or10 tk htk (tx (p + 1) - 48) (by omega)]
  refine evs_put (fs' := [.int (nI n), .ref 112, .ref 113, .ref 114, .ref 115, .ref 116, .ref 117, .int (nI c), .int rv, .int (nI (tk ||| 2 ^ (tx (p + 1) - 48))), .ref 118, .int (nI ln), .int (nI (p + 1 + 4)), .int (-9), .int (f 6), .int (f 7), .ref 119, .ref 120, .int (f 8), .ref 121, .ref 122, .ref 123, .ref 124, .long sed, .ref 125, .ref 126]) i125_95 ci125 fl8_87 (by assumption) ⟨Nat.le_of_ble_eq_true rfl, rfl, Or.inl rfl⟩ rfl (fun H9 hH9 => ?_)
  have c0 : H9[111]? = some (.inr (8, [.int (nI n), .ref 112, .ref 113, .ref 114, .ref 115, .ref 116, .ref 117, .int (nI c), .int rv, .int (nI (tk ||| 2 ^ (tx (p + 1) - 48))), .ref 118, .int (nI ln), .int (nI (p + 1 + 4)), .int (-9), .int (f 6), .int (f 7), .ref 119, .ref 120, .int (f 8), .ref 121, .ref 122, .ref 123, .ref 124, .long sed, .ref 125, .ref 126])) := by rw [hH9]; exact set_self c0
  have a5 : H9[115]? = some (.inl (0, 27, .inl (upd (upd R (10 + c) (nI (tx (p + 1) - 48))) (16 + c) (nI (tx (p + 1 + 2) - 48))))) := by rw [hH9]; exact set_ne a5 (by omega)
  have a6 : H9[116]? = some (.inl (0, 6, .inl (upd rs c (nI (tx (p + 1 + 1) - 48))))) := by rw [hH9]; exact set_ne a6 (by omega)
  have a7 : H9[117]? = some (.inl (0, 6, .inl (upd rkk c (nI (tx (p + 1 + 3) - 48))))) := by rw [hH9]; exact set_ne a7 (by omega)
  have t0 : H9[118]? = some (.inl (0, 64, .inl mt)) := by rw [hH9]; exact set_ne t0 (by omega)
  have hO : Off (fun j => j = 111 ∨ (115 ≤ j ∧ j ≤ 117)) H H9 := by rw [hH9]; exact hO.set (by first | exact Or.inl rfl | exact Or.inr ⟨by decide, by decide⟩)
  refine ev_aload_n i125_98 rfl ?_
  refine ev_dup i125_99 rfl ?_
  refine ev_get i125_100 ci125 fl8_81 (by assumption) rfl ?_
  refine ev_iconst (v := nI 1) i125_103 (by decide) ?_
  refine evn_iadd i125_104 ?_
  refine evs_put (fs' := [.int (nI n), .ref 112, .ref 113, .ref 114, .ref 115, .ref 116, .ref 117, .int (nI (c + 1)), .int rv, .int (nI (tk ||| 2 ^ (tx (p + 1) - 48))), .ref 118, .int (nI ln), .int (nI (p + 1 + 4)), .int (-9), .int (f 6), .int (f 7), .ref 119, .ref 120, .int (f 8), .ref 121, .ref 122, .ref 123, .ref 124, .long sed, .ref 125, .ref 126]) i125_105 ci125 fl8_81 (by assumption) ⟨Nat.le_of_ble_eq_true rfl, rfl, Or.inl rfl⟩ rfl (fun H10 hH10 => ?_)
  have c0 : H10[111]? = some (.inr (8, [.int (nI n), .ref 112, .ref 113, .ref 114, .ref 115, .ref 116, .ref 117, .int (nI (c + 1)), .int rv, .int (nI (tk ||| 2 ^ (tx (p + 1) - 48))), .ref 118, .int (nI ln), .int (nI (p + 1 + 4)), .int (-9), .int (f 6), .int (f 7), .ref 119, .ref 120, .int (f 8), .ref 121, .ref 122, .ref 123, .ref 124, .long sed, .ref 125, .ref 126])) := by rw [hH10]; exact set_self c0
  have a5 : H10[115]? = some (.inl (0, 27, .inl (upd (upd R (10 + c) (nI (tx (p + 1) - 48))) (16 + c) (nI (tx (p + 1 + 2) - 48))))) := by rw [hH10]; exact set_ne a5 (by omega)
  have a6 : H10[116]? = some (.inl (0, 6, .inl (upd rs c (nI (tx (p + 1 + 1) - 48))))) := by rw [hH10]; exact set_ne a6 (by omega)
  have a7 : H10[117]? = some (.inl (0, 6, .inl (upd rkk c (nI (tx (p + 1 + 3) - 48))))) := by rw [hH10]; exact set_ne a7 (by omega)
  have t0 : H10[118]? = some (.inl (0, 64, .inl mt)) := by rw [hH10]; exact set_ne t0 (by omega)
  have hO : Off (fun j => j = 111 ∨ (115 ≤ j ∧ j ≤ 117)) H H10 := by rw [hH10]; exact hO.set (by first | exact Or.inl rfl | exact Or.inr ⟨by decide, by decide⟩)
  refine ev_vret i125_108 (by decide +kernel) ?_
  exact ⟨rfl, c0, a5, a6, a7, hO⟩
theorem c125b0 {tb : dxT} {H : dxH} {n : Nat} {f : Nat → Int32} {sed : Int64} {ln : Nat} {rv : Int32} {c tk : Nat} {mt : Nat → Int32} {tx : Nat → Nat} {p : Nat} {R rs rkk : Nat → Int32} (c0 : H[111]? = some (pOb n f sed ln (nI c) rv (nI tk) (nI (p + 1)) (-9))) (a5 : H[115]? = some (.inl (0, 27, .inl R))) (a6 : H[116]? = some (.inl (0, 6, .inl rs))) (a7 : H[117]? = some (.inl (0, 6, .inl rkk))) (t0 : H[118]? = some (.inl (0, 64, .inl mt))) (hmt : ∀ j, j < ln → mt j = nI (tx j)) (hln : ln ≤ 64) (htx : ∀ j, tx j < 256) (hc : c < 6) (htk : tk < 1024) (hp64 : p < ln) (kb : ¬ (p + 1 < ln ∧ okP tx false tk p 0 = true)) (hle : p + 1 ≤ ln) : Cl tb 125 [.ref 111] H (fun r H' => r = none ∧ ∃ (rc rv rl at_ : Int32) (R rs rkk : Nat → Int32), H'[111]? = some (pOb n f sed ln rc rv rl at_ (nI (p + 1))) ∧ H'[115]? = some (.inl (0, 27, .inl R)) ∧ H'[116]? = some (.inl (0, 6, .inl rs)) ∧ H'[117]? = some (.inl (0, 6, .inl rkk)) ∧ Off (fun j => j = 111 ∨ (115 ≤ j ∧ j ≤ 117)) H H') := by
  unfold pOb at c0
  have hO : Off (fun j => j = 111 ∨ (115 ≤ j ∧ j ≤ 117)) H H := Off.rf
  have hbad : ¬ (p + 1 < ln ∧ (48 ≤ tx (p + 1) ∧ tx (p + 1) ≤ 57) ∧ tk.testBit (tx (p + 1) - 48) = false) := fun u => kb ⟨u.1, okP_0.mpr u.2⟩
  show Ev tb 125 0 [some (.ref 111)] [] H _
  refine ev_aload_n i125_0 rfl ?_
  refine ev_get i125_1 ci125 fl8_19 (by assumption) rfl ?_
  refine ev_bipush (v := nI 10) i125_4 (by decide) ?_
  refine ev_aload_n i125_6 rfl ?_
  refine ev_get i125_7 ci125 fl8_81 (by assumption) rfl ?_
  refine evn_iadd i125_10 ?_
  refine ev_aload_n i125_11 rfl ?_
  refine ev_sipush (v := nI 1023) i125_12 (by decide) ?_
  refine ev_aload_n i125_15 rfl ?_
  refine ev_get i125_16 ci125 fl8_87 (by assumption) rfl ?_
  refine ev_iconst (v := (-1)) i125_19 (by decide) ?_
  refine ev_ixor i125_20 ?_
  refine ev_iand i125_21 ?_
  rw [msk tk htk]
  refine ev_callV (vs := [.int (nI (1023 - tk))]) (rest := [.int (nI (10 + c)), .ref 115]) i125_22 ci125 lk8_90 (congrArg (fun q => q + 1) np123) ci123 (by decide) (by decide +kernel) (Nat.le_of_ble_eq_true rfl) ⟨rfl, rfl, Nat.le_of_ble_eq_true rfl⟩ rfl (by assumption) (c123bad c0 t0 hmt hln htx (by omega) (by omega) hbad) (fun r H1 hq => ?_)
  obtain ⟨rfl, c0, hO1⟩ := hq
  have c0 : H1[111]? = some (.inr (8, [.int (nI n), .ref 112, .ref 113, .ref 114, .ref 115, .ref 116, .ref 117, .int (nI c), .int rv, .int (nI tk), .ref 118, .int (nI ln), .int (nI (p + 1)), .int (nI (p + 1)), .int (f 6), .int (f 7), .ref 119, .ref 120, .int (f 8), .ref 121, .ref 122, .ref 123, .ref 124, .long sed, .ref 125, .ref 126])) := c0
  have a5 := hO1.at a5 (by decide)
  have a6 := hO1.at a6 (by decide)
  have a7 := hO1.at a7 (by decide)
  have t0 := hO1.at t0 (by decide)
  have hO := hO.trans hO1 (C := (fun j => j = 111 ∨ (115 ≤ j ∧ j ≤ 117))) (fun _ q => q) (fun _ q => Or.inl q)
  show Ev tb 125 25 [some (.ref 111)] [.int (nI 0), .int (nI (10 + c)), .ref 115] H1 _
  refine evs_iastw i125_25 (by assumption) (by omega) (fun H2 hH2 => ?_)
  have c0 : H2[111]? = some (.inr (8, [.int (nI n), .ref 112, .ref 113, .ref 114, .ref 115, .ref 116, .ref 117, .int (nI c), .int rv, .int (nI tk), .ref 118, .int (nI ln), .int (nI (p + 1)), .int (nI (p + 1)), .int (f 6), .int (f 7), .ref 119, .ref 120, .int (f 8), .ref 121, .ref 122, .ref 123, .ref 124, .long sed, .ref 125, .ref 126])) := by rw [hH2]; exact set_ne c0 (by omega)
  have a5 : H2[115]? = some (.inl (0, 27, .inl (upd R (10 + c) (nI 0)))) := by rw [hH2]; exact set_self a5
  have a6 : H2[116]? = some (.inl (0, 6, .inl rs)) := by rw [hH2]; exact set_ne a6 (by omega)
  have a7 : H2[117]? = some (.inl (0, 6, .inl rkk)) := by rw [hH2]; exact set_ne a7 (by omega)
  have t0 : H2[118]? = some (.inl (0, 64, .inl mt)) := by rw [hH2]; exact set_ne t0 (by omega)
  have hO : Off (fun j => j = 111 ∨ (115 ≤ j ∧ j ≤ 117)) H H2 := by rw [hH2]; exact hO.set (by first | exact Or.inl rfl | exact Or.inr ⟨by decide, by decide⟩)
  refine ev_aload_n i125_26 rfl ?_
  refine ev_get i125_27 ci125 fl8_22 (by assumption) rfl ?_
  refine ev_aload_n i125_30 rfl ?_
  refine ev_get i125_31 ci125 fl8_81 (by assumption) rfl ?_
  refine ev_aload_n i125_34 rfl ?_
  refine ev_iconst (v := nI 0) i125_35 (by decide) ?_
  refine ev_iconst (v := nI 1) i125_36 (by decide) ?_
  refine ev_callV (vs := [.int (nI 0), .int (nI 1)]) (rest := [.int (nI c), .ref 116]) i125_37 ci125 lk8_94 (congrArg (fun q => q + 1) np122) ci122 (by decide) (by decide +kernel) (Nat.le_of_ble_eq_true rfl) ⟨rfl, rfl, Nat.le_of_ble_eq_true rfl⟩ rfl (by assumption) (c122skip (p := 0) c0 t0 hmt hln htx (by decide) (by decide) (m9_ne (by omega))) (fun r H3 hq => ?_)
  obtain ⟨rfl, c0, hO3⟩ := hq
  have c0 : H3[111]? = some (.inr (8, [.int (nI n), .ref 112, .ref 113, .ref 114, .ref 115, .ref 116, .ref 117, .int (nI c), .int rv, .int (nI tk), .ref 118, .int (nI ln), .int (nI (p + 1)), .int (nI (p + 1)), .int (f 6), .int (f 7), .ref 119, .ref 120, .int (f 8), .ref 121, .ref 122, .ref 123, .ref 124, .long sed, .ref 125, .ref 126])) := c0
  have a5 := hO3.at a5 (by decide)
  have a6 := hO3.at a6 (by decide)
  have a7 := hO3.at a7 (by decide)
  have t0 := hO3.at t0 (by decide)
  have hO := hO.trans hO3 (C := (fun j => j = 111 ∨ (115 ≤ j ∧ j ≤ 117))) (fun _ q => q) (fun _ q => Or.inl q)
  show Ev tb 125 40 [some (.ref 111)] [.int (nI 0), .int (nI c), .ref 116] H3 _
  refine evs_iastw i125_40 (by assumption) (by omega) (fun H4 hH4 => ?_)
  have c0 : H4[111]? = some (.inr (8, [.int (nI n), .ref 112, .ref 113, .ref 114, .ref 115, .ref 116, .ref 117, .int (nI c), .int rv, .int (nI tk), .ref 118, .int (nI ln), .int (nI (p + 1)), .int (nI (p + 1)), .int (f 6), .int (f 7), .ref 119, .ref 120, .int (f 8), .ref 121, .ref 122, .ref 123, .ref 124, .long sed, .ref 125, .ref 126])) := by rw [hH4]; exact set_ne c0 (by omega)
  have a5 : H4[115]? = some (.inl (0, 27, .inl (upd R (10 + c) (nI 0)))) := by rw [hH4]; exact set_ne a5 (by omega)
  have a6 : H4[116]? = some (.inl (0, 6, .inl (upd rs c (nI 0)))) := by rw [hH4]; exact set_self a6
  have a7 : H4[117]? = some (.inl (0, 6, .inl rkk)) := by rw [hH4]; exact set_ne a7 (by omega)
  have t0 : H4[118]? = some (.inl (0, 64, .inl mt)) := by rw [hH4]; exact set_ne t0 (by omega)
  have hO : Off (fun j => j = 111 ∨ (115 ≤ j ∧ j ≤ 117)) H H4 := by rw [hH4]; exact hO.set (by first | exact Or.inl rfl | exact Or.inr ⟨by decide, by decide⟩)
  refine ev_aload_n i125_41 rfl ?_
  refine ev_get i125_42 ci125 fl8_19 (by assumption) rfl ?_
  refine ev_bipush (v := nI 16) i125_45 (by decide) ?_
  refine ev_aload_n i125_47 rfl ?_
  refine ev_get i125_48 ci125 fl8_81 (by assumption) rfl ?_
  refine evn_iadd i125_51 ?_
  refine ev_aload_n i125_52 rfl ?_
  refine ev_iconst (v := nI 0) i125_53 (by decide) ?_
  refine ev_bipush (v := nI 9) i125_54 (by decide) ?_
  refine ev_callV (vs := [.int (nI 0), .int (nI 9)]) (rest := [.int (nI (16 + c)), .ref 115]) i125_56 ci125 lk8_94 (congrArg (fun q => q + 1) np122) ci122 (by decide) (by decide +kernel) (Nat.le_of_ble_eq_true rfl) ⟨rfl, rfl, Nat.le_of_ble_eq_true rfl⟩ rfl (by assumption) (c122skip (p := 0) c0 t0 hmt hln htx (by decide) (by decide) (m9_ne (by omega))) (fun r H5 hq => ?_)
  obtain ⟨rfl, c0, hO5⟩ := hq
  have c0 : H5[111]? = some (.inr (8, [.int (nI n), .ref 112, .ref 113, .ref 114, .ref 115, .ref 116, .ref 117, .int (nI c), .int rv, .int (nI tk), .ref 118, .int (nI ln), .int (nI (p + 1)), .int (nI (p + 1)), .int (f 6), .int (f 7), .ref 119, .ref 120, .int (f 8), .ref 121, .ref 122, .ref 123, .ref 124, .long sed, .ref 125, .ref 126])) := c0
  have a5 := hO5.at a5 (by decide)
  have a6 := hO5.at a6 (by decide)
  have a7 := hO5.at a7 (by decide)
  have t0 := hO5.at t0 (by decide)
  have hO := hO.trans hO5 (C := (fun j => j = 111 ∨ (115 ≤ j ∧ j ≤ 117))) (fun _ q => q) (fun _ q => Or.inl q)
  show Ev tb 125 59 [some (.ref 111)] [.int (nI 0), .int (nI (16 + c)), .ref 115] H5 _
  refine evs_iastw i125_59 (by assumption) (by omega) (fun H6 hH6 => ?_)
  have c0 : H6[111]? = some (.inr (8, [.int (nI n), .ref 112, .ref 113, .ref 114, .ref 115, .ref 116, .ref 117, .int (nI c), .int rv, .int (nI tk), .ref 118, .int (nI ln), .int (nI (p + 1)), .int (nI (p + 1)), .int (f 6), .int (f 7), .ref 119, .ref 120, .int (f 8), .ref 121, .ref 122, .ref 123, .ref 124, .long sed, .ref 125, .ref 126])) := by rw [hH6]; exact set_ne c0 (by omega)
  have a5 : H6[115]? = some (.inl (0, 27, .inl (upd (upd R (10 + c) (nI 0)) (16 + c) (nI 0)))) := by rw [hH6]; exact set_self a5
  have a6 : H6[116]? = some (.inl (0, 6, .inl (upd rs c (nI 0)))) := by rw [hH6]; exact set_ne a6 (by omega)
  have a7 : H6[117]? = some (.inl (0, 6, .inl rkk)) := by rw [hH6]; exact set_ne a7 (by omega)
  have t0 : H6[118]? = some (.inl (0, 64, .inl mt)) := by rw [hH6]; exact set_ne t0 (by omega)
  have hO : Off (fun j => j = 111 ∨ (115 ≤ j ∧ j ≤ 117)) H H6 := by rw [hH6]; exact hO.set (by first | exact Or.inl rfl | exact Or.inr ⟨by decide, by decide⟩)
  refine ev_aload_n i125_60 rfl ?_
  refine ev_get i125_61 ci125 fl8_25 (by assumption) rfl ?_
  refine ev_aload_n i125_64 rfl ?_
  refine ev_get i125_65 ci125 fl8_81 (by assumption) rfl ?_
  refine ev_aload_n i125_68 rfl ?_
  refine ev_iconst (v := nI 0) i125_69 (by decide) ?_
  refine ev_iconst (v := nI 3) i125_70 (by decide) ?_
  refine ev_callV (vs := [.int (nI 0), .int (nI 3)]) (rest := [.int (nI c), .ref 117]) i125_71 ci125 lk8_94 (congrArg (fun q => q + 1) np122) ci122 (by decide) (by decide +kernel) (Nat.le_of_ble_eq_true rfl) ⟨rfl, rfl, Nat.le_of_ble_eq_true rfl⟩ rfl (by assumption) (c122skip (p := 0) c0 t0 hmt hln htx (by decide) (by decide) (m9_ne (by omega))) (fun r H7 hq => ?_)
  obtain ⟨rfl, c0, hO7⟩ := hq
  have c0 : H7[111]? = some (.inr (8, [.int (nI n), .ref 112, .ref 113, .ref 114, .ref 115, .ref 116, .ref 117, .int (nI c), .int rv, .int (nI tk), .ref 118, .int (nI ln), .int (nI (p + 1)), .int (nI (p + 1)), .int (f 6), .int (f 7), .ref 119, .ref 120, .int (f 8), .ref 121, .ref 122, .ref 123, .ref 124, .long sed, .ref 125, .ref 126])) := c0
  have a5 := hO7.at a5 (by decide)
  have a6 := hO7.at a6 (by decide)
  have a7 := hO7.at a7 (by decide)
  have t0 := hO7.at t0 (by decide)
  have hO := hO.trans hO7 (C := (fun j => j = 111 ∨ (115 ≤ j ∧ j ≤ 117))) (fun _ q => q) (fun _ q => Or.inl q)
  show Ev tb 125 74 [some (.ref 111)] [.int (nI 0), .int (nI c), .ref 117] H7 _
  refine evs_iastw i125_74 (by assumption) (by omega) (fun H8 hH8 => ?_)
  have c0 : H8[111]? = some (.inr (8, [.int (nI n), .ref 112, .ref 113, .ref 114, .ref 115, .ref 116, .ref 117, .int (nI c), .int rv, .int (nI tk), .ref 118, .int (nI ln), .int (nI (p + 1)), .int (nI (p + 1)), .int (f 6), .int (f 7), .ref 119, .ref 120, .int (f 8), .ref 121, .ref 122, .ref 123, .ref 124, .long sed, .ref 125, .ref 126])) := by rw [hH8]; exact set_ne c0 (by omega)
  have a5 : H8[115]? = some (.inl (0, 27, .inl (upd (upd R (10 + c) (nI 0)) (16 + c) (nI 0)))) := by rw [hH8]; exact set_ne a5 (by omega)
  have a6 : H8[116]? = some (.inl (0, 6, .inl (upd rs c (nI 0)))) := by rw [hH8]; exact set_ne a6 (by omega)
  have a7 : H8[117]? = some (.inl (0, 6, .inl (upd rkk c (nI 0)))) := by rw [hH8]; exact set_self a7
  have t0 : H8[118]? = some (.inl (0, 64, .inl mt)) := by rw [hH8]; exact set_ne t0 (by omega)
  have hO : Off (fun j => j = 111 ∨ (115 ≤ j ∧ j ≤ 117)) H H8 := by rw [hH8]; exact hO.set (by first | exact Or.inl rfl | exact Or.inr ⟨by decide, by decide⟩)
  refine ev_aload_n i125_75 rfl ?_
  refine ev_dup i125_76 rfl ?_
  refine ev_get i125_77 ci125 fl8_87 (by assumption) rfl ?_
  refine ev_iconst (v := nI 1) i125_80 (by decide) ?_
  refine ev_aload_n i125_81 rfl ?_
  refine ev_get i125_82 ci125 fl8_19 (by assumption) rfl ?_
  refine ev_bipush (v := nI 10) i125_85 (by decide) ?_
  refine ev_aload_n i125_87 rfl ?_
  refine ev_get i125_88 ci125 fl8_81 (by assumption) rfl ?_
  refine evn_iadd i125_91 ?_
  refine ev_iald_n i125_92 (by assumption) (by omega) ?_
  refine ev_ishl i125_93 ?_
  refine ev_ior i125_94 ?_
  refine evs_put (fs' := [.int (nI n), .ref 112, .ref 113, .ref 114, .ref 115, .ref 116, .ref 117, .int (nI c), .int rv, .int ((nI tk) ||| ((nI 1) <<< ((upd (upd R (10 + c) (nI 0)) (16 + c) (nI 0) (10 + c)) &&& 31))), .ref 118, .int (nI ln), .int (nI (p + 1)), .int (nI (p + 1)), .int (f 6), .int (f 7), .ref 119, .ref 120, .int (f 8), .ref 121, .ref 122, .ref 123, .ref 124, .long sed, .ref 125, .ref 126]) i125_95 ci125 fl8_87 (by assumption) ⟨Nat.le_of_ble_eq_true rfl, rfl, Or.inl rfl⟩ rfl (fun H9 hH9 => ?_)
  have c0 : H9[111]? = some (.inr (8, [.int (nI n), .ref 112, .ref 113, .ref 114, .ref 115, .ref 116, .ref 117, .int (nI c), .int rv, .int ((nI tk) ||| ((nI 1) <<< ((upd (upd R (10 + c) (nI 0)) (16 + c) (nI 0) (10 + c)) &&& 31))), .ref 118, .int (nI ln), .int (nI (p + 1)), .int (nI (p + 1)), .int (f 6), .int (f 7), .ref 119, .ref 120, .int (f 8), .ref 121, .ref 122, .ref 123, .ref 124, .long sed, .ref 125, .ref 126])) := by rw [hH9]; exact set_self c0
  have a5 : H9[115]? = some (.inl (0, 27, .inl (upd (upd R (10 + c) (nI 0)) (16 + c) (nI 0)))) := by rw [hH9]; exact set_ne a5 (by omega)
  have a6 : H9[116]? = some (.inl (0, 6, .inl (upd rs c (nI 0)))) := by rw [hH9]; exact set_ne a6 (by omega)
  have a7 : H9[117]? = some (.inl (0, 6, .inl (upd rkk c (nI 0)))) := by rw [hH9]; exact set_ne a7 (by omega)
  have t0 : H9[118]? = some (.inl (0, 64, .inl mt)) := by rw [hH9]; exact set_ne t0 (by omega)
  have hO : Off (fun j => j = 111 ∨ (115 ≤ j ∧ j ≤ 117)) H H9 := by rw [hH9]; exact hO.set (by first | exact Or.inl rfl | exact Or.inr ⟨by decide, by decide⟩)
  refine ev_aload_n i125_98 rfl ?_
  refine ev_dup i125_99 rfl ?_
  refine ev_get i125_100 ci125 fl8_81 (by assumption) rfl ?_
  refine ev_iconst (v := nI 1) i125_103 (by decide) ?_
  refine evn_iadd i125_104 ?_
  refine evs_put (fs' := [.int (nI n), .ref 112, .ref 113, .ref 114, .ref 115, .ref 116, .ref 117, .int (nI (c + 1)), .int rv, .int ((nI tk) ||| ((nI 1) <<< ((upd (upd R (10 + c) (nI 0)) (16 + c) (nI 0) (10 + c)) &&& 31))), .ref 118, .int (nI ln), .int (nI (p + 1)), .int (nI (p + 1)), .int (f 6), .int (f 7), .ref 119, .ref 120, .int (f 8), .ref 121, .ref 122, .ref 123, .ref 124, .long sed, .ref 125, .ref 126]) i125_105 ci125 fl8_81 (by assumption) ⟨Nat.le_of_ble_eq_true rfl, rfl, Or.inl rfl⟩ rfl (fun H10 hH10 => ?_)
  have c0 : H10[111]? = some (.inr (8, [.int (nI n), .ref 112, .ref 113, .ref 114, .ref 115, .ref 116, .ref 117, .int (nI (c + 1)), .int rv, .int ((nI tk) ||| ((nI 1) <<< ((upd (upd R (10 + c) (nI 0)) (16 + c) (nI 0) (10 + c)) &&& 31))), .ref 118, .int (nI ln), .int (nI (p + 1)), .int (nI (p + 1)), .int (f 6), .int (f 7), .ref 119, .ref 120, .int (f 8), .ref 121, .ref 122, .ref 123, .ref 124, .long sed, .ref 125, .ref 126])) := by rw [hH10]; exact set_self c0
  have a5 : H10[115]? = some (.inl (0, 27, .inl (upd (upd R (10 + c) (nI 0)) (16 + c) (nI 0)))) := by rw [hH10]; exact set_ne a5 (by omega)
  have a6 : H10[116]? = some (.inl (0, 6, .inl (upd rs c (nI 0)))) := by rw [hH10]; exact set_ne a6 (by omega)
  have a7 : H10[117]? = some (.inl (0, 6, .inl (upd rkk c (nI 0)))) := by rw [hH10]; exact set_ne a7 (by omega)
  have t0 : H10[118]? = some (.inl (0, 64, .inl mt)) := by rw [hH10]; exact set_ne t0 (by omega)
  have hO : Off (fun j => j = 111 ∨ (115 ≤ j ∧ j ≤ 117)) H H10 := by rw [hH10]; exact hO.set (by first | exact Or.inl rfl | exact Or.inr ⟨by decide, by decide⟩)
  refine ev_vret i125_108 (by decide +kernel) ?_
  exact ⟨rfl, _, _, _, _, _, _, _, c0, a5, a6, a7, hO⟩
theorem c125b1 {tb : dxT} {H : dxH} {n : Nat} {f : Nat → Int32} {sed : Int64} {ln : Nat} {rv : Int32} {c tk : Nat} {mt : Nat → Int32} {tx : Nat → Nat} {p : Nat} {R rs rkk : Nat → Int32} (c0 : H[111]? = some (pOb n f sed ln (nI c) rv (nI tk) (nI (p + 1)) (-9))) (a5 : H[115]? = some (.inl (0, 27, .inl R))) (a6 : H[116]? = some (.inl (0, 6, .inl rs))) (a7 : H[117]? = some (.inl (0, 6, .inl rkk))) (t0 : H[118]? = some (.inl (0, 64, .inl mt))) (hmt : ∀ j, j < ln → mt j = nI (tx j)) (hln : ln ≤ 64) (htx : ∀ j, tx j < 256) (hc : c < 6) (htk : tk < 1024) (hp64 : p < ln) (k0 : p + 1 < ln ∧ okP tx false tk p 0 = true) (kb : ¬ (p + 1 + 1 < ln ∧ okP tx false tk p 1 = true)) (hle : p + 1 + 1 ≤ ln) : Cl tb 125 [.ref 111] H (fun r H' => r = none ∧ ∃ (rc rv rl at_ : Int32) (R rs rkk : Nat → Int32), H'[111]? = some (pOb n f sed ln rc rv rl at_ (nI (p + 1 + 1))) ∧ H'[115]? = some (.inl (0, 27, .inl R)) ∧ H'[116]? = some (.inl (0, 6, .inl rs)) ∧ H'[117]? = some (.inl (0, 6, .inl rkk)) ∧ Off (fun j => j = 111 ∨ (115 ≤ j ∧ j ≤ 117)) H H') := by
  unfold pOb at c0
  have hO : Off (fun j => j = 111 ∨ (115 ≤ j ∧ j ≤ 117)) H H := Off.rf
  obtain ⟨l0, o0⟩ := k0
  obtain ⟨q0, hbit⟩ := okP_0.mp o0
  have hbad : ¬ (p + 1 + 1 < ln ∧ 48 + 0 ≤ tx (p + 1 + 1) ∧ tx (p + 1 + 1) ≤ 48 + 1) := fun u => kb ⟨u.1, okK1.mpr u.2⟩
  show Ev tb 125 0 [some (.ref 111)] [] H _
  refine ev_aload_n i125_0 rfl ?_
  refine ev_get i125_1 ci125 fl8_19 (by assumption) rfl ?_
  refine ev_bipush (v := nI 10) i125_4 (by decide) ?_
  refine ev_aload_n i125_6 rfl ?_
  refine ev_get i125_7 ci125 fl8_81 (by assumption) rfl ?_
  refine evn_iadd i125_10 ?_
  refine ev_aload_n i125_11 rfl ?_
  refine ev_sipush (v := nI 1023) i125_12 (by decide) ?_
  refine ev_aload_n i125_15 rfl ?_
  refine ev_get i125_16 ci125 fl8_87 (by assumption) rfl ?_
  refine ev_iconst (v := (-1)) i125_19 (by decide) ?_
  refine ev_ixor i125_20 ?_
  refine ev_iand i125_21 ?_
  rw [msk tk htk]
  refine ev_callV (vs := [.int (nI (1023 - tk))]) (rest := [.int (nI (10 + c)), .ref 115]) i125_22 ci125 lk8_90 (congrArg (fun q => q + 1) np123) ci123 (by decide) (by decide +kernel) (Nat.le_of_ble_eq_true rfl) ⟨rfl, rfl, Nat.le_of_ble_eq_true rfl⟩ rfl (by assumption) (c123ok c0 t0 hmt hln htx (by omega) (by omega) (by omega) (by omega) hbit) (fun r H1 hq => ?_)
  obtain ⟨rfl, c0, hO1⟩ := hq
  have c0 : H1[111]? = some (.inr (8, [.int (nI n), .ref 112, .ref 113, .ref 114, .ref 115, .ref 116, .ref 117, .int (nI c), .int rv, .int (nI tk), .ref 118, .int (nI ln), .int (nI (p + 1 + 1)), .int (-9), .int (f 6), .int (f 7), .ref 119, .ref 120, .int (f 8), .ref 121, .ref 122, .ref 123, .ref 124, .long sed, .ref 125, .ref 126])) := c0
  have a5 := hO1.at a5 (by decide)
  have a6 := hO1.at a6 (by decide)
  have a7 := hO1.at a7 (by decide)
  have t0 := hO1.at t0 (by decide)
  have hO := hO.trans hO1 (C := (fun j => j = 111 ∨ (115 ≤ j ∧ j ≤ 117))) (fun _ q => q) (fun _ q => Or.inl q)
  show Ev tb 125 25 [some (.ref 111)] [.int (nI (tx (p + 1) - 48)), .int (nI (10 + c)), .ref 115] H1 _
  refine evs_iastw i125_25 (by assumption) (by omega) (fun H2 hH2 => ?_)
  have c0 : H2[111]? = some (.inr (8, [.int (nI n), .ref 112, .ref 113, .ref 114, .ref 115, .ref 116, .ref 117, .int (nI c), .int rv, .int (nI tk), .ref 118, .int (nI ln), .int (nI (p + 1 + 1)), .int (-9), .int (f 6), .int (f 7), .ref 119, .ref 120, .int (f 8), .ref 121, .ref 122, .ref 123, .ref 124, .long sed, .ref 125, .ref 126])) := by rw [hH2]; exact set_ne c0 (by omega)
  have a5 : H2[115]? = some (.inl (0, 27, .inl (upd R (10 + c) (nI (tx (p + 1) - 48))))) := by rw [hH2]; exact set_self a5
  have a6 : H2[116]? = some (.inl (0, 6, .inl rs)) := by rw [hH2]; exact set_ne a6 (by omega)
  have a7 : H2[117]? = some (.inl (0, 6, .inl rkk)) := by rw [hH2]; exact set_ne a7 (by omega)
  have t0 : H2[118]? = some (.inl (0, 64, .inl mt)) := by rw [hH2]; exact set_ne t0 (by omega)
  have hO : Off (fun j => j = 111 ∨ (115 ≤ j ∧ j ≤ 117)) H H2 := by rw [hH2]; exact hO.set (by first | exact Or.inl rfl | exact Or.inr ⟨by decide, by decide⟩)
  refine ev_aload_n i125_26 rfl ?_
  refine ev_get i125_27 ci125 fl8_22 (by assumption) rfl ?_
  refine ev_aload_n i125_30 rfl ?_
  refine ev_get i125_31 ci125 fl8_81 (by assumption) rfl ?_
  refine ev_aload_n i125_34 rfl ?_
  refine ev_iconst (v := nI 0) i125_35 (by decide) ?_
  refine ev_iconst (v := nI 1) i125_36 (by decide) ?_
  refine ev_callV (vs := [.int (nI 0), .int (nI 1)]) (rest := [.int (nI c), .ref 116]) i125_37 ci125 lk8_94 (congrArg (fun q => q + 1) np122) ci122 (by decide) (by decide +kernel) (Nat.le_of_ble_eq_true rfl) ⟨rfl, rfl, Nat.le_of_ble_eq_true rfl⟩ rfl (by assumption) (c122bad c0 t0 hmt hln htx (by decide) (by decide) (by omega) hbad) (fun r H3 hq => ?_)
  obtain ⟨rfl, c0, hO3⟩ := hq
  have c0 : H3[111]? = some (.inr (8, [.int (nI n), .ref 112, .ref 113, .ref 114, .ref 115, .ref 116, .ref 117, .int (nI c), .int rv, .int (nI tk), .ref 118, .int (nI ln), .int (nI (p + 1 + 1)), .int (nI (p + 1 + 1)), .int (f 6), .int (f 7), .ref 119, .ref 120, .int (f 8), .ref 121, .ref 122, .ref 123, .ref 124, .long sed, .ref 125, .ref 126])) := c0
  have a5 := hO3.at a5 (by decide)
  have a6 := hO3.at a6 (by decide)
  have a7 := hO3.at a7 (by decide)
  have t0 := hO3.at t0 (by decide)
  have hO := hO.trans hO3 (C := (fun j => j = 111 ∨ (115 ≤ j ∧ j ≤ 117))) (fun _ q => q) (fun _ q => Or.inl q)
  show Ev tb 125 40 [some (.ref 111)] [.int (nI 0), .int (nI c), .ref 116] H3 _
  refine evs_iastw i125_40 (by assumption) (by omega) (fun H4 hH4 => ?_)
  have c0 : H4[111]? = some (.inr (8, [.int (nI n), .ref 112, .ref 113, .ref 114, .ref 115, .ref 116, .ref 117, .int (nI c), .int rv, .int (nI tk), .ref 118, .int (nI ln), .int (nI (p + 1 + 1)), .int (nI (p + 1 + 1)), .int (f 6), .int (f 7), .ref 119, .ref 120, .int (f 8), .ref 121, .ref 122, .ref 123, .ref 124, .long sed, .ref 125, .ref 126])) := by rw [hH4]; exact set_ne c0 (by omega)
  have a5 : H4[115]? = some (.inl (0, 27, .inl (upd R (10 + c) (nI (tx (p + 1) - 48))))) := by rw [hH4]; exact set_ne a5 (by omega)
  have a6 : H4[116]? = some (.inl (0, 6, .inl (upd rs c (nI 0)))) := by rw [hH4]; exact set_self a6
  have a7 : H4[117]? = some (.inl (0, 6, .inl rkk)) := by rw [hH4]; exact set_ne a7 (by omega)
  have t0 : H4[118]? = some (.inl (0, 64, .inl mt)) := by rw [hH4]; exact set_ne t0 (by omega)
  have hO : Off (fun j => j = 111 ∨ (115 ≤ j ∧ j ≤ 117)) H H4 := by rw [hH4]; exact hO.set (by first | exact Or.inl rfl | exact Or.inr ⟨by decide, by decide⟩)
  refine ev_aload_n i125_41 rfl ?_
  refine ev_get i125_42 ci125 fl8_19 (by assumption) rfl ?_
  refine ev_bipush (v := nI 16) i125_45 (by decide) ?_
  refine ev_aload_n i125_47 rfl ?_
  refine ev_get i125_48 ci125 fl8_81 (by assumption) rfl ?_
  refine evn_iadd i125_51 ?_
  refine ev_aload_n i125_52 rfl ?_
  refine ev_iconst (v := nI 0) i125_53 (by decide) ?_
  refine ev_bipush (v := nI 9) i125_54 (by decide) ?_
  refine ev_callV (vs := [.int (nI 0), .int (nI 9)]) (rest := [.int (nI (16 + c)), .ref 115]) i125_56 ci125 lk8_94 (congrArg (fun q => q + 1) np122) ci122 (by decide) (by decide +kernel) (Nat.le_of_ble_eq_true rfl) ⟨rfl, rfl, Nat.le_of_ble_eq_true rfl⟩ rfl (by assumption) (c122skip (p := 0) c0 t0 hmt hln htx (by decide) (by decide) (m9_ne (by omega))) (fun r H5 hq => ?_)
  obtain ⟨rfl, c0, hO5⟩ := hq
  have c0 : H5[111]? = some (.inr (8, [.int (nI n), .ref 112, .ref 113, .ref 114, .ref 115, .ref 116, .ref 117, .int (nI c), .int rv, .int (nI tk), .ref 118, .int (nI ln), .int (nI (p + 1 + 1)), .int (nI (p + 1 + 1)), .int (f 6), .int (f 7), .ref 119, .ref 120, .int (f 8), .ref 121, .ref 122, .ref 123, .ref 124, .long sed, .ref 125, .ref 126])) := c0
  have a5 := hO5.at a5 (by decide)
  have a6 := hO5.at a6 (by decide)
  have a7 := hO5.at a7 (by decide)
  have t0 := hO5.at t0 (by decide)
  have hO := hO.trans hO5 (C := (fun j => j = 111 ∨ (115 ≤ j ∧ j ≤ 117))) (fun _ q => q) (fun _ q => Or.inl q)
  show Ev tb 125 59 [some (.ref 111)] [.int (nI 0), .int (nI (16 + c)), .ref 115] H5 _
  refine evs_iastw i125_59 (by assumption) (by omega) (fun H6 hH6 => ?_)
  have c0 : H6[111]? = some (.inr (8, [.int (nI n), .ref 112, .ref 113, .ref 114, .ref 115, .ref 116, .ref 117, .int (nI c), .int rv, .int (nI tk), .ref 118, .int (nI ln), .int (nI (p + 1 + 1)), .int (nI (p + 1 + 1)), .int (f 6), .int (f 7), .ref 119, .ref 120, .int (f 8), .ref 121, .ref 122, .ref 123, .ref 124, .long sed, .ref 125, .ref 126])) := by rw [hH6]; exact set_ne c0 (by omega)
  have a5 : H6[115]? = some (.inl (0, 27, .inl (upd (upd R (10 + c) (nI (tx (p + 1) - 48))) (16 + c) (nI 0)))) := by rw [hH6]; exact set_self a5
  have a6 : H6[116]? = some (.inl (0, 6, .inl (upd rs c (nI 0)))) := by rw [hH6]; exact set_ne a6 (by omega)
  have a7 : H6[117]? = some (.inl (0, 6, .inl rkk)) := by rw [hH6]; exact set_ne a7 (by omega)
  have t0 : H6[118]? = some (.inl (0, 64, .inl mt)) := by rw [hH6]; exact set_ne t0 (by omega)
  have hO : Off (fun j => j = 111 ∨ (115 ≤ j ∧ j ≤ 117)) H H6 := by rw [hH6]; exact hO.set (by first | exact Or.inl rfl | exact Or.inr ⟨by decide, by decide⟩)
  refine ev_aload_n i125_60 rfl ?_
  refine ev_get i125_61 ci125 fl8_25 (by assumption) rfl ?_
  refine ev_aload_n i125_64 rfl ?_
  refine ev_get i125_65 ci125 fl8_81 (by assumption) rfl ?_
  refine ev_aload_n i125_68 rfl ?_
  refine ev_iconst (v := nI 0) i125_69 (by decide) ?_
  refine ev_iconst (v := nI 3) i125_70 (by decide) ?_
  refine ev_callV (vs := [.int (nI 0), .int (nI 3)]) (rest := [.int (nI c), .ref 117]) i125_71 ci125 lk8_94 (congrArg (fun q => q + 1) np122) ci122 (by decide) (by decide +kernel) (Nat.le_of_ble_eq_true rfl) ⟨rfl, rfl, Nat.le_of_ble_eq_true rfl⟩ rfl (by assumption) (c122skip (p := 0) c0 t0 hmt hln htx (by decide) (by decide) (m9_ne (by omega))) (fun r H7 hq => ?_)
  obtain ⟨rfl, c0, hO7⟩ := hq
  have c0 : H7[111]? = some (.inr (8, [.int (nI n), .ref 112, .ref 113, .ref 114, .ref 115, .ref 116, .ref 117, .int (nI c), .int rv, .int (nI tk), .ref 118, .int (nI ln), .int (nI (p + 1 + 1)), .int (nI (p + 1 + 1)), .int (f 6), .int (f 7), .ref 119, .ref 120, .int (f 8), .ref 121, .ref 122, .ref 123, .ref 124, .long sed, .ref 125, .ref 126])) := c0
  have a5 := hO7.at a5 (by decide)
  have a6 := hO7.at a6 (by decide)
  have a7 := hO7.at a7 (by decide)
  have t0 := hO7.at t0 (by decide)
  have hO := hO.trans hO7 (C := (fun j => j = 111 ∨ (115 ≤ j ∧ j ≤ 117))) (fun _ q => q) (fun _ q => Or.inl q)
  show Ev tb 125 74 [some (.ref 111)] [.int (nI 0), .int (nI c), .ref 117] H7 _
  refine evs_iastw i125_74 (by assumption) (by omega) (fun H8 hH8 => ?_)
  have c0 : H8[111]? = some (.inr (8, [.int (nI n), .ref 112, .ref 113, .ref 114, .ref 115, .ref 116, .ref 117, .int (nI c), .int rv, .int (nI tk), .ref 118, .int (nI ln), .int (nI (p + 1 + 1)), .int (nI (p + 1 + 1)), .int (f 6), .int (f 7), .ref 119, .ref 120, .int (f 8), .ref 121, .ref 122, .ref 123, .ref 124, .long sed, .ref 125, .ref 126])) := by rw [hH8]; exact set_ne c0 (by omega)
  have a5 : H8[115]? = some (.inl (0, 27, .inl (upd (upd R (10 + c) (nI (tx (p + 1) - 48))) (16 + c) (nI 0)))) := by rw [hH8]; exact set_ne a5 (by omega)
  have a6 : H8[116]? = some (.inl (0, 6, .inl (upd rs c (nI 0)))) := by rw [hH8]; exact set_ne a6 (by omega)
  have a7 : H8[117]? = some (.inl (0, 6, .inl (upd rkk c (nI 0)))) := by rw [hH8]; exact set_self a7
  have t0 : H8[118]? = some (.inl (0, 64, .inl mt)) := by rw [hH8]; exact set_ne t0 (by omega)
  have hO : Off (fun j => j = 111 ∨ (115 ≤ j ∧ j ≤ 117)) H H8 := by rw [hH8]; exact hO.set (by first | exact Or.inl rfl | exact Or.inr ⟨by decide, by decide⟩)
  refine ev_aload_n i125_75 rfl ?_
  refine ev_dup i125_76 rfl ?_
  refine ev_get i125_77 ci125 fl8_87 (by assumption) rfl ?_
  refine ev_iconst (v := nI 1) i125_80 (by decide) ?_
  refine ev_aload_n i125_81 rfl ?_
  refine ev_get i125_82 ci125 fl8_19 (by assumption) rfl ?_
  refine ev_bipush (v := nI 10) i125_85 (by decide) ?_
  refine ev_aload_n i125_87 rfl ?_
  refine ev_get i125_88 ci125 fl8_81 (by assumption) rfl ?_
  refine evn_iadd i125_91 ?_
  refine ev_iald_n i125_92 (by assumption) (by omega) ?_
  refine ev_ishl i125_93 ?_
  refine ev_ior i125_94 ?_
  refine evs_put (fs' := [.int (nI n), .ref 112, .ref 113, .ref 114, .ref 115, .ref 116, .ref 117, .int (nI c), .int rv, .int ((nI tk) ||| ((nI 1) <<< ((upd (upd R (10 + c) (nI (tx (p + 1) - 48))) (16 + c) (nI 0) (10 + c)) &&& 31))), .ref 118, .int (nI ln), .int (nI (p + 1 + 1)), .int (nI (p + 1 + 1)), .int (f 6), .int (f 7), .ref 119, .ref 120, .int (f 8), .ref 121, .ref 122, .ref 123, .ref 124, .long sed, .ref 125, .ref 126]) i125_95 ci125 fl8_87 (by assumption) ⟨Nat.le_of_ble_eq_true rfl, rfl, Or.inl rfl⟩ rfl (fun H9 hH9 => ?_)
  have c0 : H9[111]? = some (.inr (8, [.int (nI n), .ref 112, .ref 113, .ref 114, .ref 115, .ref 116, .ref 117, .int (nI c), .int rv, .int ((nI tk) ||| ((nI 1) <<< ((upd (upd R (10 + c) (nI (tx (p + 1) - 48))) (16 + c) (nI 0) (10 + c)) &&& 31))), .ref 118, .int (nI ln), .int (nI (p + 1 + 1)), .int (nI (p + 1 + 1)), .int (f 6), .int (f 7), .ref 119, .ref 120, .int (f 8), .ref 121, .ref 122, .ref 123, .ref 124, .long sed, .ref 125, .ref 126])) := by rw [hH9]; exact set_self c0
  have a5 : H9[115]? = some (.inl (0, 27, .inl (upd (upd R (10 + c) (nI (tx (p + 1) - 48))) (16 + c) (nI 0)))) := by rw [hH9]; exact set_ne a5 (by omega)
  have a6 : H9[116]? = some (.inl (0, 6, .inl (upd rs c (nI 0)))) := by rw [hH9]; exact set_ne a6 (by omega)
  have a7 : H9[117]? = some (.inl (0, 6, .inl (upd rkk c (nI 0)))) := by rw [hH9]; exact set_ne a7 (by omega)
  have t0 : H9[118]? = some (.inl (0, 64, .inl mt)) := by rw [hH9]; exact set_ne t0 (by omega)
  have hO : Off (fun j => j = 111 ∨ (115 ≤ j ∧ j ≤ 117)) H H9 := by rw [hH9]; exact hO.set (by first | exact Or.inl rfl | exact Or.inr ⟨by decide, by decide⟩)
  refine ev_aload_n i125_98 rfl ?_
  refine ev_dup i125_99 rfl ?_
  refine ev_get i125_100 ci125 fl8_81 (by assumption) rfl ?_
  refine ev_iconst (v := nI 1) i125_103 (by decide) ?_
  refine evn_iadd i125_104 ?_
  refine evs_put (fs' := [.int (nI n), .ref 112, .ref 113, .ref 114, .ref 115, .ref 116, .ref 117, .int (nI (c + 1)), .int rv, .int ((nI tk) ||| ((nI 1) <<< ((upd (upd R (10 + c) (nI (tx (p + 1) - 48))) (16 + c) (nI 0) (10 + c)) &&& 31))), .ref 118, .int (nI ln), .int (nI (p + 1 + 1)), .int (nI (p + 1 + 1)), .int (f 6), .int (f 7), .ref 119, .ref 120, .int (f 8), .ref 121, .ref 122, .ref 123, .ref 124, .long sed, .ref 125, .ref 126]) i125_105 ci125 fl8_81 (by assumption) ⟨Nat.le_of_ble_eq_true rfl, rfl, Or.inl rfl⟩ rfl (fun H10 hH10 => ?_)
  have c0 : H10[111]? = some (.inr (8, [.int (nI n), .ref 112, .ref 113, .ref 114, .ref 115, .ref 116, .ref 117, .int (nI (c + 1)), .int rv, .int ((nI tk) ||| ((nI 1) <<< ((upd (upd R (10 + c) (nI (tx (p + 1) - 48))) (16 + c) (nI 0) (10 + c)) &&& 31))), .ref 118, .int (nI ln), .int (nI (p + 1 + 1)), .int (nI (p + 1 + 1)), .int (f 6), .int (f 7), .ref 119, .ref 120, .int (f 8), .ref 121, .ref 122, .ref 123, .ref 124, .long sed, .ref 125, .ref 126])) := by rw [hH10]; exact set_self c0
  have a5 : H10[115]? = some (.inl (0, 27, .inl (upd (upd R (10 + c) (nI (tx (p + 1) - 48))) (16 + c) (nI 0)))) := by rw [hH10]; exact set_ne a5 (by omega)
  have a6 : H10[116]? = some (.inl (0, 6, .inl (upd rs c (nI 0)))) := by rw [hH10]; exact set_ne a6 (by omega)
  have a7 : H10[117]? = some (.inl (0, 6, .inl (upd rkk c (nI 0)))) := by rw [hH10]; exact set_ne a7 (by omega)
  have t0 : H10[118]? = some (.inl (0, 64, .inl mt)) := by rw [hH10]; exact set_ne t0 (by omega)
  have hO : Off (fun j => j = 111 ∨ (115 ≤ j ∧ j ≤ 117)) H H10 := by rw [hH10]; exact hO.set (by first | exact Or.inl rfl | exact Or.inr ⟨by decide, by decide⟩)
  refine ev_vret i125_108 (by decide +kernel) ?_
  exact ⟨rfl, _, _, _, _, _, _, _, c0, a5, a6, a7, hO⟩
theorem c125b2 {tb : dxT} {H : dxH} {n : Nat} {f : Nat → Int32} {sed : Int64} {ln : Nat} {rv : Int32} {c tk : Nat} {mt : Nat → Int32} {tx : Nat → Nat} {p : Nat} {R rs rkk : Nat → Int32} (c0 : H[111]? = some (pOb n f sed ln (nI c) rv (nI tk) (nI (p + 1)) (-9))) (a5 : H[115]? = some (.inl (0, 27, .inl R))) (a6 : H[116]? = some (.inl (0, 6, .inl rs))) (a7 : H[117]? = some (.inl (0, 6, .inl rkk))) (t0 : H[118]? = some (.inl (0, 64, .inl mt))) (hmt : ∀ j, j < ln → mt j = nI (tx j)) (hln : ln ≤ 64) (htx : ∀ j, tx j < 256) (hc : c < 6) (htk : tk < 1024) (hp64 : p < ln) (k0 : p + 1 < ln ∧ okP tx false tk p 0 = true) (k1 : p + 1 + 1 < ln ∧ okP tx false tk p 1 = true) (kb : ¬ (p + 1 + 2 < ln ∧ okP tx false tk p 2 = true)) (hle : p + 1 + 2 ≤ ln) : Cl tb 125 [.ref 111] H (fun r H' => r = none ∧ ∃ (rc rv rl at_ : Int32) (R rs rkk : Nat → Int32), H'[111]? = some (pOb n f sed ln rc rv rl at_ (nI (p + 1 + 2))) ∧ H'[115]? = some (.inl (0, 27, .inl R)) ∧ H'[116]? = some (.inl (0, 6, .inl rs)) ∧ H'[117]? = some (.inl (0, 6, .inl rkk)) ∧ Off (fun j => j = 111 ∨ (115 ≤ j ∧ j ≤ 117)) H H') := by
  unfold pOb at c0
  have hO : Off (fun j => j = 111 ∨ (115 ≤ j ∧ j ≤ 117)) H H := Off.rf
  obtain ⟨l0, o0⟩ := k0
  obtain ⟨q0, hbit⟩ := okP_0.mp o0
  obtain ⟨l1, o1⟩ := k1
  have q1 := okK1.mp o1
  have hbad : ¬ (p + 1 + 2 < ln ∧ 48 + 0 ≤ tx (p + 1 + 2) ∧ tx (p + 1 + 2) ≤ 48 + 9) := fun u => kb ⟨u.1, okK2.mpr u.2⟩
  show Ev tb 125 0 [some (.ref 111)] [] H _
  refine ev_aload_n i125_0 rfl ?_
  refine ev_get i125_1 ci125 fl8_19 (by assumption) rfl ?_
  refine ev_bipush (v := nI 10) i125_4 (by decide) ?_
  refine ev_aload_n i125_6 rfl ?_
  refine ev_get i125_7 ci125 fl8_81 (by assumption) rfl ?_
  refine evn_iadd i125_10 ?_
  refine ev_aload_n i125_11 rfl ?_
  refine ev_sipush (v := nI 1023) i125_12 (by decide) ?_
  refine ev_aload_n i125_15 rfl ?_
  refine ev_get i125_16 ci125 fl8_87 (by assumption) rfl ?_
  refine ev_iconst (v := (-1)) i125_19 (by decide) ?_
  refine ev_ixor i125_20 ?_
  refine ev_iand i125_21 ?_
  rw [msk tk htk]
  refine ev_callV (vs := [.int (nI (1023 - tk))]) (rest := [.int (nI (10 + c)), .ref 115]) i125_22 ci125 lk8_90 (congrArg (fun q => q + 1) np123) ci123 (by decide) (by decide +kernel) (Nat.le_of_ble_eq_true rfl) ⟨rfl, rfl, Nat.le_of_ble_eq_true rfl⟩ rfl (by assumption) (c123ok c0 t0 hmt hln htx (by omega) (by omega) (by omega) (by omega) hbit) (fun r H1 hq => ?_)
  obtain ⟨rfl, c0, hO1⟩ := hq
  have c0 : H1[111]? = some (.inr (8, [.int (nI n), .ref 112, .ref 113, .ref 114, .ref 115, .ref 116, .ref 117, .int (nI c), .int rv, .int (nI tk), .ref 118, .int (nI ln), .int (nI (p + 1 + 1)), .int (-9), .int (f 6), .int (f 7), .ref 119, .ref 120, .int (f 8), .ref 121, .ref 122, .ref 123, .ref 124, .long sed, .ref 125, .ref 126])) := c0
  have a5 := hO1.at a5 (by decide)
  have a6 := hO1.at a6 (by decide)
  have a7 := hO1.at a7 (by decide)
  have t0 := hO1.at t0 (by decide)
  have hO := hO.trans hO1 (C := (fun j => j = 111 ∨ (115 ≤ j ∧ j ≤ 117))) (fun _ q => q) (fun _ q => Or.inl q)
  show Ev tb 125 25 [some (.ref 111)] [.int (nI (tx (p + 1) - 48)), .int (nI (10 + c)), .ref 115] H1 _
  refine evs_iastw i125_25 (by assumption) (by omega) (fun H2 hH2 => ?_)
  have c0 : H2[111]? = some (.inr (8, [.int (nI n), .ref 112, .ref 113, .ref 114, .ref 115, .ref 116, .ref 117, .int (nI c), .int rv, .int (nI tk), .ref 118, .int (nI ln), .int (nI (p + 1 + 1)), .int (-9), .int (f 6), .int (f 7), .ref 119, .ref 120, .int (f 8), .ref 121, .ref 122, .ref 123, .ref 124, .long sed, .ref 125, .ref 126])) := by rw [hH2]; exact set_ne c0 (by omega)
  have a5 : H2[115]? = some (.inl (0, 27, .inl (upd R (10 + c) (nI (tx (p + 1) - 48))))) := by rw [hH2]; exact set_self a5
  have a6 : H2[116]? = some (.inl (0, 6, .inl rs)) := by rw [hH2]; exact set_ne a6 (by omega)
  have a7 : H2[117]? = some (.inl (0, 6, .inl rkk)) := by rw [hH2]; exact set_ne a7 (by omega)
  have t0 : H2[118]? = some (.inl (0, 64, .inl mt)) := by rw [hH2]; exact set_ne t0 (by omega)
  have hO : Off (fun j => j = 111 ∨ (115 ≤ j ∧ j ≤ 117)) H H2 := by rw [hH2]; exact hO.set (by first | exact Or.inl rfl | exact Or.inr ⟨by decide, by decide⟩)
  refine ev_aload_n i125_26 rfl ?_
  refine ev_get i125_27 ci125 fl8_22 (by assumption) rfl ?_
  refine ev_aload_n i125_30 rfl ?_
  refine ev_get i125_31 ci125 fl8_81 (by assumption) rfl ?_
  refine ev_aload_n i125_34 rfl ?_
  refine ev_iconst (v := nI 0) i125_35 (by decide) ?_
  refine ev_iconst (v := nI 1) i125_36 (by decide) ?_
  refine ev_callV (vs := [.int (nI 0), .int (nI 1)]) (rest := [.int (nI c), .ref 116]) i125_37 ci125 lk8_94 (congrArg (fun q => q + 1) np122) ci122 (by decide) (by decide +kernel) (Nat.le_of_ble_eq_true rfl) ⟨rfl, rfl, Nat.le_of_ble_eq_true rfl⟩ rfl (by assumption) (c122ok c0 t0 hmt hln htx (by decide) (by decide) (by omega) (by omega) (by omega)) (fun r H3 hq => ?_)
  obtain ⟨rfl, c0, hO3⟩ := hq
  have c0 : H3[111]? = some (.inr (8, [.int (nI n), .ref 112, .ref 113, .ref 114, .ref 115, .ref 116, .ref 117, .int (nI c), .int rv, .int (nI tk), .ref 118, .int (nI ln), .int (nI (p + 1 + 2)), .int (-9), .int (f 6), .int (f 7), .ref 119, .ref 120, .int (f 8), .ref 121, .ref 122, .ref 123, .ref 124, .long sed, .ref 125, .ref 126])) := c0
  have a5 := hO3.at a5 (by decide)
  have a6 := hO3.at a6 (by decide)
  have a7 := hO3.at a7 (by decide)
  have t0 := hO3.at t0 (by decide)
  have hO := hO.trans hO3 (C := (fun j => j = 111 ∨ (115 ≤ j ∧ j ≤ 117))) (fun _ q => q) (fun _ q => Or.inl q)
  show Ev tb 125 40 [some (.ref 111)] [.int (nI (tx (p + 1 + 1) - 48)), .int (nI c), .ref 116] H3 _
  refine evs_iastw i125_40 (by assumption) (by omega) (fun H4 hH4 => ?_)
  have c0 : H4[111]? = some (.inr (8, [.int (nI n), .ref 112, .ref 113, .ref 114, .ref 115, .ref 116, .ref 117, .int (nI c), .int rv, .int (nI tk), .ref 118, .int (nI ln), .int (nI (p + 1 + 2)), .int (-9), .int (f 6), .int (f 7), .ref 119, .ref 120, .int (f 8), .ref 121, .ref 122, .ref 123, .ref 124, .long sed, .ref 125, .ref 126])) := by rw [hH4]; exact set_ne c0 (by omega)
  have a5 : H4[115]? = some (.inl (0, 27, .inl (upd R (10 + c) (nI (tx (p + 1) - 48))))) := by rw [hH4]; exact set_ne a5 (by omega)
  have a6 : H4[116]? = some (.inl (0, 6, .inl (upd rs c (nI (tx (p + 1 + 1) - 48))))) := by rw [hH4]; exact set_self a6
  have a7 : H4[117]? = some (.inl (0, 6, .inl rkk)) := by rw [hH4]; exact set_ne a7 (by omega)
  have t0 : H4[118]? = some (.inl (0, 64, .inl mt)) := by rw [hH4]; exact set_ne t0 (by omega)
  have hO : Off (fun j => j = 111 ∨ (115 ≤ j ∧ j ≤ 117)) H H4 := by rw [hH4]; exact hO.set (by first | exact Or.inl rfl | exact Or.inr ⟨by decide, by decide⟩)
  refine ev_aload_n i125_41 rfl ?_
  refine ev_get i125_42 ci125 fl8_19 (by assumption) rfl ?_
  refine ev_bipush (v := nI 16) i125_45 (by decide) ?_
  refine ev_aload_n i125_47 rfl ?_
  refine ev_get i125_48 ci125 fl8_81 (by assumption) rfl ?_
  refine evn_iadd i125_51 ?_
  refine ev_aload_n i125_52 rfl ?_
  refine ev_iconst (v := nI 0) i125_53 (by decide) ?_
  refine ev_bipush (v := nI 9) i125_54 (by decide) ?_
  refine ev_callV (vs := [.int (nI 0), .int (nI 9)]) (rest := [.int (nI (16 + c)), .ref 115]) i125_56 ci125 lk8_94 (congrArg (fun q => q + 1) np122) ci122 (by decide) (by decide +kernel) (Nat.le_of_ble_eq_true rfl) ⟨rfl, rfl, Nat.le_of_ble_eq_true rfl⟩ rfl (by assumption) (c122bad c0 t0 hmt hln htx (by decide) (by decide) (by omega) hbad) (fun r H5 hq => ?_)
  obtain ⟨rfl, c0, hO5⟩ := hq
  have c0 : H5[111]? = some (.inr (8, [.int (nI n), .ref 112, .ref 113, .ref 114, .ref 115, .ref 116, .ref 117, .int (nI c), .int rv, .int (nI tk), .ref 118, .int (nI ln), .int (nI (p + 1 + 2)), .int (nI (p + 1 + 2)), .int (f 6), .int (f 7), .ref 119, .ref 120, .int (f 8), .ref 121, .ref 122, .ref 123, .ref 124, .long sed, .ref 125, .ref 126])) := c0
  have a5 := hO5.at a5 (by decide)
  have a6 := hO5.at a6 (by decide)
  have a7 := hO5.at a7 (by decide)
  have t0 := hO5.at t0 (by decide)
  have hO := hO.trans hO5 (C := (fun j => j = 111 ∨ (115 ≤ j ∧ j ≤ 117))) (fun _ q => q) (fun _ q => Or.inl q)
  show Ev tb 125 59 [some (.ref 111)] [.int (nI 0), .int (nI (16 + c)), .ref 115] H5 _
  refine evs_iastw i125_59 (by assumption) (by omega) (fun H6 hH6 => ?_)
  have c0 : H6[111]? = some (.inr (8, [.int (nI n), .ref 112, .ref 113, .ref 114, .ref 115, .ref 116, .ref 117, .int (nI c), .int rv, .int (nI tk), .ref 118, .int (nI ln), .int (nI (p + 1 + 2)), .int (nI (p + 1 + 2)), .int (f 6), .int (f 7), .ref 119, .ref 120, .int (f 8), .ref 121, .ref 122, .ref 123, .ref 124, .long sed, .ref 125, .ref 126])) := by rw [hH6]; exact set_ne c0 (by omega)
  have a5 : H6[115]? = some (.inl (0, 27, .inl (upd (upd R (10 + c) (nI (tx (p + 1) - 48))) (16 + c) (nI 0)))) := by rw [hH6]; exact set_self a5
  have a6 : H6[116]? = some (.inl (0, 6, .inl (upd rs c (nI (tx (p + 1 + 1) - 48))))) := by rw [hH6]; exact set_ne a6 (by omega)
  have a7 : H6[117]? = some (.inl (0, 6, .inl rkk)) := by rw [hH6]; exact set_ne a7 (by omega)
  have t0 : H6[118]? = some (.inl (0, 64, .inl mt)) := by rw [hH6]; exact set_ne t0 (by omega)
  have hO : Off (fun j => j = 111 ∨ (115 ≤ j ∧ j ≤ 117)) H H6 := by rw [hH6]; exact hO.set (by first | exact Or.inl rfl | exact Or.inr ⟨by decide, by decide⟩)
  refine ev_aload_n i125_60 rfl ?_
  refine ev_get i125_61 ci125 fl8_25 (by assumption) rfl ?_
  refine ev_aload_n i125_64 rfl ?_
  refine ev_get i125_65 ci125 fl8_81 (by assumption) rfl ?_
  refine ev_aload_n i125_68 rfl ?_
  refine ev_iconst (v := nI 0) i125_69 (by decide) ?_
  refine ev_iconst (v := nI 3) i125_70 (by decide) ?_
  refine ev_callV (vs := [.int (nI 0), .int (nI 3)]) (rest := [.int (nI c), .ref 117]) i125_71 ci125 lk8_94 (congrArg (fun q => q + 1) np122) ci122 (by decide) (by decide +kernel) (Nat.le_of_ble_eq_true rfl) ⟨rfl, rfl, Nat.le_of_ble_eq_true rfl⟩ rfl (by assumption) (c122skip (p := 0) c0 t0 hmt hln htx (by decide) (by decide) (m9_ne (by omega))) (fun r H7 hq => ?_)
  obtain ⟨rfl, c0, hO7⟩ := hq
  have c0 : H7[111]? = some (.inr (8, [.int (nI n), .ref 112, .ref 113, .ref 114, .ref 115, .ref 116, .ref 117, .int (nI c), .int rv, .int (nI tk), .ref 118, .int (nI ln), .int (nI (p + 1 + 2)), .int (nI (p + 1 + 2)), .int (f 6), .int (f 7), .ref 119, .ref 120, .int (f 8), .ref 121, .ref 122, .ref 123, .ref 124, .long sed, .ref 125, .ref 126])) := c0
  have a5 := hO7.at a5 (by decide)
  have a6 := hO7.at a6 (by decide)
  have a7 := hO7.at a7 (by decide)
  have t0 := hO7.at t0 (by decide)
  have hO := hO.trans hO7 (C := (fun j => j = 111 ∨ (115 ≤ j ∧ j ≤ 117))) (fun _ q => q) (fun _ q => Or.inl q)
  show Ev tb 125 74 [some (.ref 111)] [.int (nI 0), .int (nI c), .ref 117] H7 _
  refine evs_iastw i125_74 (by assumption) (by omega) (fun H8 hH8 => ?_)
  have c0 : H8[111]? = some (.inr (8, [.int (nI n), .ref 112, .ref 113, .ref 114, .ref 115, .ref 116, .ref 117, .int (nI c), .int rv, .int (nI tk), .ref 118, .int (nI ln), .int (nI (p + 1 + 2)), .int (nI (p + 1 + 2)), .int (f 6), .int (f 7), .ref 119, .ref 120, .int (f 8), .ref 121, .ref 122, .ref 123, .ref 124, .long sed, .ref 125, .ref 126])) := by rw [hH8]; exact set_ne c0 (by omega)
  have a5 : H8[115]? = some (.inl (0, 27, .inl (upd (upd R (10 + c) (nI (tx (p + 1) - 48))) (16 + c) (nI 0)))) := by rw [hH8]; exact set_ne a5 (by omega)
  have a6 : H8[116]? = some (.inl (0, 6, .inl (upd rs c (nI (tx (p + 1 + 1) - 48))))) := by rw [hH8]; exact set_ne a6 (by omega)
  have a7 : H8[117]? = some (.inl (0, 6, .inl (upd rkk c (nI 0)))) := by rw [hH8]; exact set_self a7
  have t0 : H8[118]? = some (.inl (0, 64, .inl mt)) := by rw [hH8]; exact set_ne t0 (by omega)
  have hO : Off (fun j => j = 111 ∨ (115 ≤ j ∧ j ≤ 117)) H H8 := by rw [hH8]; exact hO.set (by first | exact Or.inl rfl | exact Or.inr ⟨by decide, by decide⟩)
  refine ev_aload_n i125_75 rfl ?_
  refine ev_dup i125_76 rfl ?_
  refine ev_get i125_77 ci125 fl8_87 (by assumption) rfl ?_
  refine ev_iconst (v := nI 1) i125_80 (by decide) ?_
  refine ev_aload_n i125_81 rfl ?_
  refine ev_get i125_82 ci125 fl8_19 (by assumption) rfl ?_
  refine ev_bipush (v := nI 10) i125_85 (by decide) ?_
  refine ev_aload_n i125_87 rfl ?_
  refine ev_get i125_88 ci125 fl8_81 (by assumption) rfl ?_
  refine evn_iadd i125_91 ?_
  refine ev_iald_n i125_92 (by assumption) (by omega) ?_
  refine ev_ishl i125_93 ?_
  refine ev_ior i125_94 ?_
  refine evs_put (fs' := [.int (nI n), .ref 112, .ref 113, .ref 114, .ref 115, .ref 116, .ref 117, .int (nI c), .int rv, .int ((nI tk) ||| ((nI 1) <<< ((upd (upd R (10 + c) (nI (tx (p + 1) - 48))) (16 + c) (nI 0) (10 + c)) &&& 31))), .ref 118, .int (nI ln), .int (nI (p + 1 + 2)), .int (nI (p + 1 + 2)), .int (f 6), .int (f 7), .ref 119, .ref 120, .int (f 8), .ref 121, .ref 122, .ref 123, .ref 124, .long sed, .ref 125, .ref 126]) i125_95 ci125 fl8_87 (by assumption) ⟨Nat.le_of_ble_eq_true rfl, rfl, Or.inl rfl⟩ rfl (fun H9 hH9 => ?_)
  have c0 : H9[111]? = some (.inr (8, [.int (nI n), .ref 112, .ref 113, .ref 114, .ref 115, .ref 116, .ref 117, .int (nI c), .int rv, .int ((nI tk) ||| ((nI 1) <<< ((upd (upd R (10 + c) (nI (tx (p + 1) - 48))) (16 + c) (nI 0) (10 + c)) &&& 31))), .ref 118, .int (nI ln), .int (nI (p + 1 + 2)), .int (nI (p + 1 + 2)), .int (f 6), .int (f 7), .ref 119, .ref 120, .int (f 8), .ref 121, .ref 122, .ref 123, .ref 124, .long sed, .ref 125, .ref 126])) := by rw [hH9]; exact set_self c0
  have a5 : H9[115]? = some (.inl (0, 27, .inl (upd (upd R (10 + c) (nI (tx (p + 1) - 48))) (16 + c) (nI 0)))) := by rw [hH9]; exact set_ne a5 (by omega)
  have a6 : H9[116]? = some (.inl (0, 6, .inl (upd rs c (nI (tx (p + 1 + 1) - 48))))) := by rw [hH9]; exact set_ne a6 (by omega)
  have a7 : H9[117]? = some (.inl (0, 6, .inl (upd rkk c (nI 0)))) := by rw [hH9]; exact set_ne a7 (by omega)
  have t0 : H9[118]? = some (.inl (0, 64, .inl mt)) := by rw [hH9]; exact set_ne t0 (by omega)
  have hO : Off (fun j => j = 111 ∨ (115 ≤ j ∧ j ≤ 117)) H H9 := by rw [hH9]; exact hO.set (by first | exact Or.inl rfl | exact Or.inr ⟨by decide, by decide⟩)
  refine ev_aload_n i125_98 rfl ?_
  refine ev_dup i125_99 rfl ?_
  refine ev_get i125_100 ci125 fl8_81 (by assumption) rfl ?_
  refine ev_iconst (v := nI 1) i125_103 (by decide) ?_
  refine evn_iadd i125_104 ?_
  refine evs_put (fs' := [.int (nI n), .ref 112, .ref 113, .ref 114, .ref 115, .ref 116, .ref 117, .int (nI (c + 1)), .int rv, .int ((nI tk) ||| ((nI 1) <<< ((upd (upd R (10 + c) (nI (tx (p + 1) - 48))) (16 + c) (nI 0) (10 + c)) &&& 31))), .ref 118, .int (nI ln), .int (nI (p + 1 + 2)), .int (nI (p + 1 + 2)), .int (f 6), .int (f 7), .ref 119, .ref 120, .int (f 8), .ref 121, .ref 122, .ref 123, .ref 124, .long sed, .ref 125, .ref 126]) i125_105 ci125 fl8_81 (by assumption) ⟨Nat.le_of_ble_eq_true rfl, rfl, Or.inl rfl⟩ rfl (fun H10 hH10 => ?_)
  have c0 : H10[111]? = some (.inr (8, [.int (nI n), .ref 112, .ref 113, .ref 114, .ref 115, .ref 116, .ref 117, .int (nI (c + 1)), .int rv, .int ((nI tk) ||| ((nI 1) <<< ((upd (upd R (10 + c) (nI (tx (p + 1) - 48))) (16 + c) (nI 0) (10 + c)) &&& 31))), .ref 118, .int (nI ln), .int (nI (p + 1 + 2)), .int (nI (p + 1 + 2)), .int (f 6), .int (f 7), .ref 119, .ref 120, .int (f 8), .ref 121, .ref 122, .ref 123, .ref 124, .long sed, .ref 125, .ref 126])) := by rw [hH10]; exact set_self c0
  have a5 : H10[115]? = some (.inl (0, 27, .inl (upd (upd R (10 + c) (nI (tx (p + 1) - 48))) (16 + c) (nI 0)))) := by rw [hH10]; exact set_ne a5 (by omega)
  have a6 : H10[116]? = some (.inl (0, 6, .inl (upd rs c (nI (tx (p + 1 + 1) - 48))))) := by rw [hH10]; exact set_ne a6 (by omega)
  have a7 : H10[117]? = some (.inl (0, 6, .inl (upd rkk c (nI 0)))) := by rw [hH10]; exact set_ne a7 (by omega)
  have t0 : H10[118]? = some (.inl (0, 64, .inl mt)) := by rw [hH10]; exact set_ne t0 (by omega)
  have hO : Off (fun j => j = 111 ∨ (115 ≤ j ∧ j ≤ 117)) H H10 := by rw [hH10]; exact hO.set (by first | exact Or.inl rfl | exact Or.inr ⟨by decide, by decide⟩)
  refine ev_vret i125_108 (by decide +kernel) ?_
  exact ⟨rfl, _, _, _, _, _, _, _, c0, a5, a6, a7, hO⟩
theorem c125b3 {tb : dxT} {H : dxH} {n : Nat} {f : Nat → Int32} {sed : Int64} {ln : Nat} {rv : Int32} {c tk : Nat} {mt : Nat → Int32} {tx : Nat → Nat} {p : Nat} {R rs rkk : Nat → Int32} (c0 : H[111]? = some (pOb n f sed ln (nI c) rv (nI tk) (nI (p + 1)) (-9))) (a5 : H[115]? = some (.inl (0, 27, .inl R))) (a6 : H[116]? = some (.inl (0, 6, .inl rs))) (a7 : H[117]? = some (.inl (0, 6, .inl rkk))) (t0 : H[118]? = some (.inl (0, 64, .inl mt))) (hmt : ∀ j, j < ln → mt j = nI (tx j)) (hln : ln ≤ 64) (htx : ∀ j, tx j < 256) (hc : c < 6) (htk : tk < 1024) (hp64 : p < ln) (k0 : p + 1 < ln ∧ okP tx false tk p 0 = true) (k1 : p + 1 + 1 < ln ∧ okP tx false tk p 1 = true) (k2 : p + 1 + 2 < ln ∧ okP tx false tk p 2 = true) (kb : ¬ (p + 1 + 3 < ln ∧ okP tx false tk p 3 = true)) (hle : p + 1 + 3 ≤ ln) : Cl tb 125 [.ref 111] H (fun r H' => r = none ∧ ∃ (rc rv rl at_ : Int32) (R rs rkk : Nat → Int32), H'[111]? = some (pOb n f sed ln rc rv rl at_ (nI (p + 1 + 3))) ∧ H'[115]? = some (.inl (0, 27, .inl R)) ∧ H'[116]? = some (.inl (0, 6, .inl rs)) ∧ H'[117]? = some (.inl (0, 6, .inl rkk)) ∧ Off (fun j => j = 111 ∨ (115 ≤ j ∧ j ≤ 117)) H H') := by
  unfold pOb at c0
  have hO : Off (fun j => j = 111 ∨ (115 ≤ j ∧ j ≤ 117)) H H := Off.rf
  obtain ⟨l0, o0⟩ := k0
  obtain ⟨q0, hbit⟩ := okP_0.mp o0
  obtain ⟨l1, o1⟩ := k1
  have q1 := okK1.mp o1
  obtain ⟨l2, o2⟩ := k2
  have q2 := okK2.mp o2
  have hbad : ¬ (p + 1 + 3 < ln ∧ 48 + 0 ≤ tx (p + 1 + 3) ∧ tx (p + 1 + 3) ≤ 48 + 3) := fun u => kb ⟨u.1, okK3.mpr u.2⟩
  show Ev tb 125 0 [some (.ref 111)] [] H _
  refine ev_aload_n i125_0 rfl ?_
  refine ev_get i125_1 ci125 fl8_19 (by assumption) rfl ?_
  refine ev_bipush (v := nI 10) i125_4 (by decide) ?_
  refine ev_aload_n i125_6 rfl ?_
  refine ev_get i125_7 ci125 fl8_81 (by assumption) rfl ?_
  refine evn_iadd i125_10 ?_
  refine ev_aload_n i125_11 rfl ?_
  refine ev_sipush (v := nI 1023) i125_12 (by decide) ?_
  refine ev_aload_n i125_15 rfl ?_
  refine ev_get i125_16 ci125 fl8_87 (by assumption) rfl ?_
  refine ev_iconst (v := (-1)) i125_19 (by decide) ?_
  refine ev_ixor i125_20 ?_
  refine ev_iand i125_21 ?_
  rw [msk tk htk]
  refine ev_callV (vs := [.int (nI (1023 - tk))]) (rest := [.int (nI (10 + c)), .ref 115]) i125_22 ci125 lk8_90 (congrArg (fun q => q + 1) np123) ci123 (by decide) (by decide +kernel) (Nat.le_of_ble_eq_true rfl) ⟨rfl, rfl, Nat.le_of_ble_eq_true rfl⟩ rfl (by assumption) (c123ok c0 t0 hmt hln htx (by omega) (by omega) (by omega) (by omega) hbit) (fun r H1 hq => ?_)
  obtain ⟨rfl, c0, hO1⟩ := hq
  have c0 : H1[111]? = some (.inr (8, [.int (nI n), .ref 112, .ref 113, .ref 114, .ref 115, .ref 116, .ref 117, .int (nI c), .int rv, .int (nI tk), .ref 118, .int (nI ln), .int (nI (p + 1 + 1)), .int (-9), .int (f 6), .int (f 7), .ref 119, .ref 120, .int (f 8), .ref 121, .ref 122, .ref 123, .ref 124, .long sed, .ref 125, .ref 126])) := c0
  have a5 := hO1.at a5 (by decide)
  have a6 := hO1.at a6 (by decide)
  have a7 := hO1.at a7 (by decide)
  have t0 := hO1.at t0 (by decide)
  have hO := hO.trans hO1 (C := (fun j => j = 111 ∨ (115 ≤ j ∧ j ≤ 117))) (fun _ q => q) (fun _ q => Or.inl q)
  show Ev tb 125 25 [some (.ref 111)] [.int (nI (tx (p + 1) - 48)), .int (nI (10 + c)), .ref 115] H1 _
  refine evs_iastw i125_25 (by assumption) (by omega) (fun H2 hH2 => ?_)
  have c0 : H2[111]? = some (.inr (8, [.int (nI n), .ref 112, .ref 113, .ref 114, .ref 115, .ref 116, .ref 117, .int (nI c), .int rv, .int (nI tk), .ref 118, .int (nI ln), .int (nI (p + 1 + 1)), .int (-9), .int (f 6), .int (f 7), .ref 119, .ref 120, .int (f 8), .ref 121, .ref 122, .ref 123, .ref 124, .long sed, .ref 125, .ref 126])) := by rw [hH2]; exact set_ne c0 (by omega)
  have a5 : H2[115]? = some (.inl (0, 27, .inl (upd R (10 + c) (nI (tx (p + 1) - 48))))) := by rw [hH2]; exact set_self a5
  have a6 : H2[116]? = some (.inl (0, 6, .inl rs)) := by rw [hH2]; exact set_ne a6 (by omega)
  have a7 : H2[117]? = some (.inl (0, 6, .inl rkk)) := by rw [hH2]; exact set_ne a7 (by omega)
  have t0 : H2[118]? = some (.inl (0, 64, .inl mt)) := by rw [hH2]; exact set_ne t0 (by omega)
  have hO : Off (fun j => j = 111 ∨ (115 ≤ j ∧ j ≤ 117)) H H2 := by rw [hH2]; exact hO.set (by first | exact Or.inl rfl | exact Or.inr ⟨by decide, by decide⟩)
  refine ev_aload_n i125_26 rfl ?_
  refine ev_get i125_27 ci125 fl8_22 (by assumption) rfl ?_
  refine ev_aload_n i125_30 rfl ?_
  refine ev_get i125_31 ci125 fl8_81 (by assumption) rfl ?_
  refine ev_aload_n i125_34 rfl ?_
  refine ev_iconst (v := nI 0) i125_35 (by decide) ?_
  refine ev_iconst (v := nI 1) i125_36 (by decide) ?_
  refine ev_callV (vs := [.int (nI 0), .int (nI 1)]) (rest := [.int (nI c), .ref 116]) i125_37 ci125 lk8_94 (congrArg (fun q => q + 1) np122) ci122 (by decide) (by decide +kernel) (Nat.le_of_ble_eq_true rfl) ⟨rfl, rfl, Nat.le_of_ble_eq_true rfl⟩ rfl (by assumption) (c122ok c0 t0 hmt hln htx (by decide) (by decide) (by omega) (by omega) (by omega)) (fun r H3 hq => ?_)
  obtain ⟨rfl, c0, hO3⟩ := hq
  have c0 : H3[111]? = some (.inr (8, [.int (nI n), .ref 112, .ref 113, .ref 114, .ref 115, .ref 116, .ref 117, .int (nI c), .int rv, .int (nI tk), .ref 118, .int (nI ln), .int (nI (p + 1 + 2)), .int (-9), .int (f 6), .int (f 7), .ref 119, .ref 120, .int (f 8), .ref 121, .ref 122, .ref 123, .ref 124, .long sed, .ref 125, .ref 126])) := c0
  have a5 := hO3.at a5 (by decide)
  have a6 := hO3.at a6 (by decide)
  have a7 := hO3.at a7 (by decide)
  have t0 := hO3.at t0 (by decide)
  have hO := hO.trans hO3 (C := (fun j => j = 111 ∨ (115 ≤ j ∧ j ≤ 117))) (fun _ q => q) (fun _ q => Or.inl q)
  show Ev tb 125 40 [some (.ref 111)] [.int (nI (tx (p + 1 + 1) - 48)), .int (nI c), .ref 116] H3 _
  refine evs_iastw i125_40 (by assumption) (by omega) (fun H4 hH4 => ?_)
  have c0 : H4[111]? = some (.inr (8, [.int (nI n), .ref 112, .ref 113, .ref 114, .ref 115, .ref 116, .ref 117, .int (nI c), .int rv, .int (nI tk), .ref 118, .int (nI ln), .int (nI (p + 1 + 2)), .int (-9), .int (f 6), .int (f 7), .ref 119, .ref 120, .int (f 8), .ref 121, .ref 122, .ref 123, .ref 124, .long sed, .ref 125, .ref 126])) := by rw [hH4]; exact set_ne c0 (by omega)
  have a5 : H4[115]? = some (.inl (0, 27, .inl (upd R (10 + c) (nI (tx (p + 1) - 48))))) := by rw [hH4]; exact set_ne a5 (by omega)
  have a6 : H4[116]? = some (.inl (0, 6, .inl (upd rs c (nI (tx (p + 1 + 1) - 48))))) := by rw [hH4]; exact set_self a6
  have a7 : H4[117]? = some (.inl (0, 6, .inl rkk)) := by rw [hH4]; exact set_ne a7 (by omega)
  have t0 : H4[118]? = some (.inl (0, 64, .inl mt)) := by rw [hH4]; exact set_ne t0 (by omega)
  have hO : Off (fun j => j = 111 ∨ (115 ≤ j ∧ j ≤ 117)) H H4 := by rw [hH4]; exact hO.set (by first | exact Or.inl rfl | exact Or.inr ⟨by decide, by decide⟩)
  refine ev_aload_n i125_41 rfl ?_
  refine ev_get i125_42 ci125 fl8_19 (by assumption) rfl ?_
  refine ev_bipush (v := nI 16) i125_45 (by decide) ?_
  refine ev_aload_n i125_47 rfl ?_
  refine ev_get i125_48 ci125 fl8_81 (by assumption) rfl ?_
  refine evn_iadd i125_51 ?_
  refine ev_aload_n i125_52 rfl ?_
  refine ev_iconst (v := nI 0) i125_53 (by decide) ?_
  refine ev_bipush (v := nI 9) i125_54 (by decide) ?_
  refine ev_callV (vs := [.int (nI 0), .int (nI 9)]) (rest := [.int (nI (16 + c)), .ref 115]) i125_56 ci125 lk8_94 (congrArg (fun q => q + 1) np122) ci122 (by decide) (by decide +kernel) (Nat.le_of_ble_eq_true rfl) ⟨rfl, rfl, Nat.le_of_ble_eq_true rfl⟩ rfl (by assumption) (c122ok c0 t0 hmt hln htx (by decide) (by decide) (by omega) (by omega) (by omega)) (fun r H5 hq => ?_)
  obtain ⟨rfl, c0, hO5⟩ := hq
  have c0 : H5[111]? = some (.inr (8, [.int (nI n), .ref 112, .ref 113, .ref 114, .ref 115, .ref 116, .ref 117, .int (nI c), .int rv, .int (nI tk), .ref 118, .int (nI ln), .int (nI (p + 1 + 3)), .int (-9), .int (f 6), .int (f 7), .ref 119, .ref 120, .int (f 8), .ref 121, .ref 122, .ref 123, .ref 124, .long sed, .ref 125, .ref 126])) := c0
  have a5 := hO5.at a5 (by decide)
  have a6 := hO5.at a6 (by decide)
  have a7 := hO5.at a7 (by decide)
  have t0 := hO5.at t0 (by decide)
  have hO := hO.trans hO5 (C := (fun j => j = 111 ∨ (115 ≤ j ∧ j ≤ 117))) (fun _ q => q) (fun _ q => Or.inl q)
  show Ev tb 125 59 [some (.ref 111)] [.int (nI (tx (p + 1 + 2) - 48)), .int (nI (16 + c)), .ref 115] H5 _
  refine evs_iastw i125_59 (by assumption) (by omega) (fun H6 hH6 => ?_)
  have c0 : H6[111]? = some (.inr (8, [.int (nI n), .ref 112, .ref 113, .ref 114, .ref 115, .ref 116, .ref 117, .int (nI c), .int rv, .int (nI tk), .ref 118, .int (nI ln), .int (nI (p + 1 + 3)), .int (-9), .int (f 6), .int (f 7), .ref 119, .ref 120, .int (f 8), .ref 121, .ref 122, .ref 123, .ref 124, .long sed, .ref 125, .ref 126])) := by rw [hH6]; exact set_ne c0 (by omega)
  have a5 : H6[115]? = some (.inl (0, 27, .inl (upd (upd R (10 + c) (nI (tx (p + 1) - 48))) (16 + c) (nI (tx (p + 1 + 2) - 48))))) := by rw [hH6]; exact set_self a5
  have a6 : H6[116]? = some (.inl (0, 6, .inl (upd rs c (nI (tx (p + 1 + 1) - 48))))) := by rw [hH6]; exact set_ne a6 (by omega)
  have a7 : H6[117]? = some (.inl (0, 6, .inl rkk)) := by rw [hH6]; exact set_ne a7 (by omega)
  have t0 : H6[118]? = some (.inl (0, 64, .inl mt)) := by rw [hH6]; exact set_ne t0 (by omega)
  have hO : Off (fun j => j = 111 ∨ (115 ≤ j ∧ j ≤ 117)) H H6 := by rw [hH6]; exact hO.set (by first | exact Or.inl rfl | exact Or.inr ⟨by decide, by decide⟩)
  refine ev_aload_n i125_60 rfl ?_
  refine ev_get i125_61 ci125 fl8_25 (by assumption) rfl ?_
  refine ev_aload_n i125_64 rfl ?_
  refine ev_get i125_65 ci125 fl8_81 (by assumption) rfl ?_
  refine ev_aload_n i125_68 rfl ?_
  refine ev_iconst (v := nI 0) i125_69 (by decide) ?_
  refine ev_iconst (v := nI 3) i125_70 (by decide) ?_
  refine ev_callV (vs := [.int (nI 0), .int (nI 3)]) (rest := [.int (nI c), .ref 117]) i125_71 ci125 lk8_94 (congrArg (fun q => q + 1) np122) ci122 (by decide) (by decide +kernel) (Nat.le_of_ble_eq_true rfl) ⟨rfl, rfl, Nat.le_of_ble_eq_true rfl⟩ rfl (by assumption) (c122bad c0 t0 hmt hln htx (by decide) (by decide) (by omega) hbad) (fun r H7 hq => ?_)
  obtain ⟨rfl, c0, hO7⟩ := hq
  have c0 : H7[111]? = some (.inr (8, [.int (nI n), .ref 112, .ref 113, .ref 114, .ref 115, .ref 116, .ref 117, .int (nI c), .int rv, .int (nI tk), .ref 118, .int (nI ln), .int (nI (p + 1 + 3)), .int (nI (p + 1 + 3)), .int (f 6), .int (f 7), .ref 119, .ref 120, .int (f 8), .ref 121, .ref 122, .ref 123, .ref 124, .long sed, .ref 125, .ref 126])) := c0
  have a5 := hO7.at a5 (by decide)
  have a6 := hO7.at a6 (by decide)
  have a7 := hO7.at a7 (by decide)
  have t0 := hO7.at t0 (by decide)
  have hO := hO.trans hO7 (C := (fun j => j = 111 ∨ (115 ≤ j ∧ j ≤ 117))) (fun _ q => q) (fun _ q => Or.inl q)
  show Ev tb 125 74 [some (.ref 111)] [.int (nI 0), .int (nI c), .ref 117] H7 _
  refine evs_iastw i125_74 (by assumption) (by omega) (fun H8 hH8 => ?_)
  have c0 : H8[111]? = some (.inr (8, [.int (nI n), .ref 112, .ref 113, .ref 114, .ref 115, .ref 116, .ref 117, .int (nI c), .int rv, .int (nI tk), .ref 118, .int (nI ln), .int (nI (p + 1 + 3)), .int (nI (p + 1 + 3)), .int (f 6), .int (f 7), .ref 119, .ref 120, .int (f 8), .ref 121, .ref 122, .ref 123, .ref 124, .long sed, .ref 125, .ref 126])) := by rw [hH8]; exact set_ne c0 (by omega)
  have a5 : H8[115]? = some (.inl (0, 27, .inl (upd (upd R (10 + c) (nI (tx (p + 1) - 48))) (16 + c) (nI (tx (p + 1 + 2) - 48))))) := by rw [hH8]; exact set_ne a5 (by omega)
  have a6 : H8[116]? = some (.inl (0, 6, .inl (upd rs c (nI (tx (p + 1 + 1) - 48))))) := by rw [hH8]; exact set_ne a6 (by omega)
  have a7 : H8[117]? = some (.inl (0, 6, .inl (upd rkk c (nI 0)))) := by rw [hH8]; exact set_self a7
  have t0 : H8[118]? = some (.inl (0, 64, .inl mt)) := by rw [hH8]; exact set_ne t0 (by omega)
  have hO : Off (fun j => j = 111 ∨ (115 ≤ j ∧ j ≤ 117)) H H8 := by rw [hH8]; exact hO.set (by first | exact Or.inl rfl | exact Or.inr ⟨by decide, by decide⟩)
  refine ev_aload_n i125_75 rfl ?_
  refine ev_dup i125_76 rfl ?_
  refine ev_get i125_77 ci125 fl8_87 (by assumption) rfl ?_
  refine ev_iconst (v := nI 1) i125_80 (by decide) ?_
  refine ev_aload_n i125_81 rfl ?_
  refine ev_get i125_82 ci125 fl8_19 (by assumption) rfl ?_
  refine ev_bipush (v := nI 10) i125_85 (by decide) ?_
  refine ev_aload_n i125_87 rfl ?_
  refine ev_get i125_88 ci125 fl8_81 (by assumption) rfl ?_
  refine evn_iadd i125_91 ?_
  refine ev_iald_n i125_92 (by assumption) (by omega) ?_
  refine ev_ishl i125_93 ?_
  refine ev_ior i125_94 ?_
  refine evs_put (fs' := [.int (nI n), .ref 112, .ref 113, .ref 114, .ref 115, .ref 116, .ref 117, .int (nI c), .int rv, .int ((nI tk) ||| ((nI 1) <<< ((upd (upd R (10 + c) (nI (tx (p + 1) - 48))) (16 + c) (nI (tx (p + 1 + 2) - 48)) (10 + c)) &&& 31))), .ref 118, .int (nI ln), .int (nI (p + 1 + 3)), .int (nI (p + 1 + 3)), .int (f 6), .int (f 7), .ref 119, .ref 120, .int (f 8), .ref 121, .ref 122, .ref 123, .ref 124, .long sed, .ref 125, .ref 126]) i125_95 ci125 fl8_87 (by assumption) ⟨Nat.le_of_ble_eq_true rfl, rfl, Or.inl rfl⟩ rfl (fun H9 hH9 => ?_)
  have c0 : H9[111]? = some (.inr (8, [.int (nI n), .ref 112, .ref 113, .ref 114, .ref 115, .ref 116, .ref 117, .int (nI c), .int rv, .int ((nI tk) ||| ((nI 1) <<< ((upd (upd R (10 + c) (nI (tx (p + 1) - 48))) (16 + c) (nI (tx (p + 1 + 2) - 48)) (10 + c)) &&& 31))), .ref 118, .int (nI ln), .int (nI (p + 1 + 3)), .int (nI (p + 1 + 3)), .int (f 6), .int (f 7), .ref 119, .ref 120, .int (f 8), .ref 121, .ref 122, .ref 123, .ref 124, .long sed, .ref 125, .ref 126])) := by rw [hH9]; exact set_self c0
  have a5 : H9[115]? = some (.inl (0, 27, .inl (upd (upd R (10 + c) (nI (tx (p + 1) - 48))) (16 + c) (nI (tx (p + 1 + 2) - 48))))) := by rw [hH9]; exact set_ne a5 (by omega)
  have a6 : H9[116]? = some (.inl (0, 6, .inl (upd rs c (nI (tx (p + 1 + 1) - 48))))) := by rw [hH9]; exact set_ne a6 (by omega)
  have a7 : H9[117]? = some (.inl (0, 6, .inl (upd rkk c (nI 0)))) := by rw [hH9]; exact set_ne a7 (by omega)
  have t0 : H9[118]? = some (.inl (0, 64, .inl mt)) := by rw [hH9]; exact set_ne t0 (by omega)
  have hO : Off (fun j => j = 111 ∨ (115 ≤ j ∧ j ≤ 117)) H H9 := by rw [hH9]; exact hO.set (by first | exact Or.inl rfl | exact Or.inr ⟨by decide, by decide⟩)
  refine ev_aload_n i125_98 rfl ?_
  refine ev_dup i125_99 rfl ?_
  refine ev_get i125_100 ci125 fl8_81 (by assumption) rfl ?_
  refine ev_iconst (v := nI 1) i125_103 (by decide) ?_
  refine evn_iadd i125_104 ?_
  refine evs_put (fs' := [.int (nI n), .ref 112, .ref 113, .ref 114, .ref 115, .ref 116, .ref 117, .int (nI (c + 1)), .int rv, .int ((nI tk) ||| ((nI 1) <<< ((upd (upd R (10 + c) (nI (tx (p + 1) - 48))) (16 + c) (nI (tx (p + 1 + 2) - 48)) (10 + c)) &&& 31))), .ref 118, .int (nI ln), .int (nI (p + 1 + 3)), .int (nI (p + 1 + 3)), .int (f 6), .int (f 7), .ref 119, .ref 120, .int (f 8), .ref 121, .ref 122, .ref 123, .ref 124, .long sed, .ref 125, .ref 126]) i125_105 ci125 fl8_81 (by assumption) ⟨Nat.le_of_ble_eq_true rfl, rfl, Or.inl rfl⟩ rfl (fun H10 hH10 => ?_)
  have c0 : H10[111]? = some (.inr (8, [.int (nI n), .ref 112, .ref 113, .ref 114, .ref 115, .ref 116, .ref 117, .int (nI (c + 1)), .int rv, .int ((nI tk) ||| ((nI 1) <<< ((upd (upd R (10 + c) (nI (tx (p + 1) - 48))) (16 + c) (nI (tx (p + 1 + 2) - 48)) (10 + c)) &&& 31))), .ref 118, .int (nI ln), .int (nI (p + 1 + 3)), .int (nI (p + 1 + 3)), .int (f 6), .int (f 7), .ref 119, .ref 120, .int (f 8), .ref 121, .ref 122, .ref 123, .ref 124, .long sed, .ref 125, .ref 126])) := by rw [hH10]; exact set_self c0
  have a5 : H10[115]? = some (.inl (0, 27, .inl (upd (upd R (10 + c) (nI (tx (p + 1) - 48))) (16 + c) (nI (tx (p + 1 + 2) - 48))))) := by rw [hH10]; exact set_ne a5 (by omega)
  have a6 : H10[116]? = some (.inl (0, 6, .inl (upd rs c (nI (tx (p + 1 + 1) - 48))))) := by rw [hH10]; exact set_ne a6 (by omega)
  have a7 : H10[117]? = some (.inl (0, 6, .inl (upd rkk c (nI 0)))) := by rw [hH10]; exact set_ne a7 (by omega)
  have t0 : H10[118]? = some (.inl (0, 64, .inl mt)) := by rw [hH10]; exact set_ne t0 (by omega)
  have hO : Off (fun j => j = 111 ∨ (115 ≤ j ∧ j ≤ 117)) H H10 := by rw [hH10]; exact hO.set (by first | exact Or.inl rfl | exact Or.inr ⟨by decide, by decide⟩)
  refine ev_vret i125_108 (by decide +kernel) ?_
  exact ⟨rfl, _, _, _, _, _, _, _, c0, a5, a6, a7, hO⟩
theorem c125bad {tb : dxT} {H : dxH} {n : Nat} {f : Nat → Int32} {sed : Int64} {ln : Nat} {rv : Int32} {c tk : Nat} {mt : Nat → Int32} {tx : Nat → Nat} {p : Nat} {R rs rkk : Nat → Int32} (c0 : H[111]? = some (pOb n f sed ln (nI c) rv (nI tk) (nI (p + 1)) (-9))) (a5 : H[115]? = some (.inl (0, 27, .inl R))) (a6 : H[116]? = some (.inl (0, 6, .inl rs))) (a7 : H[117]? = some (.inl (0, 6, .inl rkk))) (t0 : H[118]? = some (.inl (0, 64, .inl mt))) (hmt : ∀ j, j < ln → mt j = nI (tx j)) (hln : ln ≤ 64) (htx : ∀ j, tx j < 256) (hc : c < 6) (htk : tk < 1024) (hp64 : p < ln) (hf : ¬ fopL tx ln false tk p 4 0 = -9) : Cl tb 125 [.ref 111] H (fun r H' => r = none ∧ ∃ (rc rv rl at_ : Int32) (R rs rkk : Nat → Int32), H'[111]? = some (pOb n f sed ln rc rv rl at_ (fopL tx ln false tk p 4 0)) ∧ H'[115]? = some (.inl (0, 27, .inl R)) ∧ H'[116]? = some (.inl (0, 6, .inl rs)) ∧ H'[117]? = some (.inl (0, 6, .inl rkk)) ∧ Off (fun j => j = 111 ∨ (115 ≤ j ∧ j ≤ 117)) H H') := by
  by_cases k0 : p + 1 < ln ∧ okP tx false tk p 0 = true
  · by_cases k1 : p + 1 + 1 < ln ∧ okP tx false tk p 1 = true
    · by_cases k2 : p + 1 + 2 < ln ∧ okP tx false tk p 2 = true
      · by_cases k3 : p + 1 + 3 < ln ∧ okP tx false tk p 3 = true
        · exact absurd (show fopL tx ln false tk p 4 0 = -9 by rw [fop_step k0.1 k0.2, fop_step k1.1 k1.2, fop_step k2.1 k2.2, fop_step k3.1 k3.2]; rfl) hf
        · rw [show fopL tx ln false tk p 4 0 = nI (p + 1 + 3) by rw [fop_step k0.1 k0.2, fop_step k1.1 k1.2, fop_step k2.1 k2.2]; exact fop_bad (by omega) k3]
          exact c125b3 c0 a5 a6 a7 t0 hmt hln htx hc htk hp64 k0 k1 k2 k3 (by omega)
      · rw [show fopL tx ln false tk p 4 0 = nI (p + 1 + 2) by rw [fop_step k0.1 k0.2, fop_step k1.1 k1.2]; exact fop_bad (by omega) k2]
        exact c125b2 c0 a5 a6 a7 t0 hmt hln htx hc htk hp64 k0 k1 k2 (by omega)
    · rw [show fopL tx ln false tk p 4 0 = nI (p + 1 + 1) by rw [fop_step k0.1 k0.2]; exact fop_bad (by omega) k1]
      exact c125b1 c0 a5 a6 a7 t0 hmt hln htx hc htk hp64 k0 k1 (by omega)
  · rw [show fopL tx ln false tk p 4 0 = nI (p + 1) from fop_bad (by omega) k0]
    exact c125b0 c0 a5 a6 a7 t0 hmt hln htx hc htk hp64 k0 (by omega)
