/-! the class's text told to the meadow; fault, pass  -/
/-- what is told: cows, sides, kinds, clover, cells, fullness -/
abbrev Tl : Type := Nat × (Nat → Nat) × (Nat → Nat) × (Nat → Nat) × (Nat → Nat) × (Nat → Nat)
def telG (tx : Nat → Nat) (p : Nat) (t : Tl) : Tl := (t.1, t.2.1, t.2.2.1, updN t.2.2.2.1 (tx (p + 1) - 48) (tx (p + 2) - 48), t.2.2.2.2.1, t.2.2.2.2.2)
def telK (tx : Nat → Nat) (p : Nat) (t : Tl) : Tl := (t.1 + 1, updN t.2.1 t.1 (tx (p + 2) - 48), updN t.2.2.1 t.1 (tx (p + 4) - 48), t.2.2.2.1, updN t.2.2.2.2.1 t.1 (tx (p + 1) - 48), updN t.2.2.2.2.2 t.1 (tx (p + 3) - 48))
def telL (tx : Nat → Nat) (ln : Nat) : Nat → Nat → Tl → Tl
  | 0, _, t => t
  | d + 1, p, t => if ln ≤ p then t else if tx p = 71 then telL tx ln d (p + 3) (telG tx p t) else telL tx ln d (p + 5) (telK tx p t)
def TlOK (tk : Nat) (t : Tl) : Prop := t.1 = popN tk ∧ t.1 ≤ 6 ∧ (∀ j, t.2.1 j < 2) ∧ (∀ j, t.2.2.1 j < 4) ∧ ((∀ j, t.2.2.2.1 j < 10) ∧ Vn 10 t.2.2.2.1) ∧ ((∀ j, t.2.2.2.2.1 j < 10) ∧ Vn 6 t.2.2.2.2.1) ∧ ((∀ j, t.2.2.2.2.2 j < 10) ∧ Vn 6 t.2.2.2.2.2) ∧ (∀ i, i < t.1 → tk.testBit (t.2.2.2.2.1 i) = true) ∧ ∀ i j, i < t.1 → j < t.1 → t.2.2.2.2.1 i = t.2.2.2.2.1 j → i = j
theorem fpl_G {tx : Nat → Nat} {ln d gr tk p : Nat} (hln : ln ≤ 64) (hv : fplL tx ln (d + 1) gr tk p = -9) (h1 : ¬ ln ≤ p) (h2 : tx p = 71) : fplL tx ln d (gr ||| 2 ^ (tx (p + 1) - 48)) tk (p + 3) = -9 ∧ p + 2 < ln ∧ (48 ≤ tx (p + 1) ∧ tx (p + 1) ≤ 57) ∧ 49 ≤ tx (p + 2) ∧ tx (p + 2) ≤ 57 := by
  unfold fplL at hv
  rw [if_neg h1, if_pos h2] at hv
  by_cases h3 : gr = 1023
  · rw [if_pos h3] at hv
    exact absurd hv (m9_ne (by omega))
  rw [if_neg h3] at hv
  by_cases h4 : fopL tx ln true gr p (pln true) 0 = -9
  · rw [if_pos h4] at hv
    obtain ⟨q1, q2, q3⟩ := fop_ok (d := 1) (i := 0) hln (by omega) (by decide) h4
    obtain ⟨q4, q5, _⟩ := fop_ok (d := 0) (i := 1) hln (by omega) (by decide) q3
    have e1 : 48 + plo true 1 ≤ tx (p + 2) ∧ tx (p + 2) ≤ 48 + phi true 1 := okP_in q5
    rw [show plo true 1 = 1 by decide, show phi true 1 = 9 by decide] at e1
    exact ⟨hv, by omega, okP_dg q2, by omega, by omega⟩
  · rw [if_neg h4] at hv
    exact absurd hv h4
theorem fpl_K {tx : Nat → Nat} {ln d gr tk p : Nat} (hln : ln ≤ 64) (hv : fplL tx ln (d + 1) gr tk p = -9) (h1 : ¬ ln ≤ p) (h2 : ¬ tx p = 71) : (tx p = 75 ∧ popN tk < 6) ∧ fplL tx ln d gr (tk ||| 2 ^ (tx (p + 1) - 48)) (p + 5) = -9 ∧ p + 4 < ln ∧ (48 ≤ tx (p + 1) ∧ tx (p + 1) ≤ 57) ∧ (48 ≤ tx (p + 2) ∧ tx (p + 2) ≤ 49) ∧ (48 ≤ tx (p + 3) ∧ tx (p + 3) ≤ 57) ∧ (48 ≤ tx (p + 4) ∧ tx (p + 4) ≤ 51) ∧ tk.testBit (tx (p + 1) - 48) = false := by
  unfold fplL at hv
  rw [if_neg h1, if_neg h2] at hv
  by_cases h5 : tx p = 75
  · rw [if_pos h5] at hv
    by_cases h3 : popN tk < 6
    · rw [if_pos h3] at hv
      by_cases h4 : fopL tx ln false tk p (pln false) 0 = -9
      · rw [if_pos h4] at hv
        obtain ⟨q1, q2, q3⟩ := fop_ok (d := 3) (i := 0) hln (by omega) (by decide) h4
        obtain ⟨q4, q5, q6⟩ := fop_ok (d := 2) (i := 1) hln (by omega) (by decide) q3
        obtain ⟨q7, q8, q9⟩ := fop_ok (d := 1) (i := 2) hln (by omega) (by decide) q6
        obtain ⟨r1, r2, _⟩ := fop_ok (d := 0) (i := 3) hln (by omega) (by decide) q9
        have e1 : 48 + plo false 1 ≤ tx (p + 2) ∧ tx (p + 2) ≤ 48 + phi false 1 := okP_in q5
        rw [show plo false 1 = 0 by decide, show phi false 1 = 1 by decide] at e1
        have e2 : 48 + plo false 2 ≤ tx (p + 3) ∧ tx (p + 3) ≤ 48 + phi false 2 := okP_in q8
        rw [show plo false 2 = 0 by decide, show phi false 2 = 9 by decide] at e2
        have e3 : 48 + plo false 3 ≤ tx (p + 4) ∧ tx (p + 4) ≤ 48 + phi false 3 := okP_in r2
        rw [show plo false 3 = 0 by decide, show phi false 3 = 3 by decide] at e3
        exact ⟨⟨h5, h3⟩, hv, by omega, okP_dg q2, by omega, by omega, by omega, okP_us q2⟩
      · rw [if_neg h4] at hv
        exact absurd hv h4
    · rw [if_neg h3] at hv
      exact absurd hv (m9_ne (by omega))
  · rw [if_neg h5] at hv
    exact absurd hv (m9_ne (by omega))
theorem bit_or {a f j : Nat} : (a ||| 2 ^ f).testBit j = (a.testBit j || decide (f = j)) := by
  rw [Nat.testBit_or, Nat.testBit_two_pow]
theorem tel_ok {tx : Nat → Nat} {ln : Nat} (hln : ln ≤ 64) : ∀ (d gr tk p : Nat) (t : Tl), fplL tx ln d gr tk p = -9 → tk < 1024 → TlOK tk t → ∃ tk', TlOK tk' (telL tx ln d p t)
  | 0, gr, tk, p, t, _, _, h => ⟨tk, h⟩
  | d + 1, gr, tk, p, t, hv, ht, h => by
    obtain ⟨h1, h2, h3, h4, h5, h6, h7, h8, h9⟩ := id h
    unfold telL
    by_cases g1 : ln ≤ p
    · rw [if_pos g1]
      exact ⟨tk, h⟩
    rw [if_neg g1]
    by_cases g2 : tx p = 71
    · rw [if_pos g2]
      obtain ⟨k1, k2, k3, k4⟩ := fpl_G hln hv g1 g2
      exact tel_ok hln d _ tk (p + 3) _ k1 ht ⟨h1, h2, h3, h4, ⟨updN_lt h5.1 (by omega), h5.2.up (by omega)⟩, h6, h7, h8, h9⟩
    · rw [if_neg g2]
      obtain ⟨k1, k2, k3, k4, k5, k6, k7, k8⟩ := fpl_K hln hv g1 g2
      have e := pop_or (tx (p + 1) - 48) (by omega) tk ht k8
      refine tel_ok hln d _ (tk ||| 2 ^ (tx (p + 1) - 48)) (p + 5) _ k2 (or10_lt (m := 10) ht (by omega)) ⟨?_, ?_, updN_lt h3 (by omega), updN_lt h4 (by omega), h5, ⟨updN_lt h6.1 (by omega), h6.2.up (by omega)⟩, ⟨updN_lt h7.1 (by omega), h7.2.up (by omega)⟩, ?_, ?_⟩
      · show t.1 + 1 = _
        omega
      · show t.1 + 1 ≤ 6
        omega
      · intro i hi
        replace hi : i < t.1 + 1 := hi
        show (tk ||| 2 ^ (tx (p + 1) - 48)).testBit (updN t.2.2.2.2.1 t.1 (tx (p + 1) - 48) i) = true
        rw [bit_or]
        unfold updN
        by_cases q : i = t.1
        · rw [if_pos q, Bool.or_eq_true]
          exact Or.inr (decide_eq_true rfl)
        · rw [if_neg q, Bool.or_eq_true]
          exact Or.inl (h8 i (by omega))
      · intro i j hi hj hij
        replace hi : i < t.1 + 1 := hi
        replace hj : j < t.1 + 1 := hj
        replace hij : updN t.2.2.2.2.1 t.1 (tx (p + 1) - 48) i = updN t.2.2.2.2.1 t.1 (tx (p + 1) - 48) j := hij
        unfold updN at hij
        by_cases q : i = t.1 <;> by_cases q2 : j = t.1
        · omega
        · rw [if_pos q, if_neg q2] at hij
          have e1 := h8 j (by omega)
          rw [← hij, k8] at e1
          cases e1
        · rw [if_neg q, if_pos q2] at hij
          have e1 := h8 i (by omega)
          rw [hij, k8] at e1
          cases e1
        · rw [if_neg q, if_neg q2] at hij
          exact h9 i j (by omega) (by omega) hij
theorem lq56 {tb : dxT} {tx : Nat → Nat} {ln : Nat} {pa : Nat → Int32} {sn : Bool} {ho wa : Int32} (hln : ln ≤ 64) (htx : ∀ j, tx j < 256) : ∀ (d k gr tk p : Nat) (t : Tl) (H : dxH), k + d = 64 → tk < 1024 → p ≤ 69 → fplL tx ln d gr tk p = -9 → t.1 = popN tk → t.1 ≤ 6 → TxtAt H tx ln → HrdAt H t.1 t.2.1 t.2.2.1 → MdwAt H 6 t.2.2.2.1 t.2.2.2.2.1 t.2.2.2.2.2 pa (2 ^ t.1 - 1) sn ho wa → Ev tb 56 4 [some (.ref 1), some (.ref 6), some (.int (nI p)), some (.int (nI k))] [] H (fun r H' => r = none ∧ HrdAt H' (telL tx ln d p t).1 (telL tx ln d p t).2.1 (telL tx ln d p t).2.2.1 ∧ MdwAt H' 6 (telL tx ln d p t).2.2.2.1 (telL tx ln d p t).2.2.2.2.1 (telL tx ln d p t).2.2.2.2.2 pa (2 ^ (telL tx ln d p t).1 - 1) sn ho wa ∧ Off adC H H')
  | 0, k, gr, tk, p, t, H, hk, ht, hp, hv, hn, hn6, hX, fH, fM => by
    obtain rfl : k = 64 := by omega
    refine ev_iload_n i56_4 rfl ?_
    refine ev_bipush (v := nI 64) i56_5 (by decide) ?_
    refine evn_icmp_ge (t := 93) i56_7 (by decide) (by omega) (fun z7 => ?_) (fun z7 => by exfalso; omega)
    refine ev_vret i56_93 (by decide +kernel) ?_
    exact ⟨rfl, fH, fM, Off.rf⟩
  | d + 1, k, gr, tk, p, t, H, hk, ht, hp, hv, hn, hn6, hX, fH, fM => by
    have htp := htx p
    obtain ⟨x0, x1⟩ := id hX
    obtain ⟨m0, _⟩ := id fM
    refine ev_iload_n i56_4 rfl ?_
    refine ev_bipush (v := nI 64) i56_5 (by decide) ?_
    refine evn_icmp_ge (t := 93) i56_7 (by decide) (by omega) (fun z7 => by exfalso; omega) (fun z7 => ?_)
    refine ev_iload_n i56_10 rfl ?_
    refine ev_aload_n i56_11 rfl ?_
    refine ev_get i56_12 ci56 fl4_15 (by assumption) rfl ?_
    refine evn_icmp_ge (t := 93) i56_15 (by decide) (by omega) (fun z15 => ?_) (fun z15 => ?_)
    · refine ev_vret i56_93 (by decide +kernel) ?_
      unfold telL
      rw [if_pos (by omega)]
      exact ⟨rfl, fH, fM, Off.rf⟩
    · refine ev_aload_n i56_18 rfl ?_
      refine ev_iload_n i56_19 rfl ?_
      refine ev_callV (vs := [.int (nI p)]) (rest := []) i56_20 ci56 lk4_19 (congrArg (fun q => q + 1) np52) ci52 (by decide) (by decide +kernel) (Nat.le_of_ble_eq_true rfl) ⟨rfl, rfl, Nat.le_of_ble_eq_true rfl⟩ rfl (by assumption) (c52t hX hln (by omega)) (fun r HH hq => ?_)
      obtain ⟨rfl, rfl⟩ := hq
      show Ev tb 56 23 [some (.ref 1), some (.ref 6), some (.int (nI p)), some (.int (nI k))] [.int (nI (tx p))] H _
      refine ev_bipush (v := nI 71) i56_23 (by decide) ?_
      refine evn_icmp_ne (t := 52) i56_25 (by decide) (by omega) (fun z25 => ?_) (fun z25 => ?_)
      · obtain ⟨k1, k2, k3, k4, k5, k6, k7, k8⟩ := fpl_K hln hv (by omega) z25
        have e := pop_or (tx (p + 1) - 48) (by omega) tk ht k8
        refine ev_aload_n i56_52 rfl ?_
        refine ev_aload_n i56_53 rfl ?_
        refine ev_iload_n i56_54 rfl ?_
        refine ev_iconst (v := nI 1) i56_55 (by decide) ?_
        refine evn_iadd i56_56 ?_
        refine ev_callV (vs := [.int (nI (p + 1))]) (rest := [.ref 6]) i56_57 ci56 lk4_44 (congrArg (fun q => q + 1) np53) ci53 (by decide) (by decide +kernel) (Nat.le_of_ble_eq_true rfl) ⟨rfl, rfl, Nat.le_of_ble_eq_true rfl⟩ rfl (by assumption) (c53t hX hln htx (by omega) (by omega) (by omega)) (fun r HH hq => ?_)
        obtain ⟨rfl, rfl⟩ := hq
        show Ev tb 56 60 [some (.ref 1), some (.ref 6), some (.int (nI p)), some (.int (nI k))] [.int (nI (tx (p + 1) - 48)), .ref 6] H _
        refine ev_aload_n i56_60 rfl ?_
        refine ev_iload_n i56_61 rfl ?_
        refine ev_iconst (v := nI 2) i56_62 (by decide) ?_
        refine evn_iadd i56_63 ?_
        refine ev_callV (vs := [.int (nI (p + 2))]) (rest := [.int (nI (tx (p + 1) - 48)), .ref 6]) i56_64 ci56 lk4_44 (congrArg (fun q => q + 1) np53) ci53 (by decide) (by decide +kernel) (Nat.le_of_ble_eq_true rfl) ⟨rfl, rfl, Nat.le_of_ble_eq_true rfl⟩ rfl (by assumption) (c53t hX hln htx (by omega) (by omega) (by omega)) (fun r HH hq => ?_)
        obtain ⟨rfl, rfl⟩ := hq
        show Ev tb 56 67 [some (.ref 1), some (.ref 6), some (.int (nI p)), some (.int (nI k))] [.int (nI (tx (p + 2) - 48)), .int (nI (tx (p + 1) - 48)), .ref 6] H _
        refine ev_aload_n i56_67 rfl ?_
        refine ev_iload_n i56_68 rfl ?_
        refine ev_iconst (v := nI 3) i56_69 (by decide) ?_
        refine evn_iadd i56_70 ?_
        refine ev_callV (vs := [.int (nI (p + 3))]) (rest := [.int (nI (tx (p + 2) - 48)), .int (nI (tx (p + 1) - 48)), .ref 6]) i56_71 ci56 lk4_44 (congrArg (fun q => q + 1) np53) ci53 (by decide) (by decide +kernel) (Nat.le_of_ble_eq_true rfl) ⟨rfl, rfl, Nat.le_of_ble_eq_true rfl⟩ rfl (by assumption) (c53t hX hln htx (by omega) (by omega) (by omega)) (fun r HH hq => ?_)
        obtain ⟨rfl, rfl⟩ := hq
        show Ev tb 56 74 [some (.ref 1), some (.ref 6), some (.int (nI p)), some (.int (nI k))] [.int (nI (tx (p + 3) - 48)), .int (nI (tx (p + 2) - 48)), .int (nI (tx (p + 1) - 48)), .ref 6] H _
        refine ev_aload_n i56_74 rfl ?_
        refine ev_iload_n i56_75 rfl ?_
        refine ev_iconst (v := nI 4) i56_76 (by decide) ?_
        refine evn_iadd i56_77 ?_
        refine ev_callV (vs := [.int (nI (p + 4))]) (rest := [.int (nI (tx (p + 3) - 48)), .int (nI (tx (p + 2) - 48)), .int (nI (tx (p + 1) - 48)), .ref 6]) i56_78 ci56 lk4_44 (congrArg (fun q => q + 1) np53) ci53 (by decide) (by decide +kernel) (Nat.le_of_ble_eq_true rfl) ⟨rfl, rfl, Nat.le_of_ble_eq_true rfl⟩ rfl (by assumption) (c53t hX hln htx (by omega) (by omega) (by omega)) (fun r HH hq => ?_)
        obtain ⟨rfl, rfl⟩ := hq
        show Ev tb 56 81 [some (.ref 1), some (.ref 6), some (.int (nI p)), some (.int (nI k))] [.int (nI (tx (p + 4) - 48)), .int (nI (tx (p + 3) - 48)), .int (nI (tx (p + 2) - 48)), .int (nI (tx (p + 1) - 48)), .ref 6] H _
        refine ev_callV (vs := [.int (nI (tx (p + 1) - 48)), .int (nI (tx (p + 2) - 48)), .int (nI (tx (p + 3) - 48)), .int (nI (tx (p + 4) - 48))]) (rest := []) i56_81 ci56 lk4_53 (congrArg (fun q => q + 1) np21) ci21 (by decide) (by decide +kernel) (Nat.le_of_ble_eq_true rfl) ⟨rfl, rfl, Nat.le_of_ble_eq_true rfl⟩ rfl (by assumption) (c21 fH fM (by omega)) (fun r H1 hq => ?_)
        obtain ⟨rfl, fH, fM, hO1⟩ := hq
        have hX := hX.off hO1 (by unfold adC hdC mdC; omega) (by unfold adC hdC mdC; omega)
        show Ev tb 56 84 [some (.ref 1), some (.ref 6), some (.int (nI p)), some (.int (nI k))] [] H1 _
        refine evn_iinc (d := 5) (L' := [some (.ref 1), some (.ref 6), some (.int (nI (p + 5))), some (.int (nI k))]) i56_84 rfl rfl (by decide) rfl ?_
        refine evn_iinc (d := 1) (L' := [some (.ref 1), some (.ref 6), some (.int (nI (p + 5))), some (.int (nI (k + 1)))]) i56_87 rfl rfl (by decide) rfl ?_
        refine ev_goto (t := 4) i56_90 (by decide) ?_
        unfold telL
        rw [if_neg (by omega), if_neg z25]
        refine (lq56 hln htx d (k + 1) _ (tk ||| 2 ^ (tx (p + 1) - 48)) _ (telK tx p t) H1 (by omega) (or10_lt (m := 10) ht (by omega)) (by omega) k2 (show t.1 + 1 = _ by omega) (show t.1 + 1 ≤ 6 by omega) hX fH fM).post (fun r H' hq => ?_)
        exact ⟨hq.1, hq.2.1, hq.2.2.1, hO1.trans hq.2.2.2 (fun _ q => q) (fun _ q => q)⟩
      · obtain ⟨k1, k3, k4, k5⟩ := fpl_G hln hv (by omega) z25
        refine ev_aload_n i56_28 rfl ?_
        refine ev_aload_n i56_29 rfl ?_
        refine ev_iload_n i56_30 rfl ?_
        refine ev_iconst (v := nI 1) i56_31 (by decide) ?_
        refine evn_iadd i56_32 ?_
        refine ev_callV (vs := [.int (nI (p + 1))]) (rest := [.ref 6]) i56_33 ci56 lk4_44 (congrArg (fun q => q + 1) np53) ci53 (by decide) (by decide +kernel) (Nat.le_of_ble_eq_true rfl) ⟨rfl, rfl, Nat.le_of_ble_eq_true rfl⟩ rfl (by assumption) (c53t hX hln htx (by omega) (by omega) (by omega)) (fun r HH hq => ?_)
        obtain ⟨rfl, rfl⟩ := hq
        show Ev tb 56 36 [some (.ref 1), some (.ref 6), some (.int (nI p)), some (.int (nI k))] [.int (nI (tx (p + 1) - 48)), .ref 6] H _
        refine ev_aload_n i56_36 rfl ?_
        refine ev_iload_n i56_37 rfl ?_
        refine ev_iconst (v := nI 2) i56_38 (by decide) ?_
        refine evn_iadd i56_39 ?_
        refine ev_callV (vs := [.int (nI (p + 2))]) (rest := [.int (nI (tx (p + 1) - 48)), .ref 6]) i56_40 ci56 lk4_44 (congrArg (fun q => q + 1) np53) ci53 (by decide) (by decide +kernel) (Nat.le_of_ble_eq_true rfl) ⟨rfl, rfl, Nat.le_of_ble_eq_true rfl⟩ rfl (by assumption) (c53t hX hln htx (by omega) (by omega) (by omega)) (fun r HH hq => ?_)
        obtain ⟨rfl, rfl⟩ := hq
        show Ev tb 56 43 [some (.ref 1), some (.ref 6), some (.int (nI p)), some (.int (nI k))] [.int (nI (tx (p + 2) - 48)), .int (nI (tx (p + 1) - 48)), .ref 6] H _
        refine ev_callV (vs := [.int (nI (tx (p + 1) - 48)), .int (nI (tx (p + 2) - 48))]) (rest := []) i56_43 ci56 lk4_47 (congrArg (fun q => q + 1) np32) ci32 (by decide) (by decide +kernel) (Nat.le_of_ble_eq_true rfl) ⟨rfl, rfl, Nat.le_of_ble_eq_true rfl⟩ rfl (by assumption) (c32 fM (HE_lt hn6) (by decide) (by omega)) (fun r H1 hq => ?_)
        obtain ⟨rfl, fM, hO0⟩ := hq
        have fH := fH.off hO0 (by unfold mdC; omega) (by unfold mdC; omega) (by unfold mdC; omega)
        have hX := hX.off hO0 (by unfold mdC; omega) (by unfold mdC; omega)
        have hO1 : Off adC H H1 := hO0.weaken (fun j q => Or.inr q)
        show Ev tb 56 46 [some (.ref 1), some (.ref 6), some (.int (nI p)), some (.int (nI k))] [] H1 _
        refine evn_iinc (d := 3) (L' := [some (.ref 1), some (.ref 6), some (.int (nI (p + 3))), some (.int (nI k))]) i56_46 rfl rfl (by decide) rfl ?_
        refine ev_goto (t := 87) i56_49 (by decide) ?_
        refine evn_iinc (d := 1) (L' := [some (.ref 1), some (.ref 6), some (.int (nI (p + 3))), some (.int (nI (k + 1)))]) i56_87 rfl rfl (by decide) rfl ?_
        refine ev_goto (t := 4) i56_90 (by decide) ?_
        unfold telL
        rw [if_neg (by omega), if_pos z25]
        refine (lq56 hln htx d (k + 1) _ tk _ (telG tx p t) H1 (by omega) ht (by omega) k1 hn hn6 hX fH fM).post (fun r H' hq => ?_)
        exact ⟨hq.1, hq.2.1, hq.2.2.1, hO1.trans hq.2.2.2 (fun _ q => q) (fun _ q => q)⟩
theorem c56 {tb : dxT} {H : dxH} {tx : Nat → Nat} {ln : Nat} {pa : Nat → Int32} {sn : Bool} {ho wa : Int32} {t : Tl} (hln : ln ≤ 64) (htx : ∀ j, tx j < 256) (hv : fplL tx ln 64 0 0 1 = -9) (ht : t.1 = 0) (hX : TxtAt H tx ln) (fH : HrdAt H t.1 t.2.1 t.2.2.1) (fM : MdwAt H 6 t.2.2.2.1 t.2.2.2.2.1 t.2.2.2.2.2 pa (2 ^ t.1 - 1) sn ho wa) : Cl tb 56 [.ref 1, .ref 6] H (fun r H' => r = none ∧ HrdAt H' (telL tx ln 64 1 t).1 (telL tx ln 64 1 t).2.1 (telL tx ln 64 1 t).2.2.1 ∧ MdwAt H' 6 (telL tx ln 64 1 t).2.2.2.1 (telL tx ln 64 1 t).2.2.2.2.1 (telL tx ln 64 1 t).2.2.2.2.2 pa (2 ^ (telL tx ln 64 1 t).1 - 1) sn ho wa ∧ Off adC H H') := by
  show Ev tb 56 0 [some (.ref 1), some (.ref 6), none, none] [] H _
  refine ev_iconst (v := nI 1) i56_0 (by decide) ?_
  refine ev_istore_n (L' := [some (.ref 1), some (.ref 6), some (.int (nI 1)), none]) i56_1 ⟨Nat.le_of_ble_eq_true rfl, rfl⟩ rfl ?_
  refine ev_iconst (v := nI 0) i56_2 (by decide) ?_
  refine ev_istore_n (L' := [some (.ref 1), some (.ref 6), some (.int (nI 1)), some (.int (nI 0))]) i56_3 ⟨Nat.le_of_ble_eq_true rfl, rfl⟩ rfl ?_
  exact lq56 hln htx 64 0 0 0 1 t H rfl (by decide) (by decide) hv (ht.trans (by decide)) (by omega) hX fH fM
