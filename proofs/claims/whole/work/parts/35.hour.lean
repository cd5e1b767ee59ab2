/-! the model: an hour passes  -/
theorem upto_cut {α : Type} {f : Nat → α → α} {n : Nat} (hid : ∀ k x, n ≤ k → f k x = x) : ∀ (d k e : Nat) (x : α), k + d = n → upto f (d + e) k x = upto f d k x
  | 0, k, e, x, hk => by
    have h : ∀ (e k : Nat) (x : α), n ≤ k → upto f e k x = x := by
      intro e
      induction e with
      | zero => intro k x _; rfl
      | succ e ih =>
        intro k x hk
        show upto f e (k + 1) (f k x) = x
        rw [hid k x hk]
        exact ih (k + 1) x (by omega)
    rw [Nat.zero_add]
    exact h e k x (by omega)
  | d + 1, k, e, x, hk => by
    rw [Nat.add_right_comm]
    show upto f (d + e) (k + 1) (f k x) = upto f d (k + 1) (f k x)
    exact upto_cut hid d (k + 1) e (f k x) (by omega)
theorem mlk_cut {sm n : Nat} {sd kd : Nat → Nat} (hn : n ≤ 6) (y : (Nat → Nat) × (Nat → Int32)) : upto (mlkF (sm &&& HE n) sd kd) 6 0 y = upto (mlkF (sm &&& HE n) sd kd) n 0 y := by
  have h := upto_cut (f := mlkF (sm &&& HE n) sd kd) (n := n) (fun k x hk => by unfold mlkF; exact if_neg (by rw [mh_bit]; simp [show ¬ k < n by omega])) n 0 (6 - n) y (by omega)
  rw [show n + (6 - n) = 6 by omega] at h
  exact h
theorem eat_cut {sm n : Nat} {ce : Nat → Nat} (hn : n ≤ 6) (y : (Nat → Nat) × (Nat → Nat)) : upto (eatF (sm &&& HE n) ce) 6 0 y = upto (eatF (sm &&& HE n) ce) n 0 y := by
  have h := upto_cut (f := eatF (sm &&& HE n) ce) (n := n) (fun k x hk => by unfold eatF; exact if_neg (fun q => by have q1 := q.1; rw [mh_bit] at q1; simp [show ¬ k < n by omega] at q1)) n 0 (6 - n) y (by omega)
  rw [show n + (6 - n) = 6 by omega] at h
  exact h
theorem mlk_sok {he k : Nat} {sd kd : Nat → Nat} {a : Nat → Nat} {y : (Nat → Nat) × (Nat → Int32)} {b : Int32 × Int32} (h : SOK (a, y.1, y.2, b)) (hk : k < 6) (hsd : ∀ j, sd j < 2) : SOK (a, (mlkF he sd kd k y).1, (mlkF he sd kd k y).2, b) := by
  unfold mlkF
  split
  · refine ⟨h.1, updN_lt h.2.1 (by omega), h.2.2.1, h.2.2.2.1.up hk, fun j hj => ?_⟩
    have := hsd k
    show upd y.2 (sd k) _ j = 0
    unfold upd
    rw [if_neg (by omega)]
    exact h.2.2.2.2 j hj
  · exact h
theorem eat_sok {he k : Nat} {ce : Nat → Nat} {y : (Nat → Nat) × (Nat → Nat)} {b : (Nat → Int32) × Int32 × Int32} (h : SOK (y.1, y.2, b)) (hk : k < 6) (hce : ∀ j, ce j < 10) : SOK ((eatF he ce k y).1, (eatF he ce k y).2, b) := by
  unfold eatF
  split
  · have h1 := h.1 (ce k)
    exact ⟨updN_lt h.1 (show y.1 (ce k) - 1 < 10 by have : y.1 (ce k) < 10 := h1; omega), updN_lt h.2.1 (by split <;> (try split) <;> omega), h.2.2.1.up (hce k), h.2.2.2.1.up hk, h.2.2.2.2⟩
  · exact h
theorem lq135m {tb : dxT} {H : dxH} {n : Nat} {f : Nat → Int32} {sed : Int64} {sd kd : Nat → Nat} {g : Nat → Int32} {l : Nat} {ce : Nat → Nat} {sn rg : Bool} {x : Hs} {sm : Nat} (hn : n ≤ 6) (b4 : ∀ j, sd j < 2) (b5 : ∀ j, kd j < 4) (hce : ∀ j, ce j < 10) (hl : l < 2) (hm : sm < 1024) {Q : Option Value → dxH → Prop} : ∀ (d k : Nat) (H1 : dxH) (g1 : Nat → Int32) (y : (Nat → Nat) × (Nat → Int32)), k + d = n → MC H1 n f sed sd kd g1 → Lv g1 (27 * l) n ce sn (x.1, y.1, y.2, x.2.2.2) → SOK (x.1, y.1, y.2, x.2.2.2) → ofL l g g1 → Off (fun j => j = 114) H H1 → (∀ H3 g3, MC H3 n f sed sd kd g3 → Lv g3 (27 * l) n ce sn (x.1, (upto (mlkF (sm &&& HE n) sd kd) d k y).1, (upto (mlkF (sm &&& HE n) sd kd) d k y).2, x.2.2.2) → SOK (x.1, (upto (mlkF (sm &&& HE n) sd kd) d k y).1, (upto (mlkF (sm &&& HE n) sd kd) d k y).2, x.2.2.2) → ofL l g g3 → Off (fun j => j = 114) H H3 → Ev tb 135 106 [some (.ref 111), some (.int (nI l)), some (.int (nI sm)), some (.int (bI rg)), some (.int (nI (27 * l))), some (.int (nI 1)), some (.int (nI n))] [] H3 Q) → Ev tb 135 18 [some (.ref 111), some (.int (nI l)), some (.int (nI sm)), some (.int (bI rg)), some (.int (nI (27 * l))), some (.int (nI 1)), some (.int (nI k))] [] H1 Q
  | 0, k, H1, g1, y, hk, hC, hL, hx, hg, hO, hQ => by
    obtain rfl : k = n := by omega
    obtain ⟨c0, ⟨ms, mk, c1, c2, c3, c4⟩, c5⟩ := id hC
    unfold mOb at c0
    refine ev_iload i135_18 rfl ?_
    refine ev_aload_n i135_20 rfl ?_
    refine ev_get i135_21 ci135 fl8_56 (by assumption) rfl ?_
    refine evn_icmp_ge (t := 106) i135_24 (by decide) (by omega) (fun z24 => ?_) (fun z24 => by exfalso; omega)
    exact hQ H1 g1 hC hL hx hg hO
  | d + 1, k, H1, g1, y, hk, hC, hL, hx, hg, hO, hQ => by
    have hk6 : k < n := by omega
    have hs2 := b4 k
    obtain ⟨c0, ⟨ms, mk, c1, c2, c3, c4⟩, c5⟩ := id hC
    unfold mOb at c0
    refine ev_iload i135_18 rfl ?_
    refine ev_aload_n i135_20 rfl ?_
    refine ev_get i135_21 ci135 fl8_56 (by assumption) rfl ?_
    refine evn_icmp_ge (t := 106) i135_24 (by decide) (by omega) (fun z24 => by exfalso; omega) (fun z24 => ?_)
    refine ev_iload i135_27 rfl ?_
    refine ev_iconst (v := nI 1) i135_29 (by decide) ?_
    refine evn_icmp_ne (t := 100) i135_30 (by decide) (by omega) (fun z30 => by exfalso; omega) (fun z30 => ?_)
    refine ev_iload_n i135_33 rfl ?_
    refine ev_iload i135_34 rfl ?_
    refine ev_callS (vs := [.int (nI sm), .int (nI k)]) (rest := []) i135_36 ci135 lk8_77 (Or.inl rfl) np118 (by decide +kernel) (Nat.le_of_ble_eq_true rfl) ⟨rfl, rfl, Nat.le_of_ble_eq_true rfl⟩ rfl (c118 hm (by omega)) (fun r HH hq => ?_)
    obtain ⟨rfl, rfl⟩ := hq
    show Ev tb 135 39 [some (.ref 111), some (.int (nI l)), some (.int (nI sm)), some (.int (bI rg)), some (.int (nI (27 * l))), some (.int (nI 1)), some (.int (nI k))] [.int (bI (sm.testBit k))] H1 _
    refine evb_if_eq (t := 100) i135_39 (by decide) (fun z39 => ?_) (fun z39 => ?_)
    · refine evn_iinc (d := 1) (L' := [some (.ref 111), some (.int (nI l)), some (.int (nI sm)), some (.int (bI rg)), some (.int (nI (27 * l))), some (.int (nI 1)), some (.int (nI (k + 1)))]) i135_100 rfl rfl (by decide) rfl ?_
      refine ev_goto (t := 18) i135_103 (by decide) ?_
      have e : mlkF (sm &&& HE n) sd kd k y = y := by
        unfold mlkF
        exact if_neg (by rw [mh_bit]; simp [z39])
      have e3 : upto (mlkF (sm &&& HE n) sd kd) (d + 1) k y = upto (mlkF (sm &&& HE n) sd kd) d (k + 1) (mlkF (sm &&& HE n) sd kd k y) := rfl
      rw [e3, e] at hQ
      exact lq135m hn b4 b5 hce hl hm d (k + 1) _ _ _ (by omega) hC hL hx hg hO hQ
    · refine ev_aload_n i135_42 rfl ?_
      refine ev_iload_n i135_43 rfl ?_
      refine ev_iload i135_44 rfl ?_
      refine ev_callV (vs := [.int (nI l), .int (nI k)]) (rest := []) i135_46 ci135 lk8_112 (congrArg (fun q => q + 1) np130) ci130 (by decide) (by decide +kernel) (Nat.le_of_ble_eq_true rfl) ⟨rfl, rfl, Nat.le_of_ble_eq_true rfl⟩ rfl (by assumption) (c130 hC hn b5 hL hl hk6 hx) (fun r HH hq => ?_)
      obtain ⟨rfl, rfl⟩ := hq
      show Ev tb 135 49 [some (.ref 111), some (.int (nI l)), some (.int (nI sm)), some (.int (bI rg)), some (.int (nI (27 * l))), some (.int (nI 1)), some (.int (nI k))] [.int (bI (dueB (kd k) (y.1 k)))] H1 _
      refine evb_if_eq (t := 100) i135_49 (by decide) (fun z49 => ?_) (fun z49 => ?_)
      · refine evn_iinc (d := 1) (L' := [some (.ref 111), some (.int (nI l)), some (.int (nI sm)), some (.int (bI rg)), some (.int (nI (27 * l))), some (.int (nI 1)), some (.int (nI (k + 1)))]) i135_100 rfl rfl (by decide) rfl ?_
        refine ev_goto (t := 18) i135_103 (by decide) ?_
        have e : mlkF (sm &&& HE n) sd kd k y = y := by
          unfold mlkF
          exact if_neg (by rw [mh_bit]; simp [z49])
        have e3 : upto (mlkF (sm &&& HE n) sd kd) (d + 1) k y = upto (mlkF (sm &&& HE n) sd kd) d (k + 1) (mlkF (sm &&& HE n) sd kd k y) := rfl
        rw [e3, e] at hQ
        exact lq135m hn b4 b5 hce hl hm d (k + 1) _ _ _ (by omega) hC hL hx hg hO hQ
      · refine ev_aload_n i135_52 rfl ?_
        refine ev_get i135_53 ci135 fl8_16 (by assumption) rfl ?_
        refine ev_iload i135_56 rfl ?_
        refine ev_bipush (v := nI 23) i135_58 (by decide) ?_
        refine evn_iadd i135_60 ?_
        refine ev_aload_n i135_61 rfl ?_
        refine ev_get i135_62 ci135 fl8_7 (by assumption) rfl ?_
        refine ev_iload i135_65 rfl ?_
        refine ev_iald_n i135_67 (by assumption) (by omega) ?_
        rw [c2 k hk6]
        refine evn_iadd i135_68 ?_
        refine ev_dup2 i135_69 rfl rfl ?_
        refine ev_iald_n i135_70 (by assumption) (by omega) ?_
        rw [show g1 (27 * l + 23 + sd k) = y.2 (sd k) from hL.2.2.2.2.1 (sd k) (b4 k)]
        refine ev_aload_n i135_71 rfl ?_
        refine ev_get i135_72 ci135 fl8_16 (by assumption) rfl ?_
        refine ev_iload i135_75 rfl ?_
        refine ev_bipush (v := nI 16) i135_77 (by decide) ?_
        refine evn_iadd i135_79 ?_
        refine ev_iload i135_80 rfl ?_
        refine evn_iadd i135_82 ?_
        refine ev_iald_n i135_83 (by assumption) (by omega) ?_
        rw [show g1 (27 * l + 16 + k) = nI (y.1 k) from hL.2.2.1 k hk6]
        refine ev_iadd i135_84 ?_
        refine evs_iastw i135_85 (by assumption) (by omega) (fun H2 hH2 => ?_)
        have c0 : H2[111]? = some (.inr (8, [.int (nI n), .ref 112, .ref 113, .ref 114, .ref 115, .ref 116, .ref 117, .int (f 0), .int (f 1), .int (f 2), .ref 118, .int (f 3), .int (f 4), .int (f 5), .int (f 6), .int (f 7), .ref 119, .ref 120, .int (f 8), .ref 121, .ref 122, .ref 123, .ref 124, .long sed, .ref 125, .ref 126])) := by rw [hH2]; exact set_ne c0 (by omega)
        have c1 : H2[112]? = some (.inl (0, 6, .inl ms)) := by rw [hH2]; exact set_ne c1 (by omega)
        have c3 : H2[113]? = some (.inl (0, 6, .inl mk)) := by rw [hH2]; exact set_ne c3 (by omega)
        have c5 : H2[114]? = some (.inl (0, 54, .inl (upd g1 (((27 * l) + 23) + (sd k)) ((y.2 (sd k)) + (nI (y.1 k)))))) := by rw [hH2]; exact set_self c5
        have hO : Off (fun j => j = 114) H H2 := by rw [hH2]; exact hO.set (by rfl)
        refine ev_aload_n i135_86 rfl ?_
        refine ev_get i135_87 ci135 fl8_16 (by assumption) rfl ?_
        refine ev_iload i135_90 rfl ?_
        refine ev_bipush (v := nI 16) i135_92 (by decide) ?_
        refine evn_iadd i135_94 ?_
        refine ev_iload i135_95 rfl ?_
        refine evn_iadd i135_97 ?_
        refine ev_iconst (v := nI 0) i135_98 (by decide) ?_
        refine evs_iastw i135_99 (by assumption) (by omega) (fun H3 hH3 => ?_)
        have c0 : H3[111]? = some (.inr (8, [.int (nI n), .ref 112, .ref 113, .ref 114, .ref 115, .ref 116, .ref 117, .int (f 0), .int (f 1), .int (f 2), .ref 118, .int (f 3), .int (f 4), .int (f 5), .int (f 6), .int (f 7), .ref 119, .ref 120, .int (f 8), .ref 121, .ref 122, .ref 123, .ref 124, .long sed, .ref 125, .ref 126])) := by rw [hH3]; exact set_ne c0 (by omega)
        have c1 : H3[112]? = some (.inl (0, 6, .inl ms)) := by rw [hH3]; exact set_ne c1 (by omega)
        have c3 : H3[113]? = some (.inl (0, 6, .inl mk)) := by rw [hH3]; exact set_ne c3 (by omega)
        have c5 : H3[114]? = some (.inl (0, 54, .inl (upd (upd g1 (((27 * l) + 23) + (sd k)) ((y.2 (sd k)) + (nI (y.1 k)))) (((27 * l) + 16) + k) (nI 0)))) := by rw [hH3]; exact set_self c5
        have hO : Off (fun j => j = 114) H H3 := by rw [hH3]; exact hO.set (by rfl)
        refine evn_iinc (d := 1) (L' := [some (.ref 111), some (.int (nI l)), some (.int (nI sm)), some (.int (bI rg)), some (.int (nI (27 * l))), some (.int (nI 1)), some (.int (nI (k + 1)))]) i135_100 rfl rfl (by decide) rfl ?_
        refine ev_goto (t := 18) i135_103 (by decide) ?_
        have e : mlkF (sm &&& HE n) sd kd k y = (updN y.1 k 0, upd y.2 (sd k) (y.2 (sd k) + nI (y.1 k))) := by
          unfold mlkF
          exact if_pos (by rw [mh_bit]; simp [z39, z49, hk6])
        have hx3 := mlk_sok (he := sm &&& HE n) (sd := sd) (kd := kd) (k := k) hx (by omega) b4
        have hL3 := (hL.pa (v := y.2 (sd k) + nI (y.1 k)) hn (b4 k)).fu (v := 0) hn hk6
        have e3 : upto (mlkF (sm &&& HE n) sd kd) (d + 1) k y = upto (mlkF (sm &&& HE n) sd kd) d (k + 1) (mlkF (sm &&& HE n) sd kd k y) := rfl
        rw [e3] at hQ
        rw [e] at hQ hx3
        exact lq135m hn b4 b5 hce hl hm d (k + 1) _ _ _ (by omega) ⟨c0, ⟨ms, mk, c1, c2, c3, c4⟩, c5⟩ hL3 hx3 ((hg.up (by omega)).up (by omega)) hO hQ
theorem lq135n {tb : dxT} {H : dxH} {n : Nat} {f : Nat → Int32} {sed : Int64} {sd kd : Nat → Nat} {g : Nat → Int32} {l sm : Nat} {rg : Bool} {S : Nat} (hS : S < 4) (h1 : ¬ S = 1) {Q : Option Value → dxH → Prop} (hC : MC H n f sed sd kd g) (hn : n ≤ 6) (hQ : Ev tb 135 106 [some (.ref 111), some (.int (nI l)), some (.int (nI sm)), some (.int (bI rg)), some (.int (nI (27 * l))), some (.int (nI S)), some (.int (nI n))] [] H Q) : ∀ (d k : Nat), k + d = n → Ev tb 135 18 [some (.ref 111), some (.int (nI l)), some (.int (nI sm)), some (.int (bI rg)), some (.int (nI (27 * l))), some (.int (nI S)), some (.int (nI k))] [] H Q
  | 0, k, hk => by
    obtain rfl : k = n := by omega
    obtain ⟨c0, ⟨ms, mk, c1, c2, c3, c4⟩, c5⟩ := id hC
    unfold mOb at c0
    refine ev_iload i135_18 rfl ?_
    refine ev_aload_n i135_20 rfl ?_
    refine ev_get i135_21 ci135 fl8_56 (by assumption) rfl ?_
    refine evn_icmp_ge (t := 106) i135_24 (by decide) (by omega) (fun z24 => ?_) (fun z24 => by exfalso; omega)
    exact hQ
  | d + 1, k, hk => by
    obtain ⟨c0, ⟨ms, mk, c1, c2, c3, c4⟩, c5⟩ := id hC
    unfold mOb at c0
    refine ev_iload i135_18 rfl ?_
    refine ev_aload_n i135_20 rfl ?_
    refine ev_get i135_21 ci135 fl8_56 (by assumption) rfl ?_
    refine evn_icmp_ge (t := 106) i135_24 (by decide) (by omega) (fun z24 => by exfalso; omega) (fun z24 => ?_)
    refine ev_iload i135_27 rfl ?_
    refine ev_iconst (v := nI 1) i135_29 (by decide) ?_
    refine evn_icmp_ne (t := 100) i135_30 (by decide) (by omega) (fun z30 => ?_) (fun z30 => by exfalso; omega)
    refine evn_iinc (d := 1) (L' := [some (.ref 111), some (.int (nI l)), some (.int (nI sm)), some (.int (bI rg)), some (.int (nI (27 * l))), some (.int (nI S)), some (.int (nI (k + 1)))]) i135_100 rfl rfl (by decide) rfl ?_
    refine ev_goto (t := 18) i135_103 (by decide) ?_
    exact lq135n hS h1 hC hn hQ d (k + 1) (by omega)
theorem lq135e {tb : dxT} {H : dxH} {n : Nat} {f : Nat → Int32} {sed : Int64} {sd kd : Nat → Nat} {g : Nat → Int32} {l : Nat} {ce : Nat → Nat} {sn rg : Bool} {x : Hs} {sm : Nat} {S : Nat} (hS : S < 3) (hn : n ≤ 6) (b4 : ∀ j, sd j < 2) (b5 : ∀ j, kd j < 4) (hce : ∀ j, ce j < 10) (hl : l < 2) (hm : sm < 1024) {Q : Option Value → dxH → Prop} : ∀ (d k : Nat) (H1 : dxH) (g1 : Nat → Int32) (y : (Nat → Nat) × (Nat → Nat)), k + d = n → MC H1 n f sed sd kd g1 → Lv g1 (27 * l) n ce sn (y.1, y.2, x.2.2) → SOK (y.1, y.2, x.2.2) → ofL l g g1 → Off (fun j => j = 114) H H1 → (∀ H3 g3, MC H3 n f sed sd kd g3 → Lv g3 (27 * l) n ce sn ((upto (eatF (sm &&& HE n) ce) d k y).1, (upto (eatF (sm &&& HE n) ce) d k y).2, x.2.2) → SOK ((upto (eatF (sm &&& HE n) ce) d k y).1, (upto (eatF (sm &&& HE n) ce) d k y).2, x.2.2) → ofL l g g3 → Off (fun j => j = 114) H H3 → Ev tb 135 146 [some (.ref 111), some (.int (nI l)), some (.int (nI sm)), some (.int (bI rg)), some (.int (nI (27 * l))), some (.int (nI S)), some (.int (nI n))] [] H3 Q) → Ev tb 135 109 [some (.ref 111), some (.int (nI l)), some (.int (nI sm)), some (.int (bI rg)), some (.int (nI (27 * l))), some (.int (nI S)), some (.int (nI k))] [] H1 Q
  | 0, k, H1, g1, y, hk, hC, hL, hx, hg, hO, hQ => by
    obtain rfl : k = n := by omega
    obtain ⟨c0, ⟨ms, mk, c1, c2, c3, c4⟩, c5⟩ := id hC
    unfold mOb at c0
    refine ev_iload i135_109 rfl ?_
    refine ev_aload_n i135_111 rfl ?_
    refine ev_get i135_112 ci135 fl8_56 (by assumption) rfl ?_
    refine evn_icmp_ge (t := 146) i135_115 (by decide) (by omega) (fun z115 => ?_) (fun z115 => by exfalso; omega)
    exact hQ H1 g1 hC hL hx hg hO
  | d + 1, k, H1, g1, y, hk, hC, hL, hx, hg, hO, hQ => by
    have hk6 : k < n := by omega
    have hs2 := b4 k
    obtain ⟨c0, ⟨ms, mk, c1, c2, c3, c4⟩, c5⟩ := id hC
    unfold mOb at c0
    refine ev_iload i135_109 rfl ?_
    refine ev_aload_n i135_111 rfl ?_
    refine ev_get i135_112 ci135 fl8_56 (by assumption) rfl ?_
    refine evn_icmp_ge (t := 146) i135_115 (by decide) (by omega) (fun z115 => by exfalso; omega) (fun z115 => ?_)
    refine ev_iload i135_118 rfl ?_
    refine ev_iconst (v := nI 3) i135_120 (by decide) ?_
    refine evn_icmp_eq (t := 140) i135_121 (by decide) (by omega) (fun z121 => by exfalso; omega) (fun z121 => ?_)
    refine ev_iload_n i135_124 rfl ?_
    refine ev_iload i135_125 rfl ?_
    refine ev_callS (vs := [.int (nI sm), .int (nI k)]) (rest := []) i135_127 ci135 lk8_77 (Or.inl rfl) np118 (by decide +kernel) (Nat.le_of_ble_eq_true rfl) ⟨rfl, rfl, Nat.le_of_ble_eq_true rfl⟩ rfl (c118 hm (by omega)) (fun r HH hq => ?_)
    obtain ⟨rfl, rfl⟩ := hq
    show Ev tb 135 130 [some (.ref 111), some (.int (nI l)), some (.int (nI sm)), some (.int (bI rg)), some (.int (nI (27 * l))), some (.int (nI S)), some (.int (nI k))] [.int (bI (sm.testBit k))] H1 _
    refine evb_if_eq (t := 140) i135_130 (by decide) (fun z130 => ?_) (fun z130 => ?_)
    · refine evn_iinc (d := 1) (L' := [some (.ref 111), some (.int (nI l)), some (.int (nI sm)), some (.int (bI rg)), some (.int (nI (27 * l))), some (.int (nI S)), some (.int (nI (k + 1)))]) i135_140 rfl rfl (by decide) rfl ?_
      refine ev_goto (t := 109) i135_143 (by decide) ?_
      have e3 : upto (eatF (sm &&& HE n) ce) (d + 1) k y = upto (eatF (sm &&& HE n) ce) d (k + 1) (eatF (sm &&& HE n) ce k y) := rfl
      have e : eatF (sm &&& HE n) ce k y = y := by
        unfold eatF
        exact if_neg (fun q => by have q1 := q.1; rw [mh_bit] at q1; simp [z130] at q1)
      rw [e3, e] at hQ
      exact lq135e hS hn b4 b5 hce hl hm d (k + 1) _ _ _ (by omega) hC hL hx hg hO hQ
    · refine ev_aload_n i135_133 rfl ?_
      refine ev_iload_n i135_134 rfl ?_
      refine ev_iload i135_135 rfl ?_
      refine ev_callV (vs := [.int (nI l), .int (nI k)]) (rest := []) i135_137 ci135 lk8_122 (congrArg (fun q => q + 1) np134) ci134 (by decide) (by decide +kernel) (Nat.le_of_ble_eq_true rfl) ⟨rfl, rfl, Nat.le_of_ble_eq_true rfl⟩ rfl (by assumption) (c134 (he := sm &&& HE n) hC hn b5 hL hl hk6 hx hce (by rw [mh_bit]; simp [z130, hk6])) (fun r H2 hq => ?_)
      obtain ⟨rfl, g2, hC2, hL2, hg2, hO2⟩ := hq
      show Ev tb 135 140 [some (.ref 111), some (.int (nI l)), some (.int (nI sm)), some (.int (bI rg)), some (.int (nI (27 * l))), some (.int (nI S)), some (.int (nI k))] [] H2 _
      refine evn_iinc (d := 1) (L' := [some (.ref 111), some (.int (nI l)), some (.int (nI sm)), some (.int (bI rg)), some (.int (nI (27 * l))), some (.int (nI S)), some (.int (nI (k + 1)))]) i135_140 rfl rfl (by decide) rfl ?_
      refine ev_goto (t := 109) i135_143 (by decide) ?_
      have e3 : upto (eatF (sm &&& HE n) ce) (d + 1) k y = upto (eatF (sm &&& HE n) ce) d (k + 1) (eatF (sm &&& HE n) ce k y) := rfl
      rw [e3] at hQ
      exact lq135e hS hn b4 b5 hce hl hm d (k + 1) _ _ _ (by omega) hC2 hL2 (eat_sok hx (by omega) hce) (hg.tr hg2) (hO.trans hO2 (fun _ q => q) (fun _ q => q)) hQ
theorem lq135s {tb : dxT} {H : dxH} {n : Nat} {f : Nat → Int32} {sed : Int64} {sd kd : Nat → Nat} {g : Nat → Int32} {l sm : Nat} {rg : Bool} {Q : Option Value → dxH → Prop} (hC : MC H n f sed sd kd g) (hn : n ≤ 6) (hQ : Ev tb 135 146 [some (.ref 111), some (.int (nI l)), some (.int (nI sm)), some (.int (bI rg)), some (.int (nI (27 * l))), some (.int (nI 3)), some (.int (nI n))] [] H Q) : ∀ (d k : Nat), k + d = n → Ev tb 135 109 [some (.ref 111), some (.int (nI l)), some (.int (nI sm)), some (.int (bI rg)), some (.int (nI (27 * l))), some (.int (nI 3)), some (.int (nI k))] [] H Q
  | 0, k, hk => by
    obtain rfl : k = n := by omega
    obtain ⟨c0, ⟨ms, mk, c1, c2, c3, c4⟩, c5⟩ := id hC
    unfold mOb at c0
    refine ev_iload i135_109 rfl ?_
    refine ev_aload_n i135_111 rfl ?_
    refine ev_get i135_112 ci135 fl8_56 (by assumption) rfl ?_
    refine evn_icmp_ge (t := 146) i135_115 (by decide) (by omega) (fun z115 => ?_) (fun z115 => by exfalso; omega)
    exact hQ
  | d + 1, k, hk => by
    obtain ⟨c0, ⟨ms, mk, c1, c2, c3, c4⟩, c5⟩ := id hC
    unfold mOb at c0
    refine ev_iload i135_109 rfl ?_
    refine ev_aload_n i135_111 rfl ?_
    refine ev_get i135_112 ci135 fl8_56 (by assumption) rfl ?_
    refine evn_icmp_ge (t := 146) i135_115 (by decide) (by omega) (fun z115 => by exfalso; omega) (fun z115 => ?_)
    refine ev_iload i135_118 rfl ?_
    refine ev_iconst (v := nI 3) i135_120 (by decide) ?_
    refine evn_icmp_eq (t := 140) i135_121 (by decide) (by omega) (fun z121 => ?_) (fun z121 => by exfalso; omega)
    refine evn_iinc (d := 1) (L' := [some (.ref 111), some (.int (nI l)), some (.int (nI sm)), some (.int (bI rg)), some (.int (nI (27 * l))), some (.int (nI 3)), some (.int (nI (k + 1)))]) i135_140 rfl rfl (by decide) rfl ?_
    refine ev_goto (t := 109) i135_143 (by decide) ?_
    exact lq135s hC hn hQ d (k + 1) (by omega)
theorem lq135z {tb : dxT} {H : dxH} {n : Nat} {f : Nat → Int32} {sed : Int64} {sd kd : Nat → Nat} {g : Nat → Int32} {H1 : dxH} {g1 : Nat → Int32} {l : Nat} {ce : Nat → Nat} {sn rg : Bool} {y : Hs} {sm S : Nat} {w6 : Option Value} (hS : S < 4) (hn : n ≤ 6) (hl : l < 2) (hC : MC H1 n f sed sd kd g1) (hL : Lv g1 (27 * l) n ce sn y) (hg : ofL l g g1) (hO : Off (fun j => j = 114) H H1) : Ev tb 135 146 [some (.ref 111), some (.int (nI l)), some (.int (nI sm)), some (.int (bI rg)), some (.int (nI (27 * l))), some (.int (nI S)), w6] [] H1 (fun r H' => r = some (.int (nI S)) ∧ ∃ g', MC H' n f sed sd kd g' ∧ Lv g' (27 * l) n ce sn (y.1, y.2.1, y.2.2.1, y.2.2.2.1 + nI 1, if S = 0 then y.2.2.2.2 + nI 1 else y.2.2.2.2) ∧ ofL l g g' ∧ Off (fun j => j = 114) H H') := by
  obtain ⟨c0, ⟨ms, mk, c1, c2, c3, c4⟩, c5⟩ := id hC
  unfold mOb at c0
  refine ev_aload_n i135_146 rfl ?_
  refine ev_get i135_147 ci135 fl8_16 (by assumption) rfl ?_
  refine ev_iload i135_150 rfl ?_
  refine ev_bipush (v := nI 25) i135_152 (by decide) ?_
  refine evn_iadd i135_154 ?_
  refine ev_dup2 i135_155 rfl rfl ?_
  refine ev_iald_n i135_156 (by assumption) (by omega) ?_
  rw [show g1 (27 * l + 25) = y.2.2.2.2 from hL.2.2.2.2.2.1]
  refine ev_iload i135_157 rfl ?_
  refine evn_if_ne (t := 166) i135_159 (by decide) (by omega) (fun z159 => ?_) (fun z159 => ?_)
  · refine ev_iconst (v := nI 0) i135_166 (by decide) ?_
    refine ev_iadd i135_167 ?_
    refine evs_iastw i135_168 (by assumption) (by omega) (fun H2 hH2 => ?_)
    have c0 : H2[111]? = some (.inr (8, [.int (nI n), .ref 112, .ref 113, .ref 114, .ref 115, .ref 116, .ref 117, .int (f 0), .int (f 1), .int (f 2), .ref 118, .int (f 3), .int (f 4), .int (f 5), .int (f 6), .int (f 7), .ref 119, .ref 120, .int (f 8), .ref 121, .ref 122, .ref 123, .ref 124, .long sed, .ref 125, .ref 126])) := by rw [hH2]; exact set_ne c0 (by omega)
    have c1 : H2[112]? = some (.inl (0, 6, .inl ms)) := by rw [hH2]; exact set_ne c1 (by omega)
    have c3 : H2[113]? = some (.inl (0, 6, .inl mk)) := by rw [hH2]; exact set_ne c3 (by omega)
    have c5 : H2[114]? = some (.inl (0, 54, .inl (upd g1 ((27 * l) + 25) (y.2.2.2.2 + (nI 0))))) := by rw [hH2]; exact set_self c5
    have hO : Off (fun j => j = 114) H H2 := by rw [hH2]; exact hO.set (by rfl)
    have hL1 := hL.wa (v := y.2.2.2.2 + nI 0) hn
    refine ev_aload_n i135_169 rfl ?_
    refine ev_get i135_170 ci135 fl8_16 (by assumption) rfl ?_
    refine ev_iload i135_173 rfl ?_
    refine ev_bipush (v := nI 26) i135_175 (by decide) ?_
    refine evn_iadd i135_177 ?_
    refine ev_dup2 i135_178 rfl rfl ?_
    refine ev_iald_n i135_179 (by assumption) (by omega) ?_
    rw [show (upd g1 ((27 * l) + 25) (y.2.2.2.2 + (nI 0))) (27 * l + 26) = y.2.2.2.1 from hL1.2.2.2.2.2.2]
    refine ev_iconst (v := nI 1) i135_180 (by decide) ?_
    refine ev_iadd i135_181 ?_
    refine evs_iastw i135_182 (by assumption) (by omega) (fun H3 hH3 => ?_)
    have c0 : H3[111]? = some (.inr (8, [.int (nI n), .ref 112, .ref 113, .ref 114, .ref 115, .ref 116, .ref 117, .int (f 0), .int (f 1), .int (f 2), .ref 118, .int (f 3), .int (f 4), .int (f 5), .int (f 6), .int (f 7), .ref 119, .ref 120, .int (f 8), .ref 121, .ref 122, .ref 123, .ref 124, .long sed, .ref 125, .ref 126])) := by rw [hH3]; exact set_ne c0 (by omega)
    have c1 : H3[112]? = some (.inl (0, 6, .inl ms)) := by rw [hH3]; exact set_ne c1 (by omega)
    have c3 : H3[113]? = some (.inl (0, 6, .inl mk)) := by rw [hH3]; exact set_ne c3 (by omega)
    have c5 : H3[114]? = some (.inl (0, 54, .inl (upd (upd g1 ((27 * l) + 25) (y.2.2.2.2 + (nI 0))) ((27 * l) + 26) (y.2.2.2.1 + (nI 1))))) := by rw [hH3]; exact set_self c5
    have hO : Off (fun j => j = 114) H H3 := by rw [hH3]; exact hO.set (by rfl)
    refine ev_iload i135_183 rfl ?_
    refine ev_iret i135_185 (by decide +kernel) ?_
    have e : y.2.2.2.2 + nI 0 = if S = 0 then y.2.2.2.2 + nI 1 else y.2.2.2.2 := by
      rw [if_neg z159]
      exact Int32.add_zero _
    rw [← e]
    exact ⟨rfl, _, ⟨c0, ⟨ms, mk, c1, c2, c3, c4⟩, c5⟩, hL1.ho (v := y.2.2.2.1 + nI 1) hn, (hg.up (by omega)).up (by omega), hO⟩
  · refine ev_iconst (v := nI 1) i135_162 (by decide) ?_
    refine ev_goto (t := 167) i135_163 (by decide) ?_
    refine ev_iadd i135_167 ?_
    refine evs_iastw i135_168 (by assumption) (by omega) (fun H2 hH2 => ?_)
    have c0 : H2[111]? = some (.inr (8, [.int (nI n), .ref 112, .ref 113, .ref 114, .ref 115, .ref 116, .ref 117, .int (f 0), .int (f 1), .int (f 2), .ref 118, .int (f 3), .int (f 4), .int (f 5), .int (f 6), .int (f 7), .ref 119, .ref 120, .int (f 8), .ref 121, .ref 122, .ref 123, .ref 124, .long sed, .ref 125, .ref 126])) := by rw [hH2]; exact set_ne c0 (by omega)
    have c1 : H2[112]? = some (.inl (0, 6, .inl ms)) := by rw [hH2]; exact set_ne c1 (by omega)
    have c3 : H2[113]? = some (.inl (0, 6, .inl mk)) := by rw [hH2]; exact set_ne c3 (by omega)
    have c5 : H2[114]? = some (.inl (0, 54, .inl (upd g1 ((27 * l) + 25) (y.2.2.2.2 + (nI 1))))) := by rw [hH2]; exact set_self c5
    have hO : Off (fun j => j = 114) H H2 := by rw [hH2]; exact hO.set (by rfl)
    have hL1 := hL.wa (v := y.2.2.2.2 + nI 1) hn
    refine ev_aload_n i135_169 rfl ?_
    refine ev_get i135_170 ci135 fl8_16 (by assumption) rfl ?_
    refine ev_iload i135_173 rfl ?_
    refine ev_bipush (v := nI 26) i135_175 (by decide) ?_
    refine evn_iadd i135_177 ?_
    refine ev_dup2 i135_178 rfl rfl ?_
    refine ev_iald_n i135_179 (by assumption) (by omega) ?_
    rw [show (upd g1 ((27 * l) + 25) (y.2.2.2.2 + (nI 1))) (27 * l + 26) = y.2.2.2.1 from hL1.2.2.2.2.2.2]
    refine ev_iconst (v := nI 1) i135_180 (by decide) ?_
    refine ev_iadd i135_181 ?_
    refine evs_iastw i135_182 (by assumption) (by omega) (fun H3 hH3 => ?_)
    have c0 : H3[111]? = some (.inr (8, [.int (nI n), .ref 112, .ref 113, .ref 114, .ref 115, .ref 116, .ref 117, .int (f 0), .int (f 1), .int (f 2), .ref 118, .int (f 3), .int (f 4), .int (f 5), .int (f 6), .int (f 7), .ref 119, .ref 120, .int (f 8), .ref 121, .ref 122, .ref 123, .ref 124, .long sed, .ref 125, .ref 126])) := by rw [hH3]; exact set_ne c0 (by omega)
    have c1 : H3[112]? = some (.inl (0, 6, .inl ms)) := by rw [hH3]; exact set_ne c1 (by omega)
    have c3 : H3[113]? = some (.inl (0, 6, .inl mk)) := by rw [hH3]; exact set_ne c3 (by omega)
    have c5 : H3[114]? = some (.inl (0, 54, .inl (upd (upd g1 ((27 * l) + 25) (y.2.2.2.2 + (nI 1))) ((27 * l) + 26) (y.2.2.2.1 + (nI 1))))) := by rw [hH3]; exact set_self c5
    have hO : Off (fun j => j = 114) H H3 := by rw [hH3]; exact hO.set (by rfl)
    refine ev_iload i135_183 rfl ?_
    refine ev_iret i135_185 (by decide +kernel) ?_
    have e : y.2.2.2.2 + nI 1 = if S = 0 then y.2.2.2.2 + nI 1 else y.2.2.2.2 := by
      rw [if_pos z159]
    rw [← e]
    exact ⟨rfl, _, ⟨c0, ⟨ms, mk, c1, c2, c3, c4⟩, c5⟩, hL1.ho (v := y.2.2.2.1 + nI 1) hn, (hg.up (by omega)).up (by omega), hO⟩
theorem hr_0 {n sm : Nat} {sd kd ce : Nat → Nat} {sn rg : Bool} {x : Hs} (hn : n ≤ 6) (h : srtF (sm &&& HE n) kd x.2.1 sn rg = 0) : hrF (sm &&& HE n) sd kd ce sn rg x = ((upto (eatF (sm &&& HE n) ce) n 0 (x.1, x.2.1)).1, (upto (eatF (sm &&& HE n) ce) n 0 (x.1, x.2.1)).2, x.2.2.1, x.2.2.2.1 + nI 1, x.2.2.2.2 + nI 1) := by
  unfold hrF
  rw [h, ← eat_cut hn]
  rfl
theorem hr_1 {n sm : Nat} {sd kd ce : Nat → Nat} {sn rg : Bool} {x : Hs} (hn : n ≤ 6) (h : srtF (sm &&& HE n) kd x.2.1 sn rg = 1) : hrF (sm &&& HE n) sd kd ce sn rg x = ((upto (eatF (sm &&& HE n) ce) n 0 (x.1, (upto (mlkF (sm &&& HE n) sd kd) n 0 (x.2.1, x.2.2.1)).1)).1, (upto (eatF (sm &&& HE n) ce) n 0 (x.1, (upto (mlkF (sm &&& HE n) sd kd) n 0 (x.2.1, x.2.2.1)).1)).2, (upto (mlkF (sm &&& HE n) sd kd) n 0 (x.2.1, x.2.2.1)).2, x.2.2.2.1 + nI 1, x.2.2.2.2) := by
  unfold hrF
  rw [h, ← eat_cut hn, ← mlk_cut hn]
  rfl
theorem hr_2 {n sm : Nat} {sd kd ce : Nat → Nat} {sn rg : Bool} {x : Hs} (hn : n ≤ 6) (h : srtF (sm &&& HE n) kd x.2.1 sn rg = 2) : hrF (sm &&& HE n) sd kd ce sn rg x = ((upto (eatF (sm &&& HE n) ce) n 0 (x.1, x.2.1)).1, (upto (eatF (sm &&& HE n) ce) n 0 (x.1, x.2.1)).2, x.2.2.1, x.2.2.2.1 + nI 1, x.2.2.2.2) := by
  unfold hrF
  rw [h, ← eat_cut hn]
  rfl
theorem hr_3 {n sm : Nat} {sd kd ce : Nat → Nat} {sn rg : Bool} {x : Hs} (hn : n ≤ 6) (h : srtF (sm &&& HE n) kd x.2.1 sn rg = 3) : hrF (sm &&& HE n) sd kd ce sn rg x = (x.1, x.2.1, x.2.2.1, x.2.2.2.1 + nI 1, x.2.2.2.2) := by
  unfold hrF
  rw [h]
  rfl
theorem c135 {tb : dxT} {H : dxH} {n : Nat} {f : Nat → Int32} {sed : Int64} {sd kd : Nat → Nat} {g : Nat → Int32} {l : Nat} {ce : Nat → Nat} {sn rg : Bool} {x : Hs} {sm : Nat} (hn : n ≤ 6) (b4 : ∀ j, sd j < 2) (b5 : ∀ j, kd j < 4) (hce : ∀ j, ce j < 10) (hl : l < 2) (hm : sm < 1024) (hC : MC H n f sed sd kd g) (hL : Lv g (27 * l) n ce sn x) (hx : SOK x) : Cl tb 135 [.ref 111, .int (nI l), .int (nI sm), .int (bI rg)] H (fun r H' => r = some (.int (nI (srtF (sm &&& HE n) kd x.2.1 sn rg))) ∧ ∃ g', MC H' n f sed sd kd g' ∧ Lv g' (27 * l) n ce sn (hrF (sm &&& HE n) sd kd ce sn rg x) ∧ ofL l g g' ∧ Off (fun j => j = 114) H H') := by
  have h4 := srtF_lt (he := sm &&& HE n) (kd := kd) (fu := x.2.1) (sn := sn) (rg := rg)
  obtain ⟨c0, _⟩ := id hC
  unfold mOb at c0
  rcases (show srtF (sm &&& HE n) kd x.2.1 sn rg = 0 ∨ srtF (sm &&& HE n) kd x.2.1 sn rg = 1 ∨ srtF (sm &&& HE n) kd x.2.1 sn rg = 2 ∨ srtF (sm &&& HE n) kd x.2.1 sn rg = 3 by omega) with hs | hs | hs | hs
  · rw [hr_0 hn hs, hs]
    show Ev tb 135 0 [some (.ref 111), some (.int (nI l)), some (.int (nI sm)), some (.int (bI rg)), none, none, none] [] H _
    refine ev_bipush (v := nI 27) i135_0 (by decide) ?_
    refine ev_iload_n i135_2 rfl ?_
    refine evn_imul i135_3 ?_
    refine ev_istore (L' := [some (.ref 111), some (.int (nI l)), some (.int (nI sm)), some (.int (bI rg)), some (.int (nI (27 * l))), none, none]) i135_4 ⟨Nat.le_of_ble_eq_true rfl, rfl⟩ rfl ?_
    refine ev_aload_n i135_6 rfl ?_
    refine ev_iload_n i135_7 rfl ?_
    refine ev_iload_n i135_8 rfl ?_
    refine ev_iload_n i135_9 rfl ?_
    refine ev_callV (vs := [.int (nI l), .int (nI sm), .int (bI rg)]) (rest := []) i135_10 ci135 lk8_118 (congrArg (fun q => q + 1) np133) ci133 (by decide) (by decide +kernel) (Nat.le_of_ble_eq_true rfl) ⟨rfl, rfl, Nat.le_of_ble_eq_true rfl⟩ rfl (by assumption) (c133 hC hn b5 hL hl hx hm) (fun r HH hq => ?_)
    obtain ⟨rfl, rfl⟩ := hq
    rw [hs]
    show Ev tb 135 13 [some (.ref 111), some (.int (nI l)), some (.int (nI sm)), some (.int (bI rg)), some (.int (nI (27 * l))), none, none] [.int (nI 0)] H _
    refine ev_istore (L' := [some (.ref 111), some (.int (nI l)), some (.int (nI sm)), some (.int (bI rg)), some (.int (nI (27 * l))), some (.int (nI 0)), none]) i135_13 ⟨Nat.le_of_ble_eq_true rfl, rfl⟩ rfl ?_
    refine ev_iconst (v := nI 0) i135_15 (by decide) ?_
    refine ev_istore (L' := [some (.ref 111), some (.int (nI l)), some (.int (nI sm)), some (.int (bI rg)), some (.int (nI (27 * l))), some (.int (nI 0)), some (.int (nI 0))]) i135_16 ⟨Nat.le_of_ble_eq_true rfl, rfl⟩ rfl ?_
    refine lq135n (by omega) (by omega) hC hn ?_ n 0 (by omega)
    refine ev_iconst (v := nI 0) i135_106 (by decide) ?_
    refine ev_istore (L' := [some (.ref 111), some (.int (nI l)), some (.int (nI sm)), some (.int (bI rg)), some (.int (nI (27 * l))), some (.int (nI 0)), some (.int (nI 0))]) i135_107 ⟨Nat.le_of_ble_eq_true rfl, rfl⟩ rfl ?_
    exact lq135e (by omega) hn b4 b5 hce hl hm n 0 H g (x.1, x.2.1) (by omega) hC hL hx ofL.rf Off.rf (fun H5 g5 hC5 hL5 hx5 hg5 hO5 => lq135z (by omega) hn hl hC5 hL5 hg5 hO5)
  · rw [hr_1 hn hs, hs]
    show Ev tb 135 0 [some (.ref 111), some (.int (nI l)), some (.int (nI sm)), some (.int (bI rg)), none, none, none] [] H _
    refine ev_bipush (v := nI 27) i135_0 (by decide) ?_
    refine ev_iload_n i135_2 rfl ?_
    refine evn_imul i135_3 ?_
    refine ev_istore (L' := [some (.ref 111), some (.int (nI l)), some (.int (nI sm)), some (.int (bI rg)), some (.int (nI (27 * l))), none, none]) i135_4 ⟨Nat.le_of_ble_eq_true rfl, rfl⟩ rfl ?_
    refine ev_aload_n i135_6 rfl ?_
    refine ev_iload_n i135_7 rfl ?_
    refine ev_iload_n i135_8 rfl ?_
    refine ev_iload_n i135_9 rfl ?_
    refine ev_callV (vs := [.int (nI l), .int (nI sm), .int (bI rg)]) (rest := []) i135_10 ci135 lk8_118 (congrArg (fun q => q + 1) np133) ci133 (by decide) (by decide +kernel) (Nat.le_of_ble_eq_true rfl) ⟨rfl, rfl, Nat.le_of_ble_eq_true rfl⟩ rfl (by assumption) (c133 hC hn b5 hL hl hx hm) (fun r HH hq => ?_)
    obtain ⟨rfl, rfl⟩ := hq
    rw [hs]
    show Ev tb 135 13 [some (.ref 111), some (.int (nI l)), some (.int (nI sm)), some (.int (bI rg)), some (.int (nI (27 * l))), none, none] [.int (nI 1)] H _
    refine ev_istore (L' := [some (.ref 111), some (.int (nI l)), some (.int (nI sm)), some (.int (bI rg)), some (.int (nI (27 * l))), some (.int (nI 1)), none]) i135_13 ⟨Nat.le_of_ble_eq_true rfl, rfl⟩ rfl ?_
    refine ev_iconst (v := nI 0) i135_15 (by decide) ?_
    refine ev_istore (L' := [some (.ref 111), some (.int (nI l)), some (.int (nI sm)), some (.int (bI rg)), some (.int (nI (27 * l))), some (.int (nI 1)), some (.int (nI 0))]) i135_16 ⟨Nat.le_of_ble_eq_true rfl, rfl⟩ rfl ?_
    refine lq135m hn b4 b5 hce hl hm n 0 H g (x.2.1, x.2.2.1) (by omega) hC hL hx ofL.rf Off.rf (fun H3 g3 hC3 hL3 hx3 hg3 hO3 => ?_)
    refine ev_iconst (v := nI 0) i135_106 (by decide) ?_
    refine ev_istore (L' := [some (.ref 111), some (.int (nI l)), some (.int (nI sm)), some (.int (bI rg)), some (.int (nI (27 * l))), some (.int (nI 1)), some (.int (nI 0))]) i135_107 ⟨Nat.le_of_ble_eq_true rfl, rfl⟩ rfl ?_
    exact lq135e (x := (x.1, (upto (mlkF (sm &&& HE n) sd kd) n 0 (x.2.1, x.2.2.1)).1, (upto (mlkF (sm &&& HE n) sd kd) n 0 (x.2.1, x.2.2.1)).2, x.2.2.2)) (by omega) hn b4 b5 hce hl hm n 0 H3 g3 (x.1, (upto (mlkF (sm &&& HE n) sd kd) n 0 (x.2.1, x.2.2.1)).1) (by omega) hC3 hL3 hx3 hg3 hO3 (fun H5 g5 hC5 hL5 hx5 hg5 hO5 => lq135z (by omega) hn hl hC5 hL5 hg5 hO5)
  · rw [hr_2 hn hs, hs]
    show Ev tb 135 0 [some (.ref 111), some (.int (nI l)), some (.int (nI sm)), some (.int (bI rg)), none, none, none] [] H _
    refine ev_bipush (v := nI 27) i135_0 (by decide) ?_
    refine ev_iload_n i135_2 rfl ?_
    refine evn_imul i135_3 ?_
    refine ev_istore (L' := [some (.ref 111), some (.int (nI l)), some (.int (nI sm)), some (.int (bI rg)), some (.int (nI (27 * l))), none, none]) i135_4 ⟨Nat.le_of_ble_eq_true rfl, rfl⟩ rfl ?_
    refine ev_aload_n i135_6 rfl ?_
    refine ev_iload_n i135_7 rfl ?_
    refine ev_iload_n i135_8 rfl ?_
    refine ev_iload_n i135_9 rfl ?_
    refine ev_callV (vs := [.int (nI l), .int (nI sm), .int (bI rg)]) (rest := []) i135_10 ci135 lk8_118 (congrArg (fun q => q + 1) np133) ci133 (by decide) (by decide +kernel) (Nat.le_of_ble_eq_true rfl) ⟨rfl, rfl, Nat.le_of_ble_eq_true rfl⟩ rfl (by assumption) (c133 hC hn b5 hL hl hx hm) (fun r HH hq => ?_)
    obtain ⟨rfl, rfl⟩ := hq
    rw [hs]
    show Ev tb 135 13 [some (.ref 111), some (.int (nI l)), some (.int (nI sm)), some (.int (bI rg)), some (.int (nI (27 * l))), none, none] [.int (nI 2)] H _
    refine ev_istore (L' := [some (.ref 111), some (.int (nI l)), some (.int (nI sm)), some (.int (bI rg)), some (.int (nI (27 * l))), some (.int (nI 2)), none]) i135_13 ⟨Nat.le_of_ble_eq_true rfl, rfl⟩ rfl ?_
    refine ev_iconst (v := nI 0) i135_15 (by decide) ?_
    refine ev_istore (L' := [some (.ref 111), some (.int (nI l)), some (.int (nI sm)), some (.int (bI rg)), some (.int (nI (27 * l))), some (.int (nI 2)), some (.int (nI 0))]) i135_16 ⟨Nat.le_of_ble_eq_true rfl, rfl⟩ rfl ?_
    refine lq135n (by omega) (by omega) hC hn ?_ n 0 (by omega)
    refine ev_iconst (v := nI 0) i135_106 (by decide) ?_
    refine ev_istore (L' := [some (.ref 111), some (.int (nI l)), some (.int (nI sm)), some (.int (bI rg)), some (.int (nI (27 * l))), some (.int (nI 2)), some (.int (nI 0))]) i135_107 ⟨Nat.le_of_ble_eq_true rfl, rfl⟩ rfl ?_
    exact lq135e (by omega) hn b4 b5 hce hl hm n 0 H g (x.1, x.2.1) (by omega) hC hL hx ofL.rf Off.rf (fun H5 g5 hC5 hL5 hx5 hg5 hO5 => lq135z (by omega) hn hl hC5 hL5 hg5 hO5)
  · rw [hr_3 hn hs, hs]
    show Ev tb 135 0 [some (.ref 111), some (.int (nI l)), some (.int (nI sm)), some (.int (bI rg)), none, none, none] [] H _
    refine ev_bipush (v := nI 27) i135_0 (by decide) ?_
    refine ev_iload_n i135_2 rfl ?_
    refine evn_imul i135_3 ?_
    refine ev_istore (L' := [some (.ref 111), some (.int (nI l)), some (.int (nI sm)), some (.int (bI rg)), some (.int (nI (27 * l))), none, none]) i135_4 ⟨Nat.le_of_ble_eq_true rfl, rfl⟩ rfl ?_
    refine ev_aload_n i135_6 rfl ?_
    refine ev_iload_n i135_7 rfl ?_
    refine ev_iload_n i135_8 rfl ?_
    refine ev_iload_n i135_9 rfl ?_
    refine ev_callV (vs := [.int (nI l), .int (nI sm), .int (bI rg)]) (rest := []) i135_10 ci135 lk8_118 (congrArg (fun q => q + 1) np133) ci133 (by decide) (by decide +kernel) (Nat.le_of_ble_eq_true rfl) ⟨rfl, rfl, Nat.le_of_ble_eq_true rfl⟩ rfl (by assumption) (c133 hC hn b5 hL hl hx hm) (fun r HH hq => ?_)
    obtain ⟨rfl, rfl⟩ := hq
    rw [hs]
    show Ev tb 135 13 [some (.ref 111), some (.int (nI l)), some (.int (nI sm)), some (.int (bI rg)), some (.int (nI (27 * l))), none, none] [.int (nI 3)] H _
    refine ev_istore (L' := [some (.ref 111), some (.int (nI l)), some (.int (nI sm)), some (.int (bI rg)), some (.int (nI (27 * l))), some (.int (nI 3)), none]) i135_13 ⟨Nat.le_of_ble_eq_true rfl, rfl⟩ rfl ?_
    refine ev_iconst (v := nI 0) i135_15 (by decide) ?_
    refine ev_istore (L' := [some (.ref 111), some (.int (nI l)), some (.int (nI sm)), some (.int (bI rg)), some (.int (nI (27 * l))), some (.int (nI 3)), some (.int (nI 0))]) i135_16 ⟨Nat.le_of_ble_eq_true rfl, rfl⟩ rfl ?_
    refine lq135n (by omega) (by omega) hC hn ?_ n 0 (by omega)
    refine ev_iconst (v := nI 0) i135_106 (by decide) ?_
    refine ev_istore (L' := [some (.ref 111), some (.int (nI l)), some (.int (nI sm)), some (.int (bI rg)), some (.int (nI (27 * l))), some (.int (nI 3)), some (.int (nI 0))]) i135_107 ⟨Nat.le_of_ble_eq_true rfl, rfl⟩ rfl ?_
    exact lq135s hC hn (lq135z (by omega) hn hl hC hL ofL.rf Off.rf) n 0 (by omega)
