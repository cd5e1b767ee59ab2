/-! the model: what it holds; the trial row laid, hours counted  -/
theorem Lv.cp {g g' : Nat → Int32} {o o' n : Nat} {ce : Nat → Nat} {sn : Bool} {x : Hs} (h : Lv g o n ce sn x) (hn : n ≤ 6) (e : ∀ j, j < 27 → g' (o' + j) = g (o + j)) : Lv g' o' n ce sn x := by
  obtain ⟨h1, h2, h3, h4, h5, h6, h7⟩ := h
  refine ⟨fun j hj => (e j (by omega)).trans (h1 j hj), fun k hk => ?_, fun k hk => ?_, (e 22 (by decide)).trans h4, fun i hi => ?_, (e 25 (by decide)).trans h6, (e 26 (by decide)).trans h7⟩
  · rw [Nat.add_assoc, e (10 + k) (by omega), ← Nat.add_assoc]; exact h2 k hk
  · rw [Nat.add_assoc, e (16 + k) (by omega), ← Nat.add_assoc]; exact h3 k hk
  · rw [Nat.add_assoc, e (23 + i) (by omega), ← Nat.add_assoc]; exact h5 i hi
/-- a state in a row of the model's -/
def LvS (g : Nat → Int32) (o n : Nat) (s : Sn) : Prop := Lv g o n s.1 s.2.1 s.2.2
/-- the model's other cells -/
def MRest (H : dxH) (tx : Nat → Nat) (ln n am nx : Nat) (stk : Nat → Sn) (kp : Nat → Bool) (ks : Nat → Sn) (tm : Nat) (tc th : Nat → Nat) (td : Nat → Bool) : Prop :=
  (∃ rw : Nat → Int32, H[119]? = some (.inl (0, 378, .inl rw)) ∧ ∀ i, i < am → LvS rw (27 * ((nx + 13 - i) % 14)) n (stk i))
  ∧ (∃ mt : Nat → Int32, H[118]? = some (.inl (0, 64, .inl mt)) ∧ ∀ j, j < ln → mt j = nI (tx j))
  ∧ (∃ (a b : Nat → Int32) (c : Nat → Bool), H[121]? = some (.inl (0, 6, .inl a)) ∧ H[122]? = some (.inl (0, 6, .inl b)) ∧ H[123]? = some (ZA 6 c) ∧ ∀ i, i < tm → a i = nI (tc i) ∧ b i = nI (th i) ∧ c i = td i)
  ∧ (∃ (kq : Nat → Bool) (kg : Nat → Int32), H[125]? = some (ZA 2 kq) ∧ (∀ i, i < 2 → kq i = kp i) ∧ H[126]? = some (.inl (0, 54, .inl kg)) ∧ ∀ i, i < 2 → kp i = true → LvS kg (27 * i) n (ks i))
  ∧ (∃ q, H[115]? = some (.inl (0, 27, .inl q))) ∧ (∃ q, H[116]? = some (.inl (0, 6, .inl q))) ∧ (∃ q, H[117]? = some (.inl (0, 6, .inl q))) ∧ (∃ q, H[120]? = some (.inl (0, 64, .inl q))) ∧ ∃ q, H[124]? = some (.inl (0, 3721, .inl q))
theorem MRest.off {H H' : dxH} {tx : Nat → Nat} {ln n am nx : Nat} {stk : Nat → Sn} {kp : Nat → Bool} {ks : Nat → Sn} {tm : Nat} {tc th : Nat → Nat} {td : Nat → Bool} {A : Nat → Prop} (h : MRest H tx ln n am nx stk kp ks tm tc th td) (hO : Off A H H') (hA : ∀ j, 115 ≤ j → j ≤ 126 → ¬ A j) : MRest H' tx ln n am nx stk kp ks tm tc th td := by
  obtain ⟨⟨rw, h1, h2⟩, ⟨mt, h3, h4⟩, ⟨a, b, c, h5, h6, h7, h8⟩, ⟨kq, kg, h9, i1, i2, i3⟩, ⟨q1, i4⟩, ⟨q2, i5⟩, ⟨q3, i6⟩, ⟨q4, i7⟩, q5, i8⟩ := h
  have o : ∀ (j : Nat) (e : dxE), 115 ≤ j → j ≤ 126 → H[j]? = some e → H'[j]? = some e := fun j e a b hj => hO.at hj (hA j a b)
  exact ⟨⟨rw, o _ _ (by decide) (by decide) h1, h2⟩, ⟨mt, o _ _ (by decide) (by decide) h3, h4⟩, ⟨a, b, c, o _ _ (by decide) (by decide) h5, o _ _ (by decide) (by decide) h6, o _ _ (by decide) (by decide) h7, h8⟩, ⟨kq, kg, o _ _ (by decide) (by decide) h9, i1, o _ _ (by decide) (by decide) i2, i3⟩, ⟨q1, o _ _ (by decide) (by decide) i4⟩, ⟨q2, o _ _ (by decide) (by decide) i5⟩, ⟨q3, o _ _ (by decide) (by decide) i6⟩, ⟨q4, o _ _ (by decide) (by decide) i7⟩, q5, o _ _ (by decide) (by decide) i8⟩
/-- what the model holds, in the numbers of the class -/
def MInv (H : dxH) (tx : Nat → Nat) (ln n : Nat) (sd kd : Nat → Nat) (s : Sn) (am : Nat) (stk : Nat → Sn) (kp : Nat → Bool) (ks : Nat → Sn) (tm : Nat) (tc th : Nat → Nat) (td : Nat → Bool) (sed : Int64) : Prop :=
  ∃ (f g : Nat → Int32) (nx : Nat), (MC H n f sed sd kd g ∧ LvS g 0 n s ∧ f 3 = nI ln ∧ f 6 = nI am ∧ f 7 = nI nx ∧ f 8 = nI tm ∧ nx < 14) ∧ MRest H tx ln n am nx stk kp ks tm tc th td
/-- the cells of the model's -/
def mC : Nat → Prop := fun j => 111 ≤ j ∧ j ≤ 126
theorem and63 : ∀ n, n < 7 → 63 &&& HE n = HE n := by decide
theorem lq143 {tb : dxT} {H : dxH} {n : Nat} {f : Nat → Int32} {sed : Int64} {sd kd : Nat → Nat} {g : Nat → Int32} : ∀ (d k : Nat) (H1 : dxH) (g1 : Nat → Int32), k + d = 27 → MC H1 n f sed sd kd g1 → (∀ j, j < 27 → g1 j = g j) → (∀ j, j < k → g1 (27 + j) = g j) → Off (fun j => j = 114) H H1 → Ev tb 143 2 [some (.ref 111), some (.int (nI k))] [] H1 (fun r H' => r = none ∧ ∃ g', MC H' n f sed sd kd g' ∧ (∀ j, j < 27 → g' j = g j) ∧ (∀ j, j < 27 → g' (27 + j) = g j) ∧ Off (fun j => j = 114) H H')
  | 0, k, H1, g1, hk, hC, h1, h2, hO => by
    obtain rfl : k = 27 := by omega
    obtain ⟨c0, ⟨ms, mk, c1, c2, c3, c4⟩, c5⟩ := id hC
    unfold mOb at c0
    refine ev_iload_n i143_2 rfl ?_
    refine ev_bipush (v := nI 27) i143_3 (by decide) ?_
    refine evn_icmp_ge (t := 29) i143_5 (by decide) (by omega) (fun z5 => ?_) (fun z5 => by exfalso; omega)
    refine ev_vret i143_29 (by decide +kernel) ?_
    exact ⟨rfl, g1, hC, h1, h2, hO⟩
  | d + 1, k, H1, g1, hk, hC, h1, h2, hO => by
    obtain ⟨c0, ⟨ms, mk, c1, c2, c3, c4⟩, c5⟩ := id hC
    unfold mOb at c0
    refine ev_iload_n i143_2 rfl ?_
    refine ev_bipush (v := nI 27) i143_3 (by decide) ?_
    refine evn_icmp_ge (t := 29) i143_5 (by decide) (by omega) (fun z5 => by exfalso; omega) (fun z5 => ?_)
    refine ev_aload_n i143_8 rfl ?_
    refine ev_get i143_9 ci143 fl8_16 (by assumption) rfl ?_
    refine ev_bipush (v := nI 27) i143_12 (by decide) ?_
    refine ev_iload_n i143_14 rfl ?_
    refine evn_iadd i143_15 ?_
    refine ev_aload_n i143_16 rfl ?_
    refine ev_get i143_17 ci143 fl8_16 (by assumption) rfl ?_
    refine ev_iload_n i143_20 rfl ?_
    refine ev_iald_n i143_21 (by assumption) (by omega) ?_
    refine evs_iastw i143_22 (by assumption) (by omega) (fun H2 hH2 => ?_)
    have c0 : H2[111]? = some (.inr (8, [.int (nI n), .ref 112, .ref 113, .ref 114, .ref 115, .ref 116, .ref 117, .int (f 0), .int (f 1), .int (f 2), .ref 118, .int (f 3), .int (f 4), .int (f 5), .int (f 6), .int (f 7), .ref 119, .ref 120, .int (f 8), .ref 121, .ref 122, .ref 123, .ref 124, .long sed, .ref 125, .ref 126])) := by rw [hH2]; exact set_ne c0 (by omega)
    have c1 : H2[112]? = some (.inl (0, 6, .inl ms)) := by rw [hH2]; exact set_ne c1 (by omega)
    have c3 : H2[113]? = some (.inl (0, 6, .inl mk)) := by rw [hH2]; exact set_ne c3 (by omega)
    have c5 : H2[114]? = some (.inl (0, 54, .inl (upd g1 (27 + k) (g1 k)))) := by rw [hH2]; exact set_self c5
    have hO : Off (fun j => j = 114) H H2 := by rw [hH2]; exact hO.set (by rfl)
    refine evn_iinc (d := 1) (L' := [some (.ref 111), some (.int (nI (k + 1)))]) i143_23 rfl rfl (by decide) rfl ?_
    refine ev_goto (t := 2) i143_26 (by decide) ?_
    exact lq143 d (k + 1) _ _ (by omega) ⟨c0, ⟨ms, mk, c1, c2, c3, c4⟩, c5⟩ (fun j hj => by unfold upd; rw [if_neg (by omega)]; exact h1 j hj) (fun j hj => by
      unfold upd
      by_cases q : j = k
      · rw [if_pos (by omega), q]; exact h1 k (by omega)
      · rw [if_neg (by omega)]; exact h2 j (by omega)) hO
theorem c143 {tb : dxT} {H : dxH} {n : Nat} {f : Nat → Int32} {sed : Int64} {sd kd : Nat → Nat} {g : Nat → Int32} {ce : Nat → Nat} {sn : Bool} {x : Hs} (hn : n ≤ 6) (hC : MC H n f sed sd kd g) (hL : Lv g 0 n ce sn x) : Cl tb 143 [.ref 111] H (fun r H' => r = none ∧ ∃ g', MC H' n f sed sd kd g' ∧ Lv g' 0 n ce sn x ∧ Lv g' (27 * 1) n ce sn x ∧ Off (fun j => j = 114) H H') := by
  show Ev tb 143 0 [some (.ref 111), none] [] H _
  refine ev_iconst (v := nI 0) i143_0 (by decide) ?_
  refine ev_istore_n (L' := [some (.ref 111), some (.int (nI 0))]) i143_1 ⟨Nat.le_of_ble_eq_true rfl, rfl⟩ rfl ?_
  refine (lq143 27 0 H g (by omega) hC (fun j hj => rfl) (fun j hj => absurd hj (Nat.not_lt_zero _)) Off.rf).post (fun r H' hq => ?_)
  obtain ⟨h1, g3, h2, h3, h4, h5⟩ := hq
  exact ⟨h1, g3, h2, hL.cp hn (fun j hj => by rw [Nat.zero_add]; exact h3 j hj), hL.cp hn (fun j hj => by rw [Nat.zero_add]; exact h4 j hj), h5⟩
theorem lq145 {tb : dxT} {H : dxH} {n : Nat} {f : Nat → Int32} {sed : Int64} {sd kd : Nat → Nat} {g : Nat → Int32} {ce : Nat → Nat} {sn : Bool} {sm m q : Nat} (hn : n ≤ 6) (b4 : ∀ j, sd j < 2) (b5 : ∀ j, kd j < 4) (hce : ∀ j, ce j < 10) (hm : sm < 1024) (hq4 : q < 4) (hm8 : m < 1000) : ∀ (d k c : Nat) (H1 : dxH) (g1 : Nat → Int32) (x : Hs), k + d = m → c ≤ k → MC H1 n f sed sd kd g1 → Lv g1 (27 * 1) n ce sn x → SOK x → ofL 1 g g1 → Off (fun j => j = 114) H H1 → Ev tb 145 6 [some (.ref 111), some (.int (nI m)), some (.int (nI sm)), some (.int (nI q)), some (.int (nI c)), some (.int (nI k))] [] H1 (fun r H' => r = some (.int (nI (c + cntL (sm &&& HE n) sd kd ce sn q d x))) ∧ ∃ g', MC H' n f sed sd kd g' ∧ Lv g' (27 * 1) n ce sn (hrs (sm &&& HE n) sd kd ce sn d x) ∧ SOK (hrs (sm &&& HE n) sd kd ce sn d x) ∧ ofL 1 g g' ∧ Off (fun j => j = 114) H H')
  | 0, k, c, H1, g1, x, hk, hck, hC, hL, hx, hg, hO => by
    obtain rfl : k = m := by omega
    obtain ⟨c0, ⟨ms, mk, c1, c2, c3, c4⟩, c5⟩ := id hC
    unfold mOb at c0
    refine ev_iload i145_6 rfl ?_
    refine ev_iload_n i145_8 rfl ?_
    refine evn_icmp_ge (t := 39) i145_9 (by decide) (by omega) (fun z9 => ?_) (fun z9 => by exfalso; omega)
    refine ev_iload i145_39 rfl ?_
    refine ev_iret i145_41 (by decide +kernel) ?_
    exact ⟨rfl, g1, hC, hL, hx, hg, hO⟩
  | d + 1, k, c, H1, g1, x, hk, hck, hC, hL, hx, hg, hO => by
    have h4 := srtF_lt (he := sm &&& HE n) (kd := kd) (fu := x.2.1) (sn := sn) (rg := false)
    obtain ⟨c0, ⟨ms, mk, c1, c2, c3, c4⟩, c5⟩ := id hC
    unfold mOb at c0
    refine ev_iload i145_6 rfl ?_
    refine ev_iload_n i145_8 rfl ?_
    refine evn_icmp_ge (t := 39) i145_9 (by decide) (by omega) (fun z9 => by exfalso; omega) (fun z9 => ?_)
    refine ev_iload i145_12 rfl ?_
    refine ev_aload_n i145_14 rfl ?_
    refine ev_iconst (v := nI 1) i145_15 (by decide) ?_
    refine ev_iload_n i145_16 rfl ?_
    refine ev_iconst (v := nI 0) i145_17 (by decide) ?_
    refine ev_callV (vs := [.int (nI 1), .int (nI sm), .int (nI 0)]) (rest := [.int (nI c)]) i145_18 ci145 lk8_132 (congrArg (fun q => q + 1) np135) ci135 (by decide) (by decide +kernel) (Nat.le_of_ble_eq_true rfl) ⟨rfl, rfl, Nat.le_of_ble_eq_true rfl⟩ rfl (by assumption) (c135 (rg := false) hn b4 b5 hce (by decide) hm hC hL hx) (fun r H2 hq => ?_)
    obtain ⟨rfl, g2, hC2, hL2, hg2, hO2⟩ := hq
    show Ev tb 145 21 [some (.ref 111), some (.int (nI m)), some (.int (nI sm)), some (.int (nI q)), some (.int (nI c)), some (.int (nI k))] [.int (nI (srtF (sm &&& HE n) kd x.2.1 sn false)), .int (nI c)] H2 _
    refine ev_iload_n i145_21 rfl ?_
    refine evn_icmp_ne (t := 29) i145_22 (by decide) (by omega) (fun z22 => ?_) (fun z22 => ?_)
    · refine ev_iconst (v := nI 0) i145_29 (by decide) ?_
      refine evn_iadd i145_30 ?_
      refine ev_istore (L' := [some (.ref 111), some (.int (nI m)), some (.int (nI sm)), some (.int (nI q)), some (.int (nI (c + 0))), some (.int (nI k))]) i145_31 ⟨Nat.le_of_ble_eq_true rfl, rfl⟩ rfl ?_
      refine evn_iinc (d := 1) (L' := [some (.ref 111), some (.int (nI m)), some (.int (nI sm)), some (.int (nI q)), some (.int (nI (c + 0))), some (.int (nI (k + 1)))]) i145_33 rfl rfl (by decide) rfl ?_
      refine ev_goto (t := 6) i145_36 (by decide) ?_
      have hx2 := hrF_ok (he := sm &&& HE n) (sd := sd) (kd := kd) (ce := ce) (sn := sn) (rg := false) hce b4 hx
      refine (lq145 hn b4 b5 hce hm hq4 hm8 d (k + 1) (c + 0) H2 g2 (hrF (sm &&& HE n) sd kd ce sn false x) (by omega) (by omega) hC2 hL2 hx2 (hg.tr hg2) (hO.trans hO2 (fun _ q => q) (fun _ q => q))).post (fun r H' hq => ?_)
      have e : c + cntL (sm &&& HE n) sd kd ce sn q (d + 1) x = c + 0 + cntL (sm &&& HE n) sd kd ce sn q d (hrF (sm &&& HE n) sd kd ce sn false x) := by
        show c + ((if srtF (sm &&& HE n) kd x.2.1 sn false = q then 1 else 0) + cntL (sm &&& HE n) sd kd ce sn q d (hrF (sm &&& HE n) sd kd ce sn false x)) = _
        rw [if_neg (by omega)]
        omega
      rw [e]
      exact hq
    · refine ev_iconst (v := nI 1) i145_25 (by decide) ?_
      refine ev_goto (t := 30) i145_26 (by decide) ?_
      refine evn_iadd i145_30 ?_
      refine ev_istore (L' := [some (.ref 111), some (.int (nI m)), some (.int (nI sm)), some (.int (nI q)), some (.int (nI (c + 1))), some (.int (nI k))]) i145_31 ⟨Nat.le_of_ble_eq_true rfl, rfl⟩ rfl ?_
      refine evn_iinc (d := 1) (L' := [some (.ref 111), some (.int (nI m)), some (.int (nI sm)), some (.int (nI q)), some (.int (nI (c + 1))), some (.int (nI (k + 1)))]) i145_33 rfl rfl (by decide) rfl ?_
      refine ev_goto (t := 6) i145_36 (by decide) ?_
      have hx2 := hrF_ok (he := sm &&& HE n) (sd := sd) (kd := kd) (ce := ce) (sn := sn) (rg := false) hce b4 hx
      refine (lq145 hn b4 b5 hce hm hq4 hm8 d (k + 1) (c + 1) H2 g2 (hrF (sm &&& HE n) sd kd ce sn false x) (by omega) (by omega) hC2 hL2 hx2 (hg.tr hg2) (hO.trans hO2 (fun _ q => q) (fun _ q => q))).post (fun r H' hq => ?_)
      have e : c + cntL (sm &&& HE n) sd kd ce sn q (d + 1) x = c + 1 + cntL (sm &&& HE n) sd kd ce sn q d (hrF (sm &&& HE n) sd kd ce sn false x) := by
        show c + ((if srtF (sm &&& HE n) kd x.2.1 sn false = q then 1 else 0) + cntL (sm &&& HE n) sd kd ce sn q d (hrF (sm &&& HE n) sd kd ce sn false x)) = _
        rw [if_pos (by omega)]
        omega
      rw [e]
      exact hq
theorem c145 {tb : dxT} {H : dxH} {n : Nat} {f : Nat → Int32} {sed : Int64} {sd kd : Nat → Nat} {g : Nat → Int32} {ce : Nat → Nat} {sn : Bool} {sm m q : Nat} {x : Hs} (hn : n ≤ 6) (b4 : ∀ j, sd j < 2) (b5 : ∀ j, kd j < 4) (hce : ∀ j, ce j < 10) (hm : sm < 1024) (hq4 : q < 4) (hm8 : m < 1000) (hC : MC H n f sed sd kd g) (hL : Lv g (27 * 1) n ce sn x) (hx : SOK x) : Cl tb 145 [.ref 111, .int (nI m), .int (nI sm), .int (nI q)] H (fun r H' => r = some (.int (nI (cntL (sm &&& HE n) sd kd ce sn q m x))) ∧ ∃ g', MC H' n f sed sd kd g' ∧ Lv g' (27 * 1) n ce sn (hrs (sm &&& HE n) sd kd ce sn m x) ∧ SOK (hrs (sm &&& HE n) sd kd ce sn m x) ∧ ofL 1 g g' ∧ Off (fun j => j = 114) H H') := by
  show Ev tb 145 0 [some (.ref 111), some (.int (nI m)), some (.int (nI sm)), some (.int (nI q)), none, none] [] H _
  refine ev_iconst (v := nI 0) i145_0 (by decide) ?_
  refine ev_istore (L' := [some (.ref 111), some (.int (nI m)), some (.int (nI sm)), some (.int (nI q)), some (.int (nI 0)), none]) i145_1 ⟨Nat.le_of_ble_eq_true rfl, rfl⟩ rfl ?_
  refine ev_iconst (v := nI 0) i145_3 (by decide) ?_
  refine ev_istore (L' := [some (.ref 111), some (.int (nI m)), some (.int (nI sm)), some (.int (nI q)), some (.int (nI 0)), some (.int (nI 0))]) i145_4 ⟨Nat.le_of_ble_eq_true rfl, rfl⟩ rfl ?_
  have k1 := lq145 (tb := tb) (H := H) (g := g) hn b4 b5 hce hm hq4 hm8 m 0 0 H g x (by omega) (Nat.le_refl _) hC hL hx ofL.rf Off.rf
  rw [Nat.zero_add] at k1
  exact k1
