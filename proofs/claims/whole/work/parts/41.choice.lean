/-! the model's calls: choices, graze  -/
def okM (n : Nat) (sd : Nat → Nat) (s : Sn) (q c : Nat) : Bool := decide (c = 0) || (decide ((c - 1) / 10 < n) && (decide (sd ((c - 1) / 10) = q) && !grzB (HE n) s.1 ((c - 1) % 10)))
theorem okM_ok {n : Nat} {sd : Nat → Nat} {s : Sn} {q c : Nat} (h : okM n sd s q c = true) : c = 0 ∨ (c - 1) / 10 < n := by
  unfold okM at h
  by_cases h0 : c = 0
  · exact Or.inl h0
  · simp [h0] at h
    exact Or.inr h.1
theorem upto_add {α : Type} {f : Nat → α → α} : ∀ (a b k : Nat) (x : α), upto f (a + b) k x = upto f b (k + a) (upto f a k x)
  | 0, b, k, x => by rw [Nat.zero_add]; rfl
  | a + 1, b, k, x => by
    rw [show a + 1 + b = (a + b) + 1 by omega]
    show upto f (a + b) (k + 1) (f k x) = upto f b (k + (a + 1)) (upto f a (k + 1) (f k x))
    rw [upto_add a b (k + 1) (f k x), show k + 1 + a = k + (a + 1) by omega]
theorem upto_cg {α : Type} {f g : Nat → α → α} : ∀ (d k : Nat) (x : α), (∀ j y, k ≤ j → j < k + d → f j y = g j y) → upto f d k x = upto g d k x
  | 0, _, _, _ => rfl
  | d + 1, k, x, h => by
    show upto f d (k + 1) (f k x) = upto g d (k + 1) (g k x)
    rw [h k x (Nat.le_refl _) (by omega)]
    exact upto_cg d (k + 1) _ (fun j y a b => h j y (by omega) (by omega))
def okF (n : Nat) (sd : Nat → Nat) (s : Sn) (q c : Nat) (l : List Nat) : List Nat := if okM n sd s q c = true then l ++ [c] else l
theorem ok_mv {n : Nat} {sd : Nat → Nat} {s : Sn} {q k : Nat} (hk : k < n) (hs : sd k = q) : ∀ (d c : Nat) (l : List Nat), c + d ≤ 10 → l.length + freN (HE n) s.1 d c ≤ 26 → upto (mvF (HE n) s.1 k) d c l = upto (okF n sd s q) d (10 * k + c + 1) l
  | 0, _, _, _, _ => rfl
  | d + 1, c, l, hc, hl => by
    have e1 : (10 * k + c + 1 - 1) / 10 = k := by omega
    have e2 : (10 * k + c + 1 - 1) % 10 = c := by omega
    show upto (mvF (HE n) s.1 k) d (c + 1) (mvF (HE n) s.1 k c l) = upto (okF n sd s q) d (10 * k + c + 1 + 1) (okF n sd s q (10 * k + c + 1) l)
    unfold freN at hl
    by_cases hg : grzB (HE n) s.1 c = true
    · rw [if_pos hg] at hl
      rw [show mvF (HE n) s.1 k c l = l by unfold mvF; exact if_pos hg, show okF n sd s q (10 * k + c + 1) l = l by unfold okF; exact if_neg (by unfold okM; rw [e1, e2, hg]; simp)]
      exact ok_mv hk hs d (c + 1) l (by omega) (by omega)
    · rw [if_neg hg] at hl
      have hg2 : grzB (HE n) s.1 c = false := by simpa using hg
      rw [show mvF (HE n) s.1 k c l = l ++ [10 * k + c + 1] by unfold mvF addC; rw [if_neg hg]; exact if_pos (by omega), show okF n sd s q (10 * k + c + 1) l = l ++ [10 * k + c + 1] by unfold okF; exact if_pos (by unfold okM; rw [e1, e2, hg2]; simp [hk, hs])]
      exact ok_mv hk hs d (c + 1) _ (by omega) (by rw [List.length_append]; simp only [List.length_cons, List.length_nil]; omega)
theorem ok_no {n : Nat} {sd : Nat → Nat} {s : Sn} {q k : Nat} (h : ¬ (k < n ∧ sd k = q)) : ∀ (d c : Nat) (l : List Nat), c + d ≤ 10 → upto (okF n sd s q) d (10 * k + c + 1) l = l
  | 0, _, _, _ => rfl
  | d + 1, c, l, hc => by
    have e1 : (10 * k + c + 1 - 1) / 10 = k := by omega
    show upto (okF n sd s q) d (10 * k + c + 1 + 1) (okF n sd s q (10 * k + c + 1) l) = l
    rw [show okF n sd s q (10 * k + c + 1) l = l by
      unfold okF
      exact if_neg (fun u => by
        unfold okM at u
        rw [e1] at u
        simp at u
        exact h ⟨u.1, u.2.1⟩)]
    exact ok_no h d (c + 1) l (by omega)
theorem ok_ch {n : Nat} {sd : Nat → Nat} {s : Sn} {q : Nat} : ∀ (d k : Nat) (l : List Nat), l.length + owN (fun i => (HE n).testBit i && decide (sd i = q)) d k * freN (HE n) s.1 10 0 ≤ 26 → upto (chF (HE n) sd s.1 q) d k l = upto (okF n sd s q) (10 * d) (10 * k + 1) l
  | 0, _, _, _ => rfl
  | d + 1, k, l, hl => by
    rw [show 10 * (d + 1) = 10 + 10 * d by omega, upto_add 10 (10 * d) (10 * k + 1) l]
    show upto (chF (HE n) sd s.1 q) d (k + 1) (chF (HE n) sd s.1 q k l) = _
    unfold owN at hl
    by_cases hg : ((HE n).testBit k && decide (sd k = q)) = true
    · rw [if_pos hg, Nat.add_mul] at hl
      have hg2 := hg
      rw [HE_bit, Bool.and_eq_true] at hg2
      have hk := of_decide_eq_true hg2.1
      have hs := of_decide_eq_true hg2.2
      have hm := mv_len (he := HE n) (ce := s.1) (k := k) 10 0 l
      rw [show chF (HE n) sd s.1 q k l = upto (mvF (HE n) s.1 k) 10 0 l by unfold chF; exact if_pos hg]
      rw [ok_ch d (k + 1) _ (by omega), ok_mv hk hs 10 0 l (by omega) (by omega)]
      rfl
    · rw [if_neg hg, Nat.zero_add] at hl
      rw [show chF (HE n) sd s.1 q k l = l by unfold chF; exact if_neg hg]
      rw [ok_ch d (k + 1) _ (by omega), ok_no (fun u => hg (by rw [HE_bit, Bool.and_eq_true]; exact ⟨decide_eq_true u.1, decide_eq_true u.2⟩)) 10 0 l (by omega)]
      rfl
theorem ow_le {p : Nat → Bool} {n : Nat} (hp : ∀ k, n ≤ k → p k = false) : ∀ (d k : Nat), owN p d k ≤ n - k
  | 0, _ => Nat.zero_le _
  | d + 1, k => by
    have h := ow_le hp d (k + 1)
    unfold owN
    by_cases hk : k < n
    · split <;> omega
    · rw [hp k (by omega)]
      simp
      omega
theorem c26 : ∀ n a b, n ≤ 6 → a ≤ n → b + n ≤ 10 → 1 + a * b ≤ 26 := by
  intro n a b h1 h2 h3
  have h4 : a * b ≤ n * (10 - n) := Nat.mul_le_mul h2 (by omega)
  have h5 : ∀ n : Fin 7, 1 + n.1 * (10 - n.1) ≤ 26 := by decide
  have := h5 ⟨n, by omega⟩
  simp only at this
  omega
theorem chs_ok {n : Nat} {sd : Nat → Nat} {s : Sn} {q : Nat} (hn : n ≤ 6) (hs : SnOK n s) : chs n sd s q = upto (okF n sd s q) 61 0 [] := by
  have hf := fre_le hs.1 n hn hs.2.2.2
  have ho := ow_le (p := fun i => (HE n).testBit i && decide (sd i = q)) (n := n) (fun k hk => by show ((HE n).testBit k && decide (sd k = q)) = false; rw [HE_bit, decide_eq_false (by omega)]; rfl) 6 0
  unfold chs
  rw [ok_ch 6 0 [0] (by have := c26 n _ _ hn ho hf; simpa using this)]
  rfl
theorem fold_ok {α : Type} {n : Nat} {sd : Nat → Nat} {s : Sn} {q : Nat} {f : α → Nat → α} {p : α} : ∀ (d c : Nat) (l : List Nat), (upto (okF n sd s q) d c l).foldl f p = upto (fun c p => if okM n sd s q c = true then f p c else p) d c (l.foldl f p)
  | 0, _, _ => rfl
  | d + 1, c, l => by
    show (upto (okF n sd s q) d (c + 1) (okF n sd s q c l)).foldl f p = _
    rw [fold_ok d (c + 1)]
    unfold okF
    by_cases h : okM n sd s q c = true
    · rw [if_pos h, List.foldl_append]
      show _ = upto _ d (c + 1) (if okM n sd s q c = true then f (l.foldl f p) c else l.foldl f p)
      rw [if_pos h]
      rfl
    · rw [if_neg h]
      show _ = upto _ d (c + 1) (if okM n sd s q c = true then f (l.foldl f p) c else l.foldl f p)
      rw [if_neg h]
theorem gzL_fold {n : Nat} {sd kd : Nat → Nat} {s : Sn} {m : Nat} {u : Bool} {l : List Nat} : ∀ (d i : Nat) (p : Nat × Nat), i + d = l.length → gzL n sd kd s m u l d i p = (l.drop i).foldl (gzS n sd kd s m u) p
  | 0, i, p, h => by
    rw [List.drop_eq_nil_of_le (by omega)]
    rfl
  | d + 1, i, p, h => by
    unfold gzL
    rw [gzL_fold d (i + 1) _ (by omega), List.drop_eq_getElem_cons (by omega : i < l.length)]
    rw [List.getD_eq_getElem?_getD, List.getElem?_eq_getElem (by omega)]
    rfl
def gmF (n : Nat) (sd kd : Nat → Nat) (s : Sn) (q m : Nat) (u : Bool) (c : Nat) (p : Nat × Nat) : Nat × Nat := if okM n sd s q c = true then (if c = 0 ∨ (if u = true then p.2 < onN n sd kd s m c else onN n sd kd s m c < p.2) then (c, onN n sd kd s m c) else p) else p
theorem gz_mod {n : Nat} {sd kd : Nat → Nat} {s : Sn} {q m : Nat} {u : Bool} (hn : n ≤ 6) (hs : SnOK n s) : gzL n sd kd s m u (chs n sd s q) (chs n sd s q).length 0 (0, onN n sd kd s m 0) = upto (gmF n sd kd s q m u) 61 0 (0, 0) := by
  rw [gzL_fold _ 0 _ (Nat.zero_add _), List.drop_zero, chs_ok hn hs, fold_ok, show (61 : Nat) = 1 + 60 from rfl, upto_add, upto_add]
  show upto _ 60 1 (if okM n sd s q 0 = true then gzS n sd kd s m u (0, onN n sd kd s m 0) 0 else (0, onN n sd kd s m 0)) = upto (gmF n sd kd s q m u) 60 1 (gmF n sd kd s q m u 0 (0, 0))
  have h0 : okM n sd s q 0 = true := by unfold okM; simp
  rw [if_pos h0, show gmF n sd kd s q m u 0 (0, 0) = (0, onN n sd kd s m 0) by unfold gmF; rw [if_pos h0, if_pos (Or.inl rfl)], show gzS n sd kd s m u (0, onN n sd kd s m 0) 0 = (0, onN n sd kd s m 0) by unfold gzS; exact ite_self _]
  refine upto_cg 60 1 _ (fun j y a b => ?_)
  unfold gmF gzS
  by_cases h : okM n sd s q j = true
  · rw [if_pos h, if_pos h]
    cases u
    · simp [show ¬ j = 0 by omega]
    · simp [show ¬ j = 0 by omega]
  · rw [if_neg h, if_neg h]
theorem c148z {tb : dxT} {H : dxH} {n : Nat} {f : Nat → Int32} {sed : Int64} {sd kd : Nat → Nat} {g : Nat → Int32} {q : Nat} {s : Sn} (hC : MC H n f sed sd kd g) : Cl tb 148 [.ref 111, .int (nI q), .int (nI 0)] H (Rt (.int (bI (okM n sd s q 0))) H) := by
  obtain ⟨c0, ⟨ms, mk, c1, c2, c3, c4⟩, c5⟩ := id hC
  unfold mOb at c0
  show Ev tb 148 0 [some (.ref 111), some (.int (nI q)), some (.int (nI 0)), none] [] H _
  refine ev_iload_n i148_0 rfl ?_
  refine ev_iconst (v := nI 1) i148_1 (by decide) ?_
  refine ev_isub i148_2 ?_
  refine ev_bipush (v := nI 10) i148_3 (by decide) ?_
  refine ev_idiv i148_5 (by first | decide | exact nI_ne0 (by omega) (by omega)) ?_
  refine ev_istore_n (L' := [some (.ref 111), some (.int (nI q)), some (.int (nI 0)), some (.int (((nI 0) - (nI 1)) / (nI 10)))]) i148_6 ⟨Nat.le_of_ble_eq_true rfl, rfl⟩ rfl ?_
  refine ev_iload_n i148_7 rfl ?_
  refine evn_if_eq (t := 42) i148_8 (by decide) (by omega) (fun z8 => ?_) (fun z8 => by exfalso; omega)
  refine ev_iconst (v := nI 1) i148_42 (by decide) ?_
  refine ev_goto (t := 47) i148_43 (by decide) ?_
  refine ev_zret i148_47 (by decide +kernel) (by decide) ?_
  exact ⟨zt (by unfold okM; simp), rfl⟩
theorem c148p {tb : dxT} {H : dxH} {n : Nat} {f : Nat → Int32} {sed : Int64} {sd kd : Nat → Nat} {g : Nat → Int32} {q c : Nat} {s : Sn} (hC : MC H n f sed sd kd g) (hn : n ≤ 6) (b4 : ∀ j, sd j < 2) (hL : LvS g 0 n s) (hce : ∀ j, s.1 j < 10) (b5 : ∀ j, kd j < 4) (hq : q < 2) (h0 : 1 ≤ c) (hc : c < 61) : Cl tb 148 [.ref 111, .int (nI q), .int (nI c)] H (Rt (.int (bI (okM n sd s q c))) H) := by
  have hs2 := b4 ((c - 1) / 10)
  unfold LvS at hL
  obtain ⟨c0, ⟨ms, mk, c1, c2, c3, c4⟩, c5⟩ := id hC
  unfold mOb at c0
  show Ev tb 148 0 [some (.ref 111), some (.int (nI q)), some (.int (nI c)), none] [] H _
  refine ev_iload_n i148_0 rfl ?_
  refine ev_iconst (v := nI 1) i148_1 (by decide) ?_
  refine evn_isub i148_2 (by omega) ?_
  refine ev_bipush (v := nI 10) i148_3 (by decide) ?_
  refine evn_idiv i148_5 (by omega) ?_
  refine ev_istore_n (L' := [some (.ref 111), some (.int (nI q)), some (.int (nI c)), some (.int (nI ((c - 1) / 10)))]) i148_6 ⟨Nat.le_of_ble_eq_true rfl, rfl⟩ rfl ?_
  refine ev_iload_n i148_7 rfl ?_
  refine evn_if_eq (t := 42) i148_8 (by decide) (by omega) (fun z8 => by exfalso; omega) (fun z8 => ?_)
  refine ev_aload_n i148_11 rfl ?_
  refine ev_iload_n i148_12 rfl ?_
  refine ev_callV (vs := [.int (nI ((c - 1) / 10))]) (rest := []) i148_13 ci148 lk8_108 (congrArg (fun q => q + 1) np128) ci128 (by decide) (by decide +kernel) (Nat.le_of_ble_eq_true rfl) ⟨rfl, rfl, Nat.le_of_ble_eq_true rfl⟩ rfl (by assumption) (c128 hC hn b5) (fun r HH hq => ?_)
  obtain ⟨rfl, rfl⟩ := hq
  rw [inR_n (by omega) (by omega)]
  show Ev tb 148 16 [some (.ref 111), some (.int (nI q)), some (.int (nI c)), some (.int (nI ((c - 1) / 10)))] [.int (bI (decide ((c - 1) / 10 < n)))] H _
  refine evd_if_eq (t := 46) i148_16 (by decide) (fun z16 => ?_) (fun z16 => ?_)
  · refine ev_iconst (v := nI 0) i148_46 (by decide) ?_
    refine ev_zret i148_47 (by decide +kernel) (by decide) ?_
    exact ⟨zf (by
      unfold okM
      simp [z8, z16]), rfl⟩
  · refine ev_aload_n i148_19 rfl ?_
    refine ev_get i148_20 ci148 fl8_7 (by assumption) rfl ?_
    refine ev_iload_n i148_23 rfl ?_
    refine ev_iald_n i148_24 (by assumption) (by omega) ?_
    rw [c2 ((c - 1) / 10) z16]
    refine ev_iload_n i148_25 rfl ?_
    refine evn_icmp_ne (t := 46) i148_26 (by decide) (by omega) (fun z26 => ?_) (fun z26 => ?_)
    · refine ev_iconst (v := nI 0) i148_46 (by decide) ?_
      refine ev_zret i148_47 (by decide +kernel) (by decide) ?_
      exact ⟨zf (by
        unfold okM
        simp [z8, z16, z26]), rfl⟩
    · refine ev_aload_n i148_29 rfl ?_
      refine ev_iload_n i148_30 rfl ?_
      refine ev_iconst (v := nI 1) i148_31 (by decide) ?_
      refine evn_isub i148_32 (by omega) ?_
      refine ev_bipush (v := nI 10) i148_33 (by decide) ?_
      refine evn_irem i148_35 (by first | omega | exact ⟨Nat.lt_of_le_of_lt (Nat.div_le_self _ _) (by omega), by decide, by decide⟩) ?_
      refine ev_callV (vs := [.int (nI ((c - 1) % 10))]) (rest := []) i148_36 ci148 lk8_135 (congrArg (fun q => q + 1) np138) ci138 (by decide) (by decide +kernel) (Nat.le_of_ble_eq_true rfl) ⟨rfl, rfl, Nat.le_of_ble_eq_true rfl⟩ rfl (by assumption) (c138 hC hn hL hce (by omega)) (fun r HH hq => ?_)
      obtain ⟨rfl, rfl⟩ := hq
      show Ev tb 148 39 [some (.ref 111), some (.int (nI q)), some (.int (nI c)), some (.int (nI ((c - 1) / 10)))] [.int (bI (grzB (HE n) s.1 ((c - 1) % 10)))] H _
      refine evb_if_ne (t := 46) i148_39 (by decide) (fun z39 => ?_) (fun z39 => ?_)
      · refine ev_iconst (v := nI 0) i148_46 (by decide) ?_
        refine ev_zret i148_47 (by decide +kernel) (by decide) ?_
        exact ⟨zf (by
          unfold okM
          simp [z8, z16, z26, z39]), rfl⟩
      · refine ev_iconst (v := nI 1) i148_42 (by decide) ?_
        refine ev_goto (t := 47) i148_43 (by decide) ?_
        refine ev_zret i148_47 (by decide +kernel) (by decide) ?_
        exact ⟨zt (by
          unfold okM
          simp [z8, z16, z26, z39]), rfl⟩
theorem c148 {tb : dxT} {H : dxH} {n : Nat} {f : Nat → Int32} {sed : Int64} {sd kd : Nat → Nat} {g : Nat → Int32} {q c : Nat} {s : Sn} (hC : MC H n f sed sd kd g) (hn : n ≤ 6) (b4 : ∀ j, sd j < 2) (hL : LvS g 0 n s) (hce : ∀ j, s.1 j < 10) (b5 : ∀ j, kd j < 4) (hq : q < 2) (hc : c < 61) : Cl tb 148 [.ref 111, .int (nI q), .int (nI c)] H (Rt (.int (bI (okM n sd s q c))) H) := by
  by_cases h0 : c = 0
  · subst h0
    exact c148z hC
  · exact c148p hC hn b4 hL hce b5 hq (by omega) hc
theorem c149 {tb : dxT} {H : dxH} {n : Nat} {f : Nat → Int32} {sed : Int64} {sd kd : Nat → Nat} {g : Nat → Int32} {ce : Nat → Nat} {sn : Bool} {x : Hs} {c : Nat} (hn : n ≤ 6) (hC : MC H n f sed sd kd g) (hL : Lv g (27 * 1) n ce sn x) (hc : c < 61) (hk : c = 0 ∨ (c - 1) / 10 < n) : Cl tb 149 [.ref 111, .int (nI c)] H (fun r H' => r = none ∧ ∃ g', MC H' n f sed sd kd g' ∧ Lv g' (27 * 1) n (mvC ce c) sn x ∧ ofL 1 g g' ∧ Off (fun j => j = 114) H H') := by
  have hO : Off (fun j => j = 114) H H := Off.rf
  obtain ⟨c0, ⟨ms, mk, c1, c2, c3, c4⟩, c5⟩ := id hC
  unfold mOb at c0
  show Ev tb 149 0 [some (.ref 111), some (.int (nI c))] [] H _
  refine ev_iload_n i149_0 rfl ?_
  refine evn_if_le (t := 24) i149_1 (by decide) (by omega) (fun z1 => ?_) (fun z1 => ?_)
  · refine ev_vret i149_24 (by decide +kernel) ?_
    exact ⟨rfl, g, hC, (by rw [show mvC ce c = ce by unfold mvC; exact if_pos (by omega)]; exact hL), ofL.rf, Off.rf⟩
  · refine ev_aload_n i149_4 rfl ?_
    refine ev_get i149_5 ci149 fl8_16 (by assumption) rfl ?_
    refine ev_bipush (v := nI 37) i149_8 (by decide) ?_
    refine ev_iload_n i149_10 rfl ?_
    refine ev_iconst (v := nI 1) i149_11 (by decide) ?_
    refine evn_isub i149_12 (by omega) ?_
    refine ev_bipush (v := nI 10) i149_13 (by decide) ?_
    refine evn_idiv i149_15 (by omega) ?_
    refine evn_iadd i149_16 ?_
    refine ev_iload_n i149_17 rfl ?_
    refine ev_iconst (v := nI 1) i149_18 (by decide) ?_
    refine evn_isub i149_19 (by omega) ?_
    refine ev_bipush (v := nI 10) i149_20 (by decide) ?_
    refine evn_irem i149_22 (by first | omega | exact ⟨Nat.lt_of_le_of_lt (Nat.div_le_self _ _) (by omega), by decide, by decide⟩) ?_
    refine evs_iastw i149_23 (by assumption) (by omega) (fun H1 hH1 => ?_)
    have c0 : H1[111]? = some (.inr (8, [.int (nI n), .ref 112, .ref 113, .ref 114, .ref 115, .ref 116, .ref 117, .int (f 0), .int (f 1), .int (f 2), .ref 118, .int (f 3), .int (f 4), .int (f 5), .int (f 6), .int (f 7), .ref 119, .ref 120, .int (f 8), .ref 121, .ref 122, .ref 123, .ref 124, .long sed, .ref 125, .ref 126])) := by rw [hH1]; exact set_ne c0 (by omega)
    have c1 : H1[112]? = some (.inl (0, 6, .inl ms)) := by rw [hH1]; exact set_ne c1 (by omega)
    have c3 : H1[113]? = some (.inl (0, 6, .inl mk)) := by rw [hH1]; exact set_ne c3 (by omega)
    have c5 : H1[114]? = some (.inl (0, 54, .inl (upd g (37 + ((c - 1) / 10)) (nI ((c - 1) % 10))))) := by rw [hH1]; exact set_self c5
    have hO : Off (fun j => j = 114) H H1 := by rw [hH1]; exact hO.set (by rfl)
    refine ev_vret i149_24 (by decide +kernel) ?_
    have hk2 : (c - 1) / 10 < n := by rcases hk with q | q <;> omega
    exact ⟨rfl, _, ⟨c0, ⟨ms, mk, c1, c2, c3, c4⟩, c5⟩, (by rw [show mvC ce c = updN ce ((c - 1) / 10) ((c - 1) % 10) by unfold mvC; exact if_neg (by omega)]; exact hL.ce (v := (c - 1) % 10) hn hk2), ofL.rf.up (by omega), hO⟩
