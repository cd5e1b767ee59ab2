/-! the model's rests  -/
def oM (n : Nat) (sd kd : Nat → Nat) (s : Sn) (m a b : Nat) : Int32 := if okM n sd s 0 a = true ∧ okM n sd s 1 b = true ∧ toB a b = false then nI (cntL (HE n) sd kd (mvC (mvC s.1 a) b) s.2.1 0 m s.2.2) else -9
def rmP (n : Nat) (sd kd : Nat → Nat) (s : Sn) (m a b k : Nat) : Bool := decide (oM n sd kd s m a b < oM n sd kd s m k b) || (!decide (oM n sd kd s m a k = -9) && decide (oM n sd kd s m a k < oM n sd kd s m a b))
def rM (n : Nat) (sd kd : Nat → Nat) (s : Sn) (m a b : Nat) : Bool := !decide (oM n sd kd s m a b = -9) && !(anyB (rmP n sd kd s m a b) 61 0)
def rC (n : Nat) (sd kd : Nat → Nat) (s : Sn) (m a b : Nat) : Bool := !decide (honI n sd kd s a b m = -1) && (!((chs n sd s 0).any (fun k => decide (honI n sd kd s a b m < honI n sd kd s k b m))) && !((chs n sd s 1).any (fun k => !decide (honI n sd kd s a k m = -1) && decide (honI n sd kd s a k m < honI n sd kd s a b m))))
theorem nI8 : ∀ N, N < 9 → ¬ nI N < -1 ∧ ¬ nI N < -9 ∧ nI N ≠ -1 ∧ nI N ≠ -9 := by decide
section RST
variable {n : Nat} {sd kd : Nat → Nat} {s : Sn} {m : Nat}
theorem hon_val {a b : Nat} (h : toB a b = false) (hm : m ≤ 8) : ∃ N, N < 9 ∧ honI n sd kd s a b m = nI N := by
  refine ⟨cntL (HE n) sd kd (mvC (mvC s.1 a) b) s.2.1 0 m s.2.2, Nat.lt_succ_of_le (Nat.le_trans cntL_le hm), ?_⟩
  unfold honI
  exact if_neg (by simp [h])
theorem hon_tob {a b : Nat} (h : toB a b = true) : honI n sd kd s a b m = -1 := by
  unfold honI
  exact if_pos h
theorem om_hon {a b : Nat} (ha : okM n sd s 0 a = true) (hb : okM n sd s 1 b = true) (h : toB a b = false) : oM n sd kd s m a b = honI n sd kd s a b m := by
  unfold oM honI
  rw [if_pos ⟨ha, hb, h⟩, if_neg (by simp [h])]
theorem om_tob {a b : Nat} (h : toB a b = true) : oM n sd kd s m a b = -9 := by
  unfold oM
  exact if_neg (by simp [h])
theorem om_ne {a b : Nat} (h : ¬ oM n sd kd s m a b = -9) : okM n sd s 0 a = true ∧ okM n sd s 1 b = true ∧ toB a b = false := by
  refine Classical.byContradiction fun q => h ?_
  unfold oM
  exact if_neg q
theorem mem_ok {q c : Nat} : ∀ (d k : Nat) (l : List Nat), c ∈ upto (okF n sd s q) d k l ↔ c ∈ l ∨ (k ≤ c ∧ c < k + d ∧ okM n sd s q c = true)
  | 0, k, l => by
    show c ∈ l ↔ _
    constructor
    · exact Or.inl
    · rintro (h | h)
      · exact h
      · omega
  | d + 1, k, l => by
    show c ∈ upto (okF n sd s q) d (k + 1) (okF n sd s q k l) ↔ _
    rw [mem_ok d (k + 1)]
    unfold okF
    by_cases h : okM n sd s q k = true
    · rw [if_pos h, List.mem_append, List.mem_singleton]
      constructor
      · rintro ((h1 | h1) | h1)
        · exact Or.inl h1
        · exact Or.inr ⟨by omega, by omega, by rw [h1]; exact h⟩
        · exact Or.inr ⟨by omega, by omega, h1.2.2⟩
      · rintro (h1 | h1)
        · exact Or.inl (Or.inl h1)
        · by_cases e : c = k
          · exact Or.inl (Or.inr e)
          · exact Or.inr ⟨by omega, by omega, h1.2.2⟩
    · rw [if_neg h]
      constructor
      · rintro (h1 | h1)
        · exact Or.inl h1
        · exact Or.inr ⟨by omega, by omega, h1.2.2⟩
      · rintro (h1 | h1)
        · exact Or.inl h1
        · by_cases e : c = k
          · rw [e] at h1; exact absurd h1.2.2 h
          · exact Or.inr ⟨by omega, by omega, h1.2.2⟩
theorem mem_chs {q c : Nat} (hn : n ≤ 6) (hs : SnOK n s) : c ∈ chs n sd s q ↔ c < 61 ∧ okM n sd s q c = true := by
  rw [chs_ok hn hs, mem_ok]
  constructor
  · rintro (h | h)
    · cases h
    · exact ⟨by omega, h.2.2⟩
  · intro h
    exact Or.inr ⟨by omega, by omega, h.2⟩
theorem rst_eq {a b : Nat} (hn : n ≤ 6) (hs : SnOK n s) (hm : m ≤ 8) (ha : okM n sd s 0 a = true) (hb : okM n sd s 1 b = true) : rM n sd kd s m a b = rC n sd kd s m a b := by
  unfold rM rC
  rcases Bool.eq_false_or_eq_true (toB a b) with ht | ht
  · rw [om_tob ht, hon_tob ht]
    rfl
  · obtain ⟨N, hN, eN⟩ := hon_val (n := n) (sd := sd) (kd := kd) (s := s) (m := m) ht hm
    have e0 := om_hon (kd := kd) (m := m) ha hb ht
    rw [e0]
    have h8 := nI8 N hN
    rw [decide_eq_false (by rw [eN]; exact h8.2.2.2), decide_eq_false (by rw [eN]; exact h8.2.2.1)]
    suffices key : anyB (rmP n sd kd s m a b) 61 0 = ((chs n sd s 0).any (fun k => decide (honI n sd kd s a b m < honI n sd kd s k b m)) || (chs n sd s 1).any (fun k => !decide (honI n sd kd s a k m = -1) && decide (honI n sd kd s a k m < honI n sd kd s a b m))) by
      rw [key, Bool.not_or]
    refine Bool.eq_iff_iff.mpr ?_
    rw [anyB_iff, Bool.or_eq_true, List.any_eq_true, List.any_eq_true]
    constructor
    · rintro ⟨k, _, hk, hp⟩
      unfold rmP at hp
      rw [Bool.or_eq_true] at hp
      rcases hp with hp | hp
      · have h1 := of_decide_eq_true hp
        rw [e0, eN] at h1
        have h2 : ¬ oM n sd kd s m k b = -9 := fun q => by rw [q] at h1; exact h8.2.1 h1
        obtain ⟨u1, u2, u3⟩ := om_ne h2
        refine Or.inl ⟨k, (mem_chs hn hs).mpr ⟨by omega, u1⟩, decide_eq_true ?_⟩
        rw [eN, ← om_hon (kd := kd) (m := m) u1 u2 u3]
        exact h1
      · rw [Bool.and_eq_true] at hp
        have h1 := of_decide_eq_true hp.2
        have h2 : ¬ oM n sd kd s m a k = -9 := by simpa using hp.1
        obtain ⟨u1, u2, u3⟩ := om_ne h2
        rw [e0, eN] at h1
        obtain ⟨N2, hN2, eN2⟩ := hon_val (n := n) (sd := sd) (kd := kd) (s := s) (m := m) u3 hm
        have h9 := nI8 N2 hN2
        rw [om_hon (kd := kd) (m := m) u1 u2 u3] at h1
        refine Or.inr ⟨k, (mem_chs hn hs).mpr ⟨by omega, u2⟩, ?_⟩
        rw [Bool.and_eq_true]
        exact ⟨by rw [eN2, decide_eq_false h9.2.2.1]; rfl, decide_eq_true (by rw [eN]; exact h1)⟩
    · rintro (⟨k, hk, hp⟩ | ⟨k, hk, hp⟩)
      · obtain ⟨k1, k2⟩ := (mem_chs hn hs).mp hk
        have h1 := of_decide_eq_true hp
        rcases Bool.eq_false_or_eq_true (toB k b) with h3 | h3
        · rw [hon_tob h3, eN] at h1
          exact absurd h1 h8.1
        · refine ⟨k, Nat.zero_le _, by omega, ?_⟩
          unfold rmP
          rw [Bool.or_eq_true]
          refine Or.inl (decide_eq_true ?_)
          rw [e0, om_hon (kd := kd) (m := m) k2 hb h3]
          exact h1
      · obtain ⟨k1, k2⟩ := (mem_chs hn hs).mp hk
        rw [Bool.and_eq_true] at hp
        have h1 := of_decide_eq_true hp.2
        have h2 : ¬ honI n sd kd s a k m = -1 := by simpa using hp.1
        rcases Bool.eq_false_or_eq_true (toB a k) with h3 | h3
        · exact absurd (hon_tob h3) h2
        · obtain ⟨N2, hN2, eN2⟩ := hon_val (n := n) (sd := sd) (kd := kd) (s := s) (m := m) h3 hm
          refine ⟨k, Nat.zero_le _, by omega, ?_⟩
          unfold rmP
          rw [Bool.or_eq_true, Bool.and_eq_true, e0, om_hon (kd := kd) (m := m) ha k2 h3]
          exact Or.inr ⟨by rw [eN2, decide_eq_false (nI8 N2 hN2).2.2.2]; rfl, decide_eq_true h1⟩
theorem rm_no {a b : Nat} (h : ¬ (okM n sd s 0 a = true ∧ okM n sd s 1 b = true)) : rM n sd kd s m a b = false := by
  unfold rM
  have e : oM n sd kd s m a b = -9 := Classical.byContradiction fun q => h ⟨(om_ne q).1, (om_ne q).2.1⟩
  rw [decide_eq_true e]
  rfl
theorem any_list {P : Nat → Bool} {l : List Nat} : anyB (fun k => P (l.getD k 0)) l.length 0 = l.any P := by
  refine Bool.eq_iff_iff.mpr ?_
  rw [anyB_iff, List.any_eq_true]
  constructor
  · rintro ⟨i, _, h2, h3⟩
    exact ⟨_, getD_mem (by omega), h3⟩
  · rintro ⟨x, hx, h⟩
    obtain ⟨i, hi, e⟩ := List.getElem_of_mem hx
    refine ⟨i, Nat.zero_le _, by omega, ?_⟩
    show P (l.getD i 0) = true
    rw [List.getD_eq_getElem?_getD, List.getElem?_eq_getElem hi]
    show P l[i] = true
    rw [e]
    exact h
theorem rst_rC {i j : Nat} : rstF (prF n sd kd s m (chs n sd s 0) (chs n sd s 1)) (chs n sd s 0).length (chs n sd s 1).length i j = rC n sd kd s m ((chs n sd s 0).getD i 0) ((chs n sd s 1).getD j 0) := by
  unfold rstF rC prF
  rw [← any_list, ← any_list]
def stC (n : Nat) (sd kd : Nat → Nat) (s : Sn) (m a : Nat) (p : Nat × Int32) (b : Nat) : Nat × Int32 := if rC n sd kd s m a b = true then (p.1 + 1, if p.2 = -9 then nI (1000 * a + b) else p.2) else p
def stM (n : Nat) (sd kd : Nat → Nat) (s : Sn) (m a b : Nat) (p : Nat × Int32) : Nat × Int32 := if rM n sd kd s m a b = true then (p.1 + 1, if p.2 = -9 then nI (1000 * a + b) else p.2) else p
theorem rsJ_fold {i : Nat} : ∀ (d j : Nat) (p : Nat × Int32), j + d = (chs n sd s 1).length → rsJ (prF n sd kd s m (chs n sd s 0) (chs n sd s 1)) (chs n sd s 0).length (chs n sd s 1).length (fun i j => 1000 * (chs n sd s 0).getD i 0 + (chs n sd s 1).getD j 0) i d j p = ((chs n sd s 1).drop j).foldl (stC n sd kd s m ((chs n sd s 0).getD i 0)) p
  | 0, j, p, h => by
    rw [List.drop_eq_nil_of_le (by omega)]
    rfl
  | d + 1, j, p, h => by
    unfold rsJ
    rw [rsJ_fold d (j + 1) _ (by omega), List.drop_eq_getElem_cons (by omega : j < (chs n sd s 1).length), rst_rC]
    rw [List.getD_eq_getElem?_getD (l := chs n sd s 1), List.getElem?_eq_getElem (by omega)]
    rfl
theorem rsI_fold : ∀ (d i : Nat) (p : Nat × Int32), i + d = (chs n sd s 0).length → rsI (prF n sd kd s m (chs n sd s 0) (chs n sd s 1)) (chs n sd s 0).length (chs n sd s 1).length (fun i j => 1000 * (chs n sd s 0).getD i 0 + (chs n sd s 1).getD j 0) d i p = ((chs n sd s 0).drop i).foldl (fun p a => (chs n sd s 1).foldl (stC n sd kd s m a) p) p
  | 0, i, p, h => by
    rw [List.drop_eq_nil_of_le (by omega)]
    rfl
  | d + 1, i, p, h => by
    unfold rsI
    rw [rsI_fold d (i + 1) _ (by omega), List.drop_eq_getElem_cons (by omega : i < (chs n sd s 0).length), rsJ_fold _ 0 _ (Nat.zero_add _), List.drop_zero]
    rw [List.getD_eq_getElem?_getD (l := chs n sd s 0), List.getElem?_eq_getElem (by omega)]
    rfl
theorem upto_id {α : Type} {f : Nat → α → α} (h : ∀ k x, f k x = x) : ∀ (d k : Nat) (x : α), upto f d k x = x
  | 0, _, _ => rfl
  | d + 1, k, x => by
    show upto f d (k + 1) (f k x) = x
    rw [h]
    exact upto_id h d (k + 1) x
theorem rst_mod (hn : n ≤ 6) (hs : SnOK n s) (hm : m ≤ 8) : rstP n sd kd s m = upto (fun a p => upto (stM n sd kd s m a) 61 0 p) 61 0 (0, -9) := by
  unfold rstP
  rw [rsI_fold _ 0 _ (Nat.zero_add _), List.drop_zero]
  conv => lhs; rw [chs_ok (q := 0) hn hs]
  rw [fold_ok]
  refine upto_cg 61 0 _ (fun a p _ _ => ?_)
  by_cases ha : okM n sd s 0 a = true
  · rw [if_pos ha]
    show (chs n sd s 1).foldl (stC n sd kd s m a) p = _
    conv => lhs; rw [chs_ok (q := 1) hn hs]
    rw [fold_ok]
    refine upto_cg 61 0 _ (fun b p _ _ => ?_)
    unfold stC stM
    by_cases hb : okM n sd s 1 b = true
    · rw [if_pos hb, rst_eq hn hs hm ha hb]
    · rw [if_neg hb, rm_no (fun q => hb q.2)]
      rfl
  · rw [if_neg ha]
    refine (upto_id (fun b p => ?_) 61 0 p).symm
    unfold stM
    rw [rm_no (fun q => ha q.1)]
    rfl
end RST
theorem lq164 {tb : dxT} {H : dxH} {n : Nat} {f : Nat → Int32} {sed : Int64} {sd kd : Nat → Nat} {s : Sn} {g p : Nat → Int32} {m i j : Nat} (hC : MC H n f sed sd kd g) (t0 : H[124]? = some (.inl (0, 3721, .inl p))) (hp : ∀ a b, a < 61 → b < 61 → p (61 * a + b) = oM n sd kd s m a b) (hi : i < 61) (hj : j < 61) : ∀ (d k : Nat) (acc : Bool), k + d = 61 → Ev tb 164 28 [some (.ref 111), some (.int (nI i)), some (.int (nI j)), some (.int (oM n sd kd s m i j)), some (.int (bI acc)), some (.int (nI k))] [] H (Rt (.int (bI (acc && !(anyB (rmP n sd kd s m i j) d k)))) H)
  | 0, k, acc, hk => by
    obtain rfl : k = 61 := by omega
    obtain ⟨c0, ⟨ms, mk, c1, c2, c3, c4⟩, c5⟩ := id hC
    unfold mOb at c0
    refine ev_iload i164_28 rfl ?_
    refine ev_bipush (v := nI 61) i164_30 (by decide) ?_
    refine evn_icmp_ge (t := 102) i164_32 (by decide) (by omega) (fun z32 => ?_) (fun z32 => by exfalso; omega)
    refine ev_iload i164_102 rfl ?_
    refine ev_zret i164_104 (by decide +kernel) (bI_and _) ?_
    rw [show (acc && !(anyB (rmP n sd kd s m i j) 0 61)) = acc from Bool.and_true _]
    exact ⟨rfl, rfl⟩
  | d + 1, k, acc, hk => by
    obtain ⟨c0, ⟨ms, mk, c1, c2, c3, c4⟩, c5⟩ := id hC
    unfold mOb at c0
    refine ev_iload i164_28 rfl ?_
    refine ev_bipush (v := nI 61) i164_30 (by decide) ?_
    refine evn_icmp_ge (t := 102) i164_32 (by decide) (by omega) (fun z32 => by exfalso; omega) (fun z32 => ?_)
    refine ev_iload i164_35 rfl ?_
    refine evb_if_eq (t := 102) i164_37 (by decide) (fun z37 => ?_) (fun z37 => ?_)
    · refine ev_iload i164_102 rfl ?_
      refine ev_zret i164_104 (by decide +kernel) (bI_and _) ?_
      rw [z37, Bool.false_and]
      exact ⟨rfl, rfl⟩
    · refine ev_aload_n i164_40 rfl ?_
      refine ev_get i164_41 ci164 fl8_47 (by assumption) rfl ?_
      refine ev_bipush (v := nI 61) i164_44 (by decide) ?_
      refine ev_iload i164_46 rfl ?_
      refine evn_imul i164_48 ?_
      refine ev_iload_n i164_49 rfl ?_
      refine evn_iadd i164_50 ?_
      refine ev_iald_n i164_51 (by assumption) (by omega) ?_
      rw [hp k j (by omega) hj]
      refine ev_iload_n i164_52 rfl ?_
      refine ev_icmp_gt (t := 93) i164_53 (by decide) (fun z53 => ?_) (fun z53 => ?_)
      · refine ev_iconst (v := nI 0) i164_93 (by decide) ?_
        refine ev_istore (L' := [some (.ref 111), some (.int (nI i)), some (.int (nI j)), some (.int (oM n sd kd s m i j)), some (.int (nI 0)), some (.int (nI k))]) i164_94 ⟨Nat.le_of_ble_eq_true rfl, rfl⟩ rfl ?_
        refine evn_iinc (d := 1) (L' := [some (.ref 111), some (.int (nI i)), some (.int (nI j)), some (.int (oM n sd kd s m i j)), some (.int (nI 0)), some (.int (nI (k + 1)))]) i164_96 rfl rfl (by decide) rfl ?_
        refine ev_goto (t := 28) i164_99 (by decide) ?_
        have hp2 : (rmP n sd kd s m i j) k = true := by
          unfold rmP
          simp [z53]
        have e : (acc && !(anyB (rmP n sd kd s m i j) (d + 1) k)) = (false && !(anyB (rmP n sd kd s m i j) d (k + 1))) := by
          show (acc && !((rmP n sd kd s m i j) k || anyB (rmP n sd kd s m i j) d (k + 1))) = _
          rw [hp2]
          simp [z37]
        rw [e]
        exact lq164 hC t0 hp hi hj d (k + 1) false (by omega)
      · refine ev_aload_n i164_56 rfl ?_
        refine ev_get i164_57 ci164 fl8_47 (by assumption) rfl ?_
        refine ev_bipush (v := nI 61) i164_60 (by decide) ?_
        refine ev_iload_n i164_62 rfl ?_
        refine evn_imul i164_63 ?_
        refine ev_iload i164_64 rfl ?_
        refine evn_iadd i164_66 ?_
        refine ev_iald_n i164_67 (by assumption) (by omega) ?_
        rw [hp i k hi (by omega)]
        refine ev_bipush (v := (-9)) i164_68 (by decide) ?_
        refine ev_icmp_eq (t := 89) i164_70 (by decide) (fun z70 => ?_) (fun z70 => ?_)
        · refine ev_iconst (v := nI 1) i164_89 (by decide) ?_
          refine ev_goto (t := 94) i164_90 (by decide) ?_
          refine ev_istore (L' := [some (.ref 111), some (.int (nI i)), some (.int (nI j)), some (.int (oM n sd kd s m i j)), some (.int (nI 1)), some (.int (nI k))]) i164_94 ⟨Nat.le_of_ble_eq_true rfl, rfl⟩ rfl ?_
          refine evn_iinc (d := 1) (L' := [some (.ref 111), some (.int (nI i)), some (.int (nI j)), some (.int (oM n sd kd s m i j)), some (.int (nI 1)), some (.int (nI (k + 1)))]) i164_96 rfl rfl (by decide) rfl ?_
          refine ev_goto (t := 28) i164_99 (by decide) ?_
          have hp2 : (rmP n sd kd s m i j) k = false := by
            unfold rmP
            simp [z53, z70]
          have e : (acc && !(anyB (rmP n sd kd s m i j) (d + 1) k)) = (true && !(anyB (rmP n sd kd s m i j) d (k + 1))) := by
            show (acc && !((rmP n sd kd s m i j) k || anyB (rmP n sd kd s m i j) d (k + 1))) = _
            rw [hp2]
            simp [z37]
          rw [e]
          exact lq164 hC t0 hp hi hj d (k + 1) true (by omega)
        · refine ev_aload_n i164_73 rfl ?_
          refine ev_get i164_74 ci164 fl8_47 (by assumption) rfl ?_
          refine ev_bipush (v := nI 61) i164_77 (by decide) ?_
          refine ev_iload_n i164_79 rfl ?_
          refine evn_imul i164_80 ?_
          refine ev_iload i164_81 rfl ?_
          refine evn_iadd i164_83 ?_
          refine ev_iald_n i164_84 (by assumption) (by omega) ?_
          rw [hp i k hi (by omega)]
          refine ev_iload_n i164_85 rfl ?_
          refine ev_icmp_lt (t := 93) i164_86 (by decide) (fun z86 => ?_) (fun z86 => ?_)
          · refine ev_iconst (v := nI 0) i164_93 (by decide) ?_
            refine ev_istore (L' := [some (.ref 111), some (.int (nI i)), some (.int (nI j)), some (.int (oM n sd kd s m i j)), some (.int (nI 0)), some (.int (nI k))]) i164_94 ⟨Nat.le_of_ble_eq_true rfl, rfl⟩ rfl ?_
            refine evn_iinc (d := 1) (L' := [some (.ref 111), some (.int (nI i)), some (.int (nI j)), some (.int (oM n sd kd s m i j)), some (.int (nI 0)), some (.int (nI (k + 1)))]) i164_96 rfl rfl (by decide) rfl ?_
            refine ev_goto (t := 28) i164_99 (by decide) ?_
            have hp2 : (rmP n sd kd s m i j) k = true := by
              unfold rmP
              simp [z53, z70, z86]
            have e : (acc && !(anyB (rmP n sd kd s m i j) (d + 1) k)) = (false && !(anyB (rmP n sd kd s m i j) d (k + 1))) := by
              show (acc && !((rmP n sd kd s m i j) k || anyB (rmP n sd kd s m i j) d (k + 1))) = _
              rw [hp2]
              simp [z37]
            rw [e]
            exact lq164 hC t0 hp hi hj d (k + 1) false (by omega)
          · refine ev_iconst (v := nI 1) i164_89 (by decide) ?_
            refine ev_goto (t := 94) i164_90 (by decide) ?_
            refine ev_istore (L' := [some (.ref 111), some (.int (nI i)), some (.int (nI j)), some (.int (oM n sd kd s m i j)), some (.int (nI 1)), some (.int (nI k))]) i164_94 ⟨Nat.le_of_ble_eq_true rfl, rfl⟩ rfl ?_
            refine evn_iinc (d := 1) (L' := [some (.ref 111), some (.int (nI i)), some (.int (nI j)), some (.int (oM n sd kd s m i j)), some (.int (nI 1)), some (.int (nI (k + 1)))]) i164_96 rfl rfl (by decide) rfl ?_
            refine ev_goto (t := 28) i164_99 (by decide) ?_
            have hp2 : (rmP n sd kd s m i j) k = false := by
              unfold rmP
              simp [z53, z70, z86]
            have e : (acc && !(anyB (rmP n sd kd s m i j) (d + 1) k)) = (true && !(anyB (rmP n sd kd s m i j) d (k + 1))) := by
              show (acc && !((rmP n sd kd s m i j) k || anyB (rmP n sd kd s m i j) d (k + 1))) = _
              rw [hp2]
              simp [z37]
            rw [e]
            exact lq164 hC t0 hp hi hj d (k + 1) true (by omega)
theorem c164 {tb : dxT} {H : dxH} {n : Nat} {f : Nat → Int32} {sed : Int64} {sd kd : Nat → Nat} {s : Sn} {g p : Nat → Int32} {m i j : Nat} (hC : MC H n f sed sd kd g) (t0 : H[124]? = some (.inl (0, 3721, .inl p))) (hp : ∀ a b, a < 61 → b < 61 → p (61 * a + b) = oM n sd kd s m a b) (hi : i < 61) (hj : j < 61) : Cl tb 164 [.ref 111, .int (nI i), .int (nI j)] H (Rt (.int (bI (rM n sd kd s m i j))) H) := by
  obtain ⟨c0, ⟨ms, mk, c1, c2, c3, c4⟩, c5⟩ := id hC
  unfold mOb at c0
  show Ev tb 164 0 [some (.ref 111), some (.int (nI i)), some (.int (nI j)), none, none, none] [] H _
  refine ev_aload_n i164_0 rfl ?_
  refine ev_get i164_1 ci164 fl8_47 (by assumption) rfl ?_
  refine ev_bipush (v := nI 61) i164_4 (by decide) ?_
  refine ev_iload_n i164_6 rfl ?_
  refine evn_imul i164_7 ?_
  refine ev_iload_n i164_8 rfl ?_
  refine evn_iadd i164_9 ?_
  refine ev_iald_n i164_10 (by assumption) (by omega) ?_
  rw [hp i j hi hj]
  refine ev_istore_n (L' := [some (.ref 111), some (.int (nI i)), some (.int (nI j)), some (.int (oM n sd kd s m i j)), none, none]) i164_11 ⟨Nat.le_of_ble_eq_true rfl, rfl⟩ rfl ?_
  refine ev_iload_n i164_12 rfl ?_
  refine ev_bipush (v := (-9)) i164_13 (by decide) ?_
  refine ev_icmp_eq (t := 22) i164_15 (by decide) (fun z15 => ?_) (fun z15 => ?_)
  · refine ev_iconst (v := nI 0) i164_22 (by decide) ?_
    refine ev_istore (L' := [some (.ref 111), some (.int (nI i)), some (.int (nI j)), some (.int (oM n sd kd s m i j)), some (.int (nI 0)), none]) i164_23 ⟨Nat.le_of_ble_eq_true rfl, rfl⟩ rfl ?_
    refine ev_iconst (v := nI 0) i164_25 (by decide) ?_
    refine ev_istore (L' := [some (.ref 111), some (.int (nI i)), some (.int (nI j)), some (.int (oM n sd kd s m i j)), some (.int (nI 0)), some (.int (nI 0))]) i164_26 ⟨Nat.le_of_ble_eq_true rfl, rfl⟩ rfl ?_
    have e : rM n sd kd s m i j = (false && !(anyB (rmP n sd kd s m i j) 61 0)) := by
      unfold rM
      simp [z15]
    rw [e]
    exact lq164 hC t0 hp hi hj 61 0 false (by omega)
  · refine ev_iconst (v := nI 1) i164_18 (by decide) ?_
    refine ev_goto (t := 23) i164_19 (by decide) ?_
    refine ev_istore (L' := [some (.ref 111), some (.int (nI i)), some (.int (nI j)), some (.int (oM n sd kd s m i j)), some (.int (nI 1)), none]) i164_23 ⟨Nat.le_of_ble_eq_true rfl, rfl⟩ rfl ?_
    refine ev_iconst (v := nI 0) i164_25 (by decide) ?_
    refine ev_istore (L' := [some (.ref 111), some (.int (nI i)), some (.int (nI j)), some (.int (oM n sd kd s m i j)), some (.int (nI 1)), some (.int (nI 0))]) i164_26 ⟨Nat.le_of_ble_eq_true rfl, rfl⟩ rfl ?_
    have e : rM n sd kd s m i j = (true && !(anyB (rmP n sd kd s m i j) 61 0)) := by
      unfold rM
      simp [z15]
    rw [e]
    exact lq164 hC t0 hp hi hj 61 0 true (by omega)
def pOK (n : Nat) (sd kd : Nat → Nat) (s : Sn) (m : Nat) (p : Nat → Int32) (a b : Nat) : Prop := ∀ a' b', a' < 61 → b' < 61 → (a' < a ∨ (a' = a ∧ b' < b)) → p (61 * a' + b') = oM n sd kd s m a' b'
theorem pOK.up {n : Nat} {sd kd : Nat → Nat} {s : Sn} {m : Nat} {p : Nat → Int32} {a b : Nat} {v : Int32} (h : pOK n sd kd s m p a b) (hb : b < 61) (hv : v = oM n sd kd s m a b) : pOK n sd kd s m (upd p (61 * a + b) v) a (b + 1) := fun a' b' h1 h2 h3 => by
  unfold upd
  by_cases q : 61 * a' + b' = 61 * a + b
  · have q1 : a' = a := by omega
    have q2 : b' = b := by omega
    rw [if_pos q, q1, q2, hv]
  · rw [if_neg q]
    exact h a' b' h1 h2 (by omega)
theorem lq163b {tb : dxT} {H : dxH} {n : Nat} {f : Nat → Int32} {sed : Int64} {sd kd : Nat → Nat} {s : Sn} {m a : Nat} {Q : Option Value → dxH → Prop} (b3 : n ≤ 6) (b4 : ∀ j, sd j < 2) (b5 : ∀ j, kd j < 4) (b6 : SnOK n s) (hm : m ≤ 8) (ha : a < 61) : ∀ (d b : Nat) (H1 : dxH) (g p : Nat → Int32), b + d = 61 → MC H1 n f sed sd kd g → LvS g 0 n s → H1[124]? = some (.inl (0, 3721, .inl p)) → pOK n sd kd s m p a b → Off (fun j => j = 114 ∨ j = 124) H H1 → (∀ H3 g3 p3 w4, MC H3 n f sed sd kd g3 → LvS g3 0 n s → H3[124]? = some (.inl (0, 3721, .inl p3)) → pOK n sd kd s m p3 a 61 → Off (fun j => j = 114 ∨ j = 124) H H3 → Ev tb 163 130 [some (.ref 111), some (.int (nI m)), some (.int (nI a)), some (.int (nI 61)), w4] [] H3 Q) → ∀ w4, Ev tb 163 10 [some (.ref 111), some (.int (nI m)), some (.int (nI a)), some (.int (nI b)), w4] [] H1 Q
  | 0, b, H1, g, p, hb, hC, hL, t0, hp, hO, hQ, w4 => by
    obtain rfl : b = 61 := by omega
    obtain ⟨c0, ⟨ms, mk, c1, c2, c3, c4⟩, c5⟩ := id hC
    unfold mOb at c0
    refine ev_iload_n i163_10 rfl ?_
    refine ev_bipush (v := nI 61) i163_11 (by decide) ?_
    refine evn_icmp_ge (t := 130) i163_13 (by decide) (by omega) (fun z13 => ?_) (fun z13 => by exfalso; omega)
    exact hQ H1 g p _ hC hL t0 hp hO
  | d + 1, b, H1, g, p, hb, hC, hL, t0, hp, hO, hQ, w4 => by
    obtain ⟨c0, ⟨ms, mk, c1, c2, c3, c4⟩, c5⟩ := id hC
    unfold mOb at c0
    refine ev_iload_n i163_10 rfl ?_
    refine ev_bipush (v := nI 61) i163_11 (by decide) ?_
    refine evn_icmp_ge (t := 130) i163_13 (by decide) (by omega) (fun z13 => by exfalso; omega) (fun z13 => ?_)
    refine ev_aload_n i163_16 rfl ?_
    refine ev_iconst (v := nI 0) i163_17 (by decide) ?_
    refine ev_iload_n i163_18 rfl ?_
    refine ev_callV (vs := [.int (nI 0), .int (nI a)]) (rest := []) i163_19 ci163 lk8_149 (congrArg (fun q => q + 1) np148) ci148 (by decide) (by decide +kernel) (Nat.le_of_ble_eq_true rfl) ⟨rfl, rfl, Nat.le_of_ble_eq_true rfl⟩ rfl (by assumption) (c148 hC b3 b4 hL b6.1 b5 (by omega) (by omega)) (fun r HH hq => ?_)
    obtain ⟨rfl, rfl⟩ := hq
    show Ev tb 163 22 [some (.ref 111), some (.int (nI m)), some (.int (nI a)), some (.int (nI b)), w4] [.int (bI (okM n sd s 0 a))] H1 _
    refine evb_if_eq (t := 38) i163_22 (by decide) (fun z22 => ?_) (fun z22 => ?_)
    · refine ev_iconst (v := nI 0) i163_38 (by decide) ?_
      refine ev_istore (L' := [some (.ref 111), some (.int (nI m)), some (.int (nI a)), some (.int (nI b)), some (.int (nI 0))]) i163_39 ⟨Nat.le_of_ble_eq_true rfl, rfl⟩ rfl ?_
      refine ev_iload i163_41 rfl ?_
      refine evn_if_eq (t := 73) i163_43 (by decide) (by omega) (fun z43 => ?_) (fun z43 => by exfalso; omega)
      refine ev_iconst (v := nI 0) i163_73 (by decide) ?_
      refine ev_istore (L' := [some (.ref 111), some (.int (nI m)), some (.int (nI a)), some (.int (nI b)), some (.int (nI 0))]) i163_74 ⟨Nat.le_of_ble_eq_true rfl, rfl⟩ rfl ?_
      refine ev_iload i163_76 rfl ?_
      refine evn_if_eq (t := 95) i163_78 (by decide) (by omega) (fun z78 => ?_) (fun z78 => by exfalso; omega)
      refine ev_aload_n i163_95 rfl ?_
      refine ev_get i163_96 ci163 fl8_47 (by assumption) rfl ?_
      refine ev_bipush (v := nI 61) i163_99 (by decide) ?_
      refine ev_iload_n i163_101 rfl ?_
      refine evn_imul i163_102 ?_
      refine ev_iload_n i163_103 rfl ?_
      refine evn_iadd i163_104 ?_
      refine ev_iload i163_105 rfl ?_
      refine evn_if_eq (t := 121) i163_107 (by decide) (by omega) (fun z107 => ?_) (fun z107 => by exfalso; omega)
      refine ev_bipush (v := (-9)) i163_121 (by decide) ?_
      skip
      refine evs_iastw i163_123 (by assumption) (by omega) (fun H2 hH2 => ?_)
      have c0 : H2[111]? = some (.inr (8, [.int (nI n), .ref 112, .ref 113, .ref 114, .ref 115, .ref 116, .ref 117, .int (f 0), .int (f 1), .int (f 2), .ref 118, .int (f 3), .int (f 4), .int (f 5), .int (f 6), .int (f 7), .ref 119, .ref 120, .int (f 8), .ref 121, .ref 122, .ref 123, .ref 124, .long sed, .ref 125, .ref 126])) := by rw [hH2]; exact set_ne c0 (by omega)
      have c1 : H2[112]? = some (.inl (0, 6, .inl ms)) := by rw [hH2]; exact set_ne c1 (by omega)
      have c3 : H2[113]? = some (.inl (0, 6, .inl mk)) := by rw [hH2]; exact set_ne c3 (by omega)
      have c5 : H2[114]? = some (.inl (0, 54, .inl g)) := by rw [hH2]; exact set_ne c5 (by omega)
      have t0 : H2[124]? = some (.inl (0, 3721, .inl (upd p ((61 * a) + b) (-9)))) := by rw [hH2]; exact set_self t0
      have hO : Off (fun j => j = 114 ∨ j = 124) H H2 := by rw [hH2]; exact hO.set (by first | exact Or.inl rfl | exact Or.inr rfl)
      refine evn_iinc (d := 1) (L' := [some (.ref 111), some (.int (nI m)), some (.int (nI a)), some (.int (nI (b + 1))), some (.int (nI 0))]) i163_124 rfl rfl (by decide) rfl ?_
      refine ev_goto (t := 10) i163_127 (by decide) ?_
      have hv : (-9) = oM n sd kd s m a b := by
        unfold oM
        rw [if_neg (by simp [z22])]
      exact lq163b b3 b4 b5 b6 hm ha d (b + 1) _ _ _ (by omega) ⟨c0, ⟨ms, mk, c1, c2, c3, c4⟩, c5⟩ hL t0 (hp.up (by omega) hv) hO hQ _
    · refine ev_aload_n i163_25 rfl ?_
      refine ev_iconst (v := nI 1) i163_26 (by decide) ?_
      refine ev_iload_n i163_27 rfl ?_
      refine ev_callV (vs := [.int (nI 1), .int (nI b)]) (rest := []) i163_28 ci163 lk8_149 (congrArg (fun q => q + 1) np148) ci148 (by decide) (by decide +kernel) (Nat.le_of_ble_eq_true rfl) ⟨rfl, rfl, Nat.le_of_ble_eq_true rfl⟩ rfl (by assumption) (c148 hC b3 b4 hL b6.1 b5 (by omega) (by omega)) (fun r HH hq => ?_)
      obtain ⟨rfl, rfl⟩ := hq
      show Ev tb 163 31 [some (.ref 111), some (.int (nI m)), some (.int (nI a)), some (.int (nI b)), w4] [.int (bI (okM n sd s 1 b))] H1 _
      refine evb_if_eq (t := 38) i163_31 (by decide) (fun z31 => ?_) (fun z31 => ?_)
      · refine ev_iconst (v := nI 0) i163_38 (by decide) ?_
        refine ev_istore (L' := [some (.ref 111), some (.int (nI m)), some (.int (nI a)), some (.int (nI b)), some (.int (nI 0))]) i163_39 ⟨Nat.le_of_ble_eq_true rfl, rfl⟩ rfl ?_
        refine ev_iload i163_41 rfl ?_
        refine evn_if_eq (t := 73) i163_43 (by decide) (by omega) (fun z43 => ?_) (fun z43 => by exfalso; omega)
        refine ev_iconst (v := nI 0) i163_73 (by decide) ?_
        refine ev_istore (L' := [some (.ref 111), some (.int (nI m)), some (.int (nI a)), some (.int (nI b)), some (.int (nI 0))]) i163_74 ⟨Nat.le_of_ble_eq_true rfl, rfl⟩ rfl ?_
        refine ev_iload i163_76 rfl ?_
        refine evn_if_eq (t := 95) i163_78 (by decide) (by omega) (fun z78 => ?_) (fun z78 => by exfalso; omega)
        refine ev_aload_n i163_95 rfl ?_
        refine ev_get i163_96 ci163 fl8_47 (by assumption) rfl ?_
        refine ev_bipush (v := nI 61) i163_99 (by decide) ?_
        refine ev_iload_n i163_101 rfl ?_
        refine evn_imul i163_102 ?_
        refine ev_iload_n i163_103 rfl ?_
        refine evn_iadd i163_104 ?_
        refine ev_iload i163_105 rfl ?_
        refine evn_if_eq (t := 121) i163_107 (by decide) (by omega) (fun z107 => ?_) (fun z107 => by exfalso; omega)
        refine ev_bipush (v := (-9)) i163_121 (by decide) ?_
        skip
        refine evs_iastw i163_123 (by assumption) (by omega) (fun H2 hH2 => ?_)
        have c0 : H2[111]? = some (.inr (8, [.int (nI n), .ref 112, .ref 113, .ref 114, .ref 115, .ref 116, .ref 117, .int (f 0), .int (f 1), .int (f 2), .ref 118, .int (f 3), .int (f 4), .int (f 5), .int (f 6), .int (f 7), .ref 119, .ref 120, .int (f 8), .ref 121, .ref 122, .ref 123, .ref 124, .long sed, .ref 125, .ref 126])) := by rw [hH2]; exact set_ne c0 (by omega)
        have c1 : H2[112]? = some (.inl (0, 6, .inl ms)) := by rw [hH2]; exact set_ne c1 (by omega)
        have c3 : H2[113]? = some (.inl (0, 6, .inl mk)) := by rw [hH2]; exact set_ne c3 (by omega)
        have c5 : H2[114]? = some (.inl (0, 54, .inl g)) := by rw [hH2]; exact set_ne c5 (by omega)
        have t0 : H2[124]? = some (.inl (0, 3721, .inl (upd p ((61 * a) + b) (-9)))) := by rw [hH2]; exact set_self t0
        have hO : Off (fun j => j = 114 ∨ j = 124) H H2 := by rw [hH2]; exact hO.set (by first | exact Or.inl rfl | exact Or.inr rfl)
        refine evn_iinc (d := 1) (L' := [some (.ref 111), some (.int (nI m)), some (.int (nI a)), some (.int (nI (b + 1))), some (.int (nI 0))]) i163_124 rfl rfl (by decide) rfl ?_
        refine ev_goto (t := 10) i163_127 (by decide) ?_
        have hv : (-9) = oM n sd kd s m a b := by
          unfold oM
          rw [if_neg (by simp [z31])]
        exact lq163b b3 b4 b5 b6 hm ha d (b + 1) _ _ _ (by omega) ⟨c0, ⟨ms, mk, c1, c2, c3, c4⟩, c5⟩ hL t0 (hp.up (by omega) hv) hO hQ _
      · refine ev_iconst (v := nI 1) i163_34 (by decide) ?_
        refine ev_goto (t := 39) i163_35 (by decide) ?_
        refine ev_istore (L' := [some (.ref 111), some (.int (nI m)), some (.int (nI a)), some (.int (nI b)), some (.int (nI 1))]) i163_39 ⟨Nat.le_of_ble_eq_true rfl, rfl⟩ rfl ?_
        refine ev_iload i163_41 rfl ?_
        refine evn_if_eq (t := 73) i163_43 (by decide) (by omega) (fun z43 => by exfalso; omega) (fun z43 => ?_)
        refine ev_iload_n i163_46 rfl ?_
        refine evn_if_eq (t := 69) i163_47 (by decide) (by omega) (fun z47 => ?_) (fun z47 => ?_)
        · refine ev_iconst (v := nI 1) i163_69 (by decide) ?_
          refine ev_goto (t := 74) i163_70 (by decide) ?_
          refine ev_istore (L' := [some (.ref 111), some (.int (nI m)), some (.int (nI a)), some (.int (nI b)), some (.int (nI 1))]) i163_74 ⟨Nat.le_of_ble_eq_true rfl, rfl⟩ rfl ?_
          refine ev_iload i163_76 rfl ?_
          refine evn_if_eq (t := 95) i163_78 (by decide) (by omega) (fun z78 => by exfalso; omega) (fun z78 => ?_)
          refine ev_aload_n i163_81 rfl ?_
          refine ev_callV (vs := []) (rest := []) i163_82 ci163 lk8_140 (congrArg (fun q => q + 1) np143) ci143 (by decide) (by decide +kernel) (Nat.le_of_ble_eq_true rfl) ⟨rfl, rfl, Nat.le_of_ble_eq_true rfl⟩ rfl (by assumption) (c143 b3 hC hL) (fun r H2 hq => ?_)
          obtain ⟨rfl, g2, hC, hL, hT, hO2⟩ := hq
          obtain ⟨c0, ⟨ms, mk, c1, c2, c3, c4⟩, c5⟩ := id hC
          unfold mOb at c0
          have t0 := hO2.at t0 (by decide)
          have hO := hO.trans hO2 (C := (fun j => j = 114 ∨ j = 124)) (fun _ q => q) (fun _ q => Or.inl q)
          show Ev tb 163 85 [some (.ref 111), some (.int (nI m)), some (.int (nI a)), some (.int (nI b)), some (.int (nI 1))] [] H2 _
          refine ev_aload_n i163_85 rfl ?_
          refine ev_iload_n i163_86 rfl ?_
          refine ev_callV (vs := [.int (nI a)]) (rest := []) i163_87 ci163 lk8_152 (congrArg (fun q => q + 1) np149) ci149 (by decide) (by decide +kernel) (Nat.le_of_ble_eq_true rfl) ⟨rfl, rfl, Nat.le_of_ble_eq_true rfl⟩ rfl (by assumption) (c149 b3 hC hT (by omega) (okM_ok z22)) (fun r H3 hq => ?_)
          obtain ⟨rfl, g3, hC, hT, hG3, hO3⟩ := hq
          have hL := hL.of0 b3 hG3
          obtain ⟨c0, ⟨ms, mk, c1, c2, c3, c4⟩, c5⟩ := id hC
          unfold mOb at c0
          have t0 := hO3.at t0 (by decide)
          have hO := hO.trans hO3 (C := (fun j => j = 114 ∨ j = 124)) (fun _ q => q) (fun _ q => Or.inl q)
          show Ev tb 163 90 [some (.ref 111), some (.int (nI m)), some (.int (nI a)), some (.int (nI b)), some (.int (nI 1))] [] H3 _
          refine ev_aload_n i163_90 rfl ?_
          refine ev_iload_n i163_91 rfl ?_
          refine ev_callV (vs := [.int (nI b)]) (rest := []) i163_92 ci163 lk8_152 (congrArg (fun q => q + 1) np149) ci149 (by decide) (by decide +kernel) (Nat.le_of_ble_eq_true rfl) ⟨rfl, rfl, Nat.le_of_ble_eq_true rfl⟩ rfl (by assumption) (c149 b3 hC hT (by omega) (okM_ok z31)) (fun r H4 hq => ?_)
          obtain ⟨rfl, g4, hC, hT, hG4, hO4⟩ := hq
          have hL := hL.of0 b3 hG4
          obtain ⟨c0, ⟨ms, mk, c1, c2, c3, c4⟩, c5⟩ := id hC
          unfold mOb at c0
          have t0 := hO4.at t0 (by decide)
          have hO := hO.trans hO4 (C := (fun j => j = 114 ∨ j = 124)) (fun _ q => q) (fun _ q => Or.inl q)
          show Ev tb 163 95 [some (.ref 111), some (.int (nI m)), some (.int (nI a)), some (.int (nI b)), some (.int (nI 1))] [] H4 _
          refine ev_aload_n i163_95 rfl ?_
          refine ev_get i163_96 ci163 fl8_47 (by assumption) rfl ?_
          refine ev_bipush (v := nI 61) i163_99 (by decide) ?_
          refine ev_iload_n i163_101 rfl ?_
          refine evn_imul i163_102 ?_
          refine ev_iload_n i163_103 rfl ?_
          refine evn_iadd i163_104 ?_
          refine ev_iload i163_105 rfl ?_
          refine evn_if_eq (t := 121) i163_107 (by decide) (by omega) (fun z107 => by exfalso; omega) (fun z107 => ?_)
          refine ev_aload_n i163_110 rfl ?_
          refine ev_iload_n i163_111 rfl ?_
          refine ev_bipush (v := nI 63) i163_112 (by decide) ?_
          refine ev_iconst (v := nI 0) i163_114 (by decide) ?_
          refine ev_callV (vs := [.int (nI m), .int (nI 63), .int (nI 0)]) (rest := [.int (nI ((61 * a) + b)), .ref 124]) i163_115 ci163 lk8_143 (congrArg (fun q => q + 1) np145) ci145 (by decide) (by decide +kernel) (Nat.le_of_ble_eq_true rfl) ⟨rfl, rfl, Nat.le_of_ble_eq_true rfl⟩ rfl (by assumption) (c145 b3 b4 b5 (mvC_lt (mvC_lt b6.1)) (by decide) (by decide) (by omega) hC hT b6.2.2.1) (fun r H5 hq => ?_)
          obtain ⟨rfl, g5, hC, hT, _, hG5, hO5⟩ := hq
          rw [and63 n (by omega)]
          have hL := hL.of0 b3 hG5
          obtain ⟨c0, ⟨ms, mk, c1, c2, c3, c4⟩, c5⟩ := id hC
          unfold mOb at c0
          have t0 := hO5.at t0 (by decide)
          have hO := hO.trans hO5 (C := (fun j => j = 114 ∨ j = 124)) (fun _ q => q) (fun _ q => Or.inl q)
          show Ev tb 163 118 [some (.ref 111), some (.int (nI m)), some (.int (nI a)), some (.int (nI b)), some (.int (nI 1))] [.int (nI (cntL (HE n) sd kd (mvC (mvC s.1 a) b) s.2.1 0 m s.2.2)), .int (nI ((61 * a) + b)), .ref 124] H5 _
          refine ev_goto (t := 123) i163_118 (by decide) ?_
          skip
          refine evs_iastw i163_123 (by assumption) (by omega) (fun H6 hH6 => ?_)
          have c0 : H6[111]? = some (.inr (8, [.int (nI n), .ref 112, .ref 113, .ref 114, .ref 115, .ref 116, .ref 117, .int (f 0), .int (f 1), .int (f 2), .ref 118, .int (f 3), .int (f 4), .int (f 5), .int (f 6), .int (f 7), .ref 119, .ref 120, .int (f 8), .ref 121, .ref 122, .ref 123, .ref 124, .long sed, .ref 125, .ref 126])) := by rw [hH6]; exact set_ne c0 (by omega)
          have c1 : H6[112]? = some (.inl (0, 6, .inl ms)) := by rw [hH6]; exact set_ne c1 (by omega)
          have c3 : H6[113]? = some (.inl (0, 6, .inl mk)) := by rw [hH6]; exact set_ne c3 (by omega)
          have c5 : H6[114]? = some (.inl (0, 54, .inl g5)) := by rw [hH6]; exact set_ne c5 (by omega)
          have t0 : H6[124]? = some (.inl (0, 3721, .inl (upd p ((61 * a) + b) (nI (cntL (HE n) sd kd (mvC (mvC s.1 a) b) s.2.1 0 m s.2.2))))) := by rw [hH6]; exact set_self t0
          have hO : Off (fun j => j = 114 ∨ j = 124) H H6 := by rw [hH6]; exact hO.set (by first | exact Or.inl rfl | exact Or.inr rfl)
          refine evn_iinc (d := 1) (L' := [some (.ref 111), some (.int (nI m)), some (.int (nI a)), some (.int (nI (b + 1))), some (.int (nI 1))]) i163_124 rfl rfl (by decide) rfl ?_
          refine ev_goto (t := 10) i163_127 (by decide) ?_
          have hv : (nI (cntL (HE n) sd kd (mvC (mvC s.1 a) b) s.2.1 0 m s.2.2)) = oM n sd kd s m a b := by
            unfold oM
            rw [if_pos ⟨z22, z31, by unfold toB; simp [z47]⟩]
          exact lq163b b3 b4 b5 b6 hm ha d (b + 1) _ _ _ (by omega) ⟨c0, ⟨ms, mk, c1, c2, c3, c4⟩, c5⟩ hL t0 (hp.up (by omega) hv) hO hQ _
        · refine ev_iload_n i163_50 rfl ?_
          refine evn_if_eq (t := 69) i163_51 (by decide) (by omega) (fun z51 => ?_) (fun z51 => ?_)
          · refine ev_iconst (v := nI 1) i163_69 (by decide) ?_
            refine ev_goto (t := 74) i163_70 (by decide) ?_
            refine ev_istore (L' := [some (.ref 111), some (.int (nI m)), some (.int (nI a)), some (.int (nI b)), some (.int (nI 1))]) i163_74 ⟨Nat.le_of_ble_eq_true rfl, rfl⟩ rfl ?_
            refine ev_iload i163_76 rfl ?_
            refine evn_if_eq (t := 95) i163_78 (by decide) (by omega) (fun z78 => by exfalso; omega) (fun z78 => ?_)
            refine ev_aload_n i163_81 rfl ?_
            refine ev_callV (vs := []) (rest := []) i163_82 ci163 lk8_140 (congrArg (fun q => q + 1) np143) ci143 (by decide) (by decide +kernel) (Nat.le_of_ble_eq_true rfl) ⟨rfl, rfl, Nat.le_of_ble_eq_true rfl⟩ rfl (by assumption) (c143 b3 hC hL) (fun r H2 hq => ?_)
            obtain ⟨rfl, g2, hC, hL, hT, hO2⟩ := hq
            obtain ⟨c0, ⟨ms, mk, c1, c2, c3, c4⟩, c5⟩ := id hC
            unfold mOb at c0
            have t0 := hO2.at t0 (by decide)
            have hO := hO.trans hO2 (C := (fun j => j = 114 ∨ j = 124)) (fun _ q => q) (fun _ q => Or.inl q)
            show Ev tb 163 85 [some (.ref 111), some (.int (nI m)), some (.int (nI a)), some (.int (nI b)), some (.int (nI 1))] [] H2 _
            refine ev_aload_n i163_85 rfl ?_
            refine ev_iload_n i163_86 rfl ?_
            refine ev_callV (vs := [.int (nI a)]) (rest := []) i163_87 ci163 lk8_152 (congrArg (fun q => q + 1) np149) ci149 (by decide) (by decide +kernel) (Nat.le_of_ble_eq_true rfl) ⟨rfl, rfl, Nat.le_of_ble_eq_true rfl⟩ rfl (by assumption) (c149 b3 hC hT (by omega) (okM_ok z22)) (fun r H3 hq => ?_)
            obtain ⟨rfl, g3, hC, hT, hG3, hO3⟩ := hq
            have hL := hL.of0 b3 hG3
            obtain ⟨c0, ⟨ms, mk, c1, c2, c3, c4⟩, c5⟩ := id hC
            unfold mOb at c0
            have t0 := hO3.at t0 (by decide)
            have hO := hO.trans hO3 (C := (fun j => j = 114 ∨ j = 124)) (fun _ q => q) (fun _ q => Or.inl q)
            show Ev tb 163 90 [some (.ref 111), some (.int (nI m)), some (.int (nI a)), some (.int (nI b)), some (.int (nI 1))] [] H3 _
            refine ev_aload_n i163_90 rfl ?_
            refine ev_iload_n i163_91 rfl ?_
            refine ev_callV (vs := [.int (nI b)]) (rest := []) i163_92 ci163 lk8_152 (congrArg (fun q => q + 1) np149) ci149 (by decide) (by decide +kernel) (Nat.le_of_ble_eq_true rfl) ⟨rfl, rfl, Nat.le_of_ble_eq_true rfl⟩ rfl (by assumption) (c149 b3 hC hT (by omega) (okM_ok z31)) (fun r H4 hq => ?_)
            obtain ⟨rfl, g4, hC, hT, hG4, hO4⟩ := hq
            have hL := hL.of0 b3 hG4
            obtain ⟨c0, ⟨ms, mk, c1, c2, c3, c4⟩, c5⟩ := id hC
            unfold mOb at c0
            have t0 := hO4.at t0 (by decide)
            have hO := hO.trans hO4 (C := (fun j => j = 114 ∨ j = 124)) (fun _ q => q) (fun _ q => Or.inl q)
            show Ev tb 163 95 [some (.ref 111), some (.int (nI m)), some (.int (nI a)), some (.int (nI b)), some (.int (nI 1))] [] H4 _
            refine ev_aload_n i163_95 rfl ?_
            refine ev_get i163_96 ci163 fl8_47 (by assumption) rfl ?_
            refine ev_bipush (v := nI 61) i163_99 (by decide) ?_
            refine ev_iload_n i163_101 rfl ?_
            refine evn_imul i163_102 ?_
            refine ev_iload_n i163_103 rfl ?_
            refine evn_iadd i163_104 ?_
            refine ev_iload i163_105 rfl ?_
            refine evn_if_eq (t := 121) i163_107 (by decide) (by omega) (fun z107 => by exfalso; omega) (fun z107 => ?_)
            refine ev_aload_n i163_110 rfl ?_
            refine ev_iload_n i163_111 rfl ?_
            refine ev_bipush (v := nI 63) i163_112 (by decide) ?_
            refine ev_iconst (v := nI 0) i163_114 (by decide) ?_
            refine ev_callV (vs := [.int (nI m), .int (nI 63), .int (nI 0)]) (rest := [.int (nI ((61 * a) + b)), .ref 124]) i163_115 ci163 lk8_143 (congrArg (fun q => q + 1) np145) ci145 (by decide) (by decide +kernel) (Nat.le_of_ble_eq_true rfl) ⟨rfl, rfl, Nat.le_of_ble_eq_true rfl⟩ rfl (by assumption) (c145 b3 b4 b5 (mvC_lt (mvC_lt b6.1)) (by decide) (by decide) (by omega) hC hT b6.2.2.1) (fun r H5 hq => ?_)
            obtain ⟨rfl, g5, hC, hT, _, hG5, hO5⟩ := hq
            rw [and63 n (by omega)]
            have hL := hL.of0 b3 hG5
            obtain ⟨c0, ⟨ms, mk, c1, c2, c3, c4⟩, c5⟩ := id hC
            unfold mOb at c0
            have t0 := hO5.at t0 (by decide)
            have hO := hO.trans hO5 (C := (fun j => j = 114 ∨ j = 124)) (fun _ q => q) (fun _ q => Or.inl q)
            show Ev tb 163 118 [some (.ref 111), some (.int (nI m)), some (.int (nI a)), some (.int (nI b)), some (.int (nI 1))] [.int (nI (cntL (HE n) sd kd (mvC (mvC s.1 a) b) s.2.1 0 m s.2.2)), .int (nI ((61 * a) + b)), .ref 124] H5 _
            refine ev_goto (t := 123) i163_118 (by decide) ?_
            skip
            refine evs_iastw i163_123 (by assumption) (by omega) (fun H6 hH6 => ?_)
            have c0 : H6[111]? = some (.inr (8, [.int (nI n), .ref 112, .ref 113, .ref 114, .ref 115, .ref 116, .ref 117, .int (f 0), .int (f 1), .int (f 2), .ref 118, .int (f 3), .int (f 4), .int (f 5), .int (f 6), .int (f 7), .ref 119, .ref 120, .int (f 8), .ref 121, .ref 122, .ref 123, .ref 124, .long sed, .ref 125, .ref 126])) := by rw [hH6]; exact set_ne c0 (by omega)
            have c1 : H6[112]? = some (.inl (0, 6, .inl ms)) := by rw [hH6]; exact set_ne c1 (by omega)
            have c3 : H6[113]? = some (.inl (0, 6, .inl mk)) := by rw [hH6]; exact set_ne c3 (by omega)
            have c5 : H6[114]? = some (.inl (0, 54, .inl g5)) := by rw [hH6]; exact set_ne c5 (by omega)
            have t0 : H6[124]? = some (.inl (0, 3721, .inl (upd p ((61 * a) + b) (nI (cntL (HE n) sd kd (mvC (mvC s.1 a) b) s.2.1 0 m s.2.2))))) := by rw [hH6]; exact set_self t0
            have hO : Off (fun j => j = 114 ∨ j = 124) H H6 := by rw [hH6]; exact hO.set (by first | exact Or.inl rfl | exact Or.inr rfl)
            refine evn_iinc (d := 1) (L' := [some (.ref 111), some (.int (nI m)), some (.int (nI a)), some (.int (nI (b + 1))), some (.int (nI 1))]) i163_124 rfl rfl (by decide) rfl ?_
            refine ev_goto (t := 10) i163_127 (by decide) ?_
            have hv : (nI (cntL (HE n) sd kd (mvC (mvC s.1 a) b) s.2.1 0 m s.2.2)) = oM n sd kd s m a b := by
              unfold oM
              rw [if_pos ⟨z22, z31, by unfold toB; simp [z47, z51]⟩]
            exact lq163b b3 b4 b5 b6 hm ha d (b + 1) _ _ _ (by omega) ⟨c0, ⟨ms, mk, c1, c2, c3, c4⟩, c5⟩ hL t0 (hp.up (by omega) hv) hO hQ _
          · refine ev_iload_n i163_54 rfl ?_
            refine ev_iconst (v := nI 1) i163_55 (by decide) ?_
            refine evn_isub i163_56 (by omega) ?_
            refine ev_bipush (v := nI 10) i163_57 (by decide) ?_
            refine evn_irem i163_59 (by first | omega | exact ⟨Nat.lt_of_le_of_lt (Nat.div_le_self _ _) (by omega), by decide, by decide⟩) ?_
            refine ev_iload_n i163_60 rfl ?_
            refine ev_iconst (v := nI 1) i163_61 (by decide) ?_
            refine evn_isub i163_62 (by omega) ?_
            refine ev_bipush (v := nI 10) i163_63 (by decide) ?_
            refine evn_irem i163_65 (by first | omega | exact ⟨Nat.lt_of_le_of_lt (Nat.div_le_self _ _) (by omega), by decide, by decide⟩) ?_
            refine evn_icmp_eq (t := 73) i163_66 (by decide) (by omega) (fun z66 => ?_) (fun z66 => ?_)
            · refine ev_iconst (v := nI 0) i163_73 (by decide) ?_
              refine ev_istore (L' := [some (.ref 111), some (.int (nI m)), some (.int (nI a)), some (.int (nI b)), some (.int (nI 0))]) i163_74 ⟨Nat.le_of_ble_eq_true rfl, rfl⟩ rfl ?_
              refine ev_iload i163_76 rfl ?_
              refine evn_if_eq (t := 95) i163_78 (by decide) (by omega) (fun z78 => ?_) (fun z78 => by exfalso; omega)
              refine ev_aload_n i163_95 rfl ?_
              refine ev_get i163_96 ci163 fl8_47 (by assumption) rfl ?_
              refine ev_bipush (v := nI 61) i163_99 (by decide) ?_
              refine ev_iload_n i163_101 rfl ?_
              refine evn_imul i163_102 ?_
              refine ev_iload_n i163_103 rfl ?_
              refine evn_iadd i163_104 ?_
              refine ev_iload i163_105 rfl ?_
              refine evn_if_eq (t := 121) i163_107 (by decide) (by omega) (fun z107 => ?_) (fun z107 => by exfalso; omega)
              refine ev_bipush (v := (-9)) i163_121 (by decide) ?_
              skip
              refine evs_iastw i163_123 (by assumption) (by omega) (fun H2 hH2 => ?_)
              have c0 : H2[111]? = some (.inr (8, [.int (nI n), .ref 112, .ref 113, .ref 114, .ref 115, .ref 116, .ref 117, .int (f 0), .int (f 1), .int (f 2), .ref 118, .int (f 3), .int (f 4), .int (f 5), .int (f 6), .int (f 7), .ref 119, .ref 120, .int (f 8), .ref 121, .ref 122, .ref 123, .ref 124, .long sed, .ref 125, .ref 126])) := by rw [hH2]; exact set_ne c0 (by omega)
              have c1 : H2[112]? = some (.inl (0, 6, .inl ms)) := by rw [hH2]; exact set_ne c1 (by omega)
              have c3 : H2[113]? = some (.inl (0, 6, .inl mk)) := by rw [hH2]; exact set_ne c3 (by omega)
              have c5 : H2[114]? = some (.inl (0, 54, .inl g)) := by rw [hH2]; exact set_ne c5 (by omega)
              have t0 : H2[124]? = some (.inl (0, 3721, .inl (upd p ((61 * a) + b) (-9)))) := by rw [hH2]; exact set_self t0
              have hO : Off (fun j => j = 114 ∨ j = 124) H H2 := by rw [hH2]; exact hO.set (by first | exact Or.inl rfl | exact Or.inr rfl)
              refine evn_iinc (d := 1) (L' := [some (.ref 111), some (.int (nI m)), some (.int (nI a)), some (.int (nI (b + 1))), some (.int (nI 0))]) i163_124 rfl rfl (by decide) rfl ?_
              refine ev_goto (t := 10) i163_127 (by decide) ?_
              have hv : (-9) = oM n sd kd s m a b := by
                unfold oM
                rw [if_neg (fun q => by have u := q.2.2; unfold toB at u; simp [z47, z51, z66] at u)]
              exact lq163b b3 b4 b5 b6 hm ha d (b + 1) _ _ _ (by omega) ⟨c0, ⟨ms, mk, c1, c2, c3, c4⟩, c5⟩ hL t0 (hp.up (by omega) hv) hO hQ _
            · refine ev_iconst (v := nI 1) i163_69 (by decide) ?_
              refine ev_goto (t := 74) i163_70 (by decide) ?_
              refine ev_istore (L' := [some (.ref 111), some (.int (nI m)), some (.int (nI a)), some (.int (nI b)), some (.int (nI 1))]) i163_74 ⟨Nat.le_of_ble_eq_true rfl, rfl⟩ rfl ?_
              refine ev_iload i163_76 rfl ?_
              refine evn_if_eq (t := 95) i163_78 (by decide) (by omega) (fun z78 => by exfalso; omega) (fun z78 => ?_)
              refine ev_aload_n i163_81 rfl ?_
              refine ev_callV (vs := []) (rest := []) i163_82 ci163 lk8_140 (congrArg (fun q => q + 1) np143) ci143 (by decide) (by decide +kernel) (Nat.le_of_ble_eq_true rfl) ⟨rfl, rfl, Nat.le_of_ble_eq_true rfl⟩ rfl (by assumption) (c143 b3 hC hL) (fun r H2 hq => ?_)
              obtain ⟨rfl, g2, hC, hL, hT, hO2⟩ := hq
              obtain ⟨c0, ⟨ms, mk, c1, c2, c3, c4⟩, c5⟩ := id hC
              unfold mOb at c0
              have t0 := hO2.at t0 (by decide)
              have hO := hO.trans hO2 (C := (fun j => j = 114 ∨ j = 124)) (fun _ q => q) (fun _ q => Or.inl q)
              show Ev tb 163 85 [some (.ref 111), some (.int (nI m)), some (.int (nI a)), some (.int (nI b)), some (.int (nI 1))] [] H2 _
              refine ev_aload_n i163_85 rfl ?_
              refine ev_iload_n i163_86 rfl ?_
              refine ev_callV (vs := [.int (nI a)]) (rest := []) i163_87 ci163 lk8_152 (congrArg (fun q => q + 1) np149) ci149 (by decide) (by decide +kernel) (Nat.le_of_ble_eq_true rfl) ⟨rfl, rfl, Nat.le_of_ble_eq_true rfl⟩ rfl (by assumption) (c149 b3 hC hT (by omega) (okM_ok z22)) (fun r H3 hq => ?_)
              obtain ⟨rfl, g3, hC, hT, hG3, hO3⟩ := hq
              have hL := hL.of0 b3 hG3
              obtain ⟨c0, ⟨ms, mk, c1, c2, c3, c4⟩, c5⟩ := id hC
              unfold mOb at c0
              have t0 := hO3.at t0 (by decide)
              have hO := hO.trans hO3 (C := (fun j => j = 114 ∨ j = 124)) (fun _ q => q) (fun _ q => Or.inl q)
              show Ev tb 163 90 [some (.ref 111), some (.int (nI m)), some (.int (nI a)), some (.int (nI b)), some (.int (nI 1))] [] H3 _
              refine ev_aload_n i163_90 rfl ?_
              refine ev_iload_n i163_91 rfl ?_
              refine ev_callV (vs := [.int (nI b)]) (rest := []) i163_92 ci163 lk8_152 (congrArg (fun q => q + 1) np149) ci149 (by decide) (by decide +kernel) (Nat.le_of_ble_eq_true rfl) ⟨rfl, rfl, Nat.le_of_ble_eq_true rfl⟩ rfl (by assumption) (c149 b3 hC hT (by omega) (okM_ok z31)) (fun r H4 hq => ?_)
              obtain ⟨rfl, g4, hC, hT, hG4, hO4⟩ := hq
              have hL := hL.of0 b3 hG4
              obtain ⟨c0, ⟨ms, mk, c1, c2, c3, c4⟩, c5⟩ := id hC
              unfold mOb at c0
              have t0 := hO4.at t0 (by decide)
              have hO := hO.trans hO4 (C := (fun j => j = 114 ∨ j = 124)) (fun _ q => q) (fun _ q => Or.inl q)
              show Ev tb 163 95 [some (.ref 111), some (.int (nI m)), some (.int (nI a)), some (.int (nI b)), some (.int (nI 1))] [] H4 _
              refine ev_aload_n i163_95 rfl ?_
              refine ev_get i163_96 ci163 fl8_47 (by assumption) rfl ?_
              refine ev_bipush (v := nI 61) i163_99 (by decide) ?_
              refine ev_iload_n i163_101 rfl ?_
              refine evn_imul i163_102 ?_
              refine ev_iload_n i163_103 rfl ?_
              refine evn_iadd i163_104 ?_
              refine ev_iload i163_105 rfl ?_
              refine evn_if_eq (t := 121) i163_107 (by decide) (by omega) (fun z107 => by exfalso; omega) (fun z107 => ?_)
              refine ev_aload_n i163_110 rfl ?_
              refine ev_iload_n i163_111 rfl ?_
              refine ev_bipush (v := nI 63) i163_112 (by decide) ?_
              refine ev_iconst (v := nI 0) i163_114 (by decide) ?_
              refine ev_callV (vs := [.int (nI m), .int (nI 63), .int (nI 0)]) (rest := [.int (nI ((61 * a) + b)), .ref 124]) i163_115 ci163 lk8_143 (congrArg (fun q => q + 1) np145) ci145 (by decide) (by decide +kernel) (Nat.le_of_ble_eq_true rfl) ⟨rfl, rfl, Nat.le_of_ble_eq_true rfl⟩ rfl (by assumption) (c145 b3 b4 b5 (mvC_lt (mvC_lt b6.1)) (by decide) (by decide) (by omega) hC hT b6.2.2.1) (fun r H5 hq => ?_)
              obtain ⟨rfl, g5, hC, hT, _, hG5, hO5⟩ := hq
              rw [and63 n (by omega)]
              have hL := hL.of0 b3 hG5
              obtain ⟨c0, ⟨ms, mk, c1, c2, c3, c4⟩, c5⟩ := id hC
              unfold mOb at c0
              have t0 := hO5.at t0 (by decide)
              have hO := hO.trans hO5 (C := (fun j => j = 114 ∨ j = 124)) (fun _ q => q) (fun _ q => Or.inl q)
              show Ev tb 163 118 [some (.ref 111), some (.int (nI m)), some (.int (nI a)), some (.int (nI b)), some (.int (nI 1))] [.int (nI (cntL (HE n) sd kd (mvC (mvC s.1 a) b) s.2.1 0 m s.2.2)), .int (nI ((61 * a) + b)), .ref 124] H5 _
              refine ev_goto (t := 123) i163_118 (by decide) ?_
              skip
              refine evs_iastw i163_123 (by assumption) (by omega) (fun H6 hH6 => ?_)
              have c0 : H6[111]? = some (.inr (8, [.int (nI n), .ref 112, .ref 113, .ref 114, .ref 115, .ref 116, .ref 117, .int (f 0), .int (f 1), .int (f 2), .ref 118, .int (f 3), .int (f 4), .int (f 5), .int (f 6), .int (f 7), .ref 119, .ref 120, .int (f 8), .ref 121, .ref 122, .ref 123, .ref 124, .long sed, .ref 125, .ref 126])) := by rw [hH6]; exact set_ne c0 (by omega)
              have c1 : H6[112]? = some (.inl (0, 6, .inl ms)) := by rw [hH6]; exact set_ne c1 (by omega)
              have c3 : H6[113]? = some (.inl (0, 6, .inl mk)) := by rw [hH6]; exact set_ne c3 (by omega)
              have c5 : H6[114]? = some (.inl (0, 54, .inl g5)) := by rw [hH6]; exact set_ne c5 (by omega)
              have t0 : H6[124]? = some (.inl (0, 3721, .inl (upd p ((61 * a) + b) (nI (cntL (HE n) sd kd (mvC (mvC s.1 a) b) s.2.1 0 m s.2.2))))) := by rw [hH6]; exact set_self t0
              have hO : Off (fun j => j = 114 ∨ j = 124) H H6 := by rw [hH6]; exact hO.set (by first | exact Or.inl rfl | exact Or.inr rfl)
              refine evn_iinc (d := 1) (L' := [some (.ref 111), some (.int (nI m)), some (.int (nI a)), some (.int (nI (b + 1))), some (.int (nI 1))]) i163_124 rfl rfl (by decide) rfl ?_
              refine ev_goto (t := 10) i163_127 (by decide) ?_
              have hv : (nI (cntL (HE n) sd kd (mvC (mvC s.1 a) b) s.2.1 0 m s.2.2)) = oM n sd kd s m a b := by
                unfold oM
                rw [if_pos ⟨z22, z31, by unfold toB; simp [z47, z51, z66]⟩]
              exact lq163b b3 b4 b5 b6 hm ha d (b + 1) _ _ _ (by omega) ⟨c0, ⟨ms, mk, c1, c2, c3, c4⟩, c5⟩ hL t0 (hp.up (by omega) hv) hO hQ _
theorem lq163 {tb : dxT} {H : dxH} {n : Nat} {f : Nat → Int32} {sed : Int64} {sd kd : Nat → Nat} {s : Sn} {m : Nat} {Q : Option Value → dxH → Prop} (b3 : n ≤ 6) (b4 : ∀ j, sd j < 2) (b5 : ∀ j, kd j < 4) (b6 : SnOK n s) (hm : m ≤ 8) : ∀ (d a : Nat) (H1 : dxH) (g p : Nat → Int32), a + d = 61 → MC H1 n f sed sd kd g → LvS g 0 n s → H1[124]? = some (.inl (0, 3721, .inl p)) → pOK n sd kd s m p a 0 → Off (fun j => j = 114 ∨ j = 124) H H1 → (∀ H3 g3 p3, MC H3 n f sed sd kd g3 → LvS g3 0 n s → H3[124]? = some (.inl (0, 3721, .inl p3)) → pOK n sd kd s m p3 61 0 → Off (fun j => j = 114 ∨ j = 124) H H3 → Q none H3) → ∀ w3 w4, Ev tb 163 2 [some (.ref 111), some (.int (nI m)), some (.int (nI a)), w3, w4] [] H1 Q
  | 0, a, H1, g, p, ha, hC, hL, t0, hp, hO, hQ, w3, w4 => by
    obtain rfl : a = 61 := by omega
    obtain ⟨c0, ⟨ms, mk, c1, c2, c3, c4⟩, c5⟩ := id hC
    unfold mOb at c0
    refine ev_iload_n i163_2 rfl ?_
    refine ev_bipush (v := nI 61) i163_3 (by decide) ?_
    refine evn_icmp_ge (t := 136) i163_5 (by decide) (by omega) (fun z5 => ?_) (fun z5 => by exfalso; omega)
    refine ev_vret i163_136 (by decide +kernel) ?_
    exact hQ H1 g p hC hL t0 hp hO
  | d + 1, a, H1, g, p, ha, hC, hL, t0, hp, hO, hQ, w3, w4 => by
    obtain ⟨c0, ⟨ms, mk, c1, c2, c3, c4⟩, c5⟩ := id hC
    unfold mOb at c0
    refine ev_iload_n i163_2 rfl ?_
    refine ev_bipush (v := nI 61) i163_3 (by decide) ?_
    refine evn_icmp_ge (t := 136) i163_5 (by decide) (by omega) (fun z5 => by exfalso; omega) (fun z5 => ?_)
    refine ev_iconst (v := nI 0) i163_8 (by decide) ?_
    refine ev_istore_n (L' := [some (.ref 111), some (.int (nI m)), some (.int (nI a)), some (.int (nI 0)), w4]) i163_9 ⟨Nat.le_of_ble_eq_true rfl, rfl⟩ rfl ?_
    refine lq163b b3 b4 b5 b6 hm (by omega) 61 0 H1 g p (by omega) hC hL t0 hp hO (fun H3 g3 p3 w4 hC3 hL3 t3 hp3 hO3 => ?_) _
    refine evn_iinc (d := 1) (L' := [some (.ref 111), some (.int (nI m)), some (.int (nI (a + 1))), some (.int (nI 61)), w4]) i163_130 rfl rfl (by decide) rfl ?_
    refine ev_goto (t := 2) i163_133 (by decide) ?_
    exact lq163 b3 b4 b5 b6 hm d (a + 1) H3 g3 p3 (by omega) hC3 hL3 t3 (fun a1 b1 u1 u2 u3 => hp3 a1 b1 u1 u2 (by omega)) hO3 hQ _ _
theorem c163 {tb : dxT} {H : dxH} {n : Nat} {f : Nat → Int32} {sed : Int64} {sd kd : Nat → Nat} {s : Sn} {g p : Nat → Int32} {m : Nat} (b3 : n ≤ 6) (b4 : ∀ j, sd j < 2) (b5 : ∀ j, kd j < 4) (b6 : SnOK n s) (hm : m ≤ 8) (hC : MC H n f sed sd kd g) (hL : LvS g 0 n s) (t0 : H[124]? = some (.inl (0, 3721, .inl p))) : Cl tb 163 [.ref 111, .int (nI m)] H (fun r H' => r = none ∧ ∃ g' p', MC H' n f sed sd kd g' ∧ LvS g' 0 n s ∧ H'[124]? = some (.inl (0, 3721, .inl p')) ∧ (∀ a b, a < 61 → b < 61 → p' (61 * a + b) = oM n sd kd s m a b) ∧ Off (fun j => j = 114 ∨ j = 124) H H') := by
  show Ev tb 163 0 [some (.ref 111), some (.int (nI m)), none, none, none] [] H _
  refine ev_iconst (v := nI 0) i163_0 (by decide) ?_
  refine ev_istore_n (L' := [some (.ref 111), some (.int (nI m)), some (.int (nI 0)), none, none]) i163_1 ⟨Nat.le_of_ble_eq_true rfl, rfl⟩ rfl ?_
  exact lq163 b3 b4 b5 b6 hm 61 0 H g p (by omega) hC hL t0 (fun a1 b1 u1 u2 u3 => by omega) Off.rf (fun H3 g3 p3 hC3 hL3 t3 hp3 hO3 => ⟨rfl, g3, p3, hC3, hL3, t3, fun a1 b1 u1 u2 => hp3 a1 b1 u1 u2 (Or.inl u1), hO3⟩) _ _
theorem lq165j {tb : dxT} {H : dxH} {n : Nat} {f : Nat → Int32} {sed : Int64} {sd kd : Nat → Nat} {s : Sn} {g p : Nat → Int32} {m v i : Nat} {Q : Option Value → dxH → Prop} (hC : MC H n f sed sd kd g) (t0 : H[124]? = some (.inl (0, 3721, .inl p))) (hp : ∀ a b, a < 61 → b < 61 → p (61 * a + b) = oM n sd kd s m a b) (hi : i < 61) : ∀ (d j : Nat) (pp : Nat × Int32), j + d = 61 → pp.1 ≤ 61 * i + j → (pp.1 = 0 ↔ pp.2 = -9) → ((upto (stM n sd kd s m i) d j pp).1 ≤ 61 * i + 61 → ((upto (stM n sd kd s m i) d j pp).1 = 0 ↔ (upto (stM n sd kd s m i) d j pp).2 = -9) → Ev tb 165 96 [some (.ref 111), some (.int (nI m)), some (.int (nI v)), some (.int (nI ((upto (stM n sd kd s m i) d j pp).1))), some (.int ((upto (stM n sd kd s m i) d j pp).2)), some (.int (nI i)), some (.int (nI 61))] [] H Q) → Ev tb 165 49 [some (.ref 111), some (.int (nI m)), some (.int (nI v)), some (.int (nI pp.1)), some (.int pp.2), some (.int (nI i)), some (.int (nI j))] [] H Q
  | 0, j, pp, hj, h1, h2, hQ => by
    obtain rfl : j = 61 := by omega
    obtain ⟨c0, ⟨ms, mk, c1, c2, c3, c4⟩, c5⟩ := id hC
    unfold mOb at c0
    refine ev_iload i165_49 rfl ?_
    refine ev_bipush (v := nI 61) i165_51 (by decide) ?_
    refine evn_icmp_ge (t := 96) i165_53 (by decide) (by omega) (fun z53 => ?_) (fun z53 => by exfalso; omega)
    exact hQ h1 h2
  | d + 1, j, pp, hj, h1, h2, hQ => by
    obtain ⟨c0, ⟨ms, mk, c1, c2, c3, c4⟩, c5⟩ := id hC
    unfold mOb at c0
    refine ev_iload i165_49 rfl ?_
    refine ev_bipush (v := nI 61) i165_51 (by decide) ?_
    refine evn_icmp_ge (t := 96) i165_53 (by decide) (by omega) (fun z53 => by exfalso; omega) (fun z53 => ?_)
    refine ev_aload_n i165_56 rfl ?_
    refine ev_iload i165_57 rfl ?_
    refine ev_iload i165_59 rfl ?_
    refine ev_callV (vs := [.int (nI i), .int (nI j)]) (rest := []) i165_61 ci165 lk8_183 (congrArg (fun q => q + 1) np164) ci164 (by decide) (by decide +kernel) (Nat.le_of_ble_eq_true rfl) ⟨rfl, rfl, Nat.le_of_ble_eq_true rfl⟩ rfl (by assumption) (c164 hC t0 hp hi (by omega)) (fun r HH hq => ?_)
    obtain ⟨rfl, rfl⟩ := hq
    show Ev tb 165 64 [some (.ref 111), some (.int (nI m)), some (.int (nI v)), some (.int (nI pp.1)), some (.int pp.2), some (.int (nI i)), some (.int (nI j))] [.int (bI (rM n sd kd s m i j))] H _
    refine evb_if_eq (t := 90) i165_64 (by decide) (fun z64 => ?_) (fun z64 => ?_)
    · refine evn_iinc (d := 1) (L' := [some (.ref 111), some (.int (nI m)), some (.int (nI v)), some (.int (nI pp.1)), some (.int pp.2), some (.int (nI i)), some (.int (nI (j + 1)))]) i165_90 rfl rfl (by decide) rfl ?_
      refine ev_goto (t := 49) i165_93 (by decide) ?_
      have e : stM n sd kd s m i j pp = pp := by
        unfold stM
        exact if_neg (by simp [z64])
      have e2 : upto (stM n sd kd s m i) (d + 1) j pp = upto (stM n sd kd s m i) d (j + 1) (stM n sd kd s m i j pp) := rfl
      rw [e2, e] at hQ
      exact lq165j hC t0 hp hi d (j + 1) pp (by omega) (by omega) h2 hQ
    · refine ev_iload_n i165_67 rfl ?_
      refine evn_if_ne (t := 83) i165_68 (by decide) (by omega) (fun z68 => ?_) (fun z68 => ?_)
      · refine ev_iload i165_83 rfl ?_
        refine ev_istore (L' := [some (.ref 111), some (.int (nI m)), some (.int (nI v)), some (.int (nI pp.1)), some (.int pp.2), some (.int (nI i)), some (.int (nI j))]) i165_85 ⟨Nat.le_of_ble_eq_true rfl, rfl⟩ rfl ?_
        refine evn_iinc (d := 1) (L' := [some (.ref 111), some (.int (nI m)), some (.int (nI v)), some (.int (nI (pp.1 + 1))), some (.int pp.2), some (.int (nI i)), some (.int (nI j))]) i165_87 rfl rfl (by decide) rfl ?_
        refine evn_iinc (d := 1) (L' := [some (.ref 111), some (.int (nI m)), some (.int (nI v)), some (.int (nI (pp.1 + 1))), some (.int pp.2), some (.int (nI i)), some (.int (nI (j + 1)))]) i165_90 rfl rfl (by decide) rfl ?_
        refine ev_goto (t := 49) i165_93 (by decide) ?_
        have hn9 : ∀ N, N < 100000 → ¬ nI N = -9 := fun N hN q => by
          have := congrArg Int32.toInt q
          rw [nI_toInt (by omega), show (-9 : Int32).toInt = -9 from rfl] at this
          omega
        have e : stM n sd kd s m i j pp = (pp.1 + 1, pp.2) := by
          unfold stM
          rw [if_pos z64, if_neg (fun q => z68 (h2.mpr q))]
        have e2 : upto (stM n sd kd s m i) (d + 1) j pp = upto (stM n sd kd s m i) d (j + 1) (stM n sd kd s m i j pp) := rfl
        rw [e2, e] at hQ
        exact lq165j hC t0 hp hi d (j + 1) (pp.1 + 1, pp.2) (by omega) (by show pp.1 + 1 ≤ _; omega) ⟨fun q => by exact absurd q (Nat.succ_ne_zero _), fun q => by exact absurd (h2.mpr q) z68⟩ hQ
      · refine ev_sipush (v := nI 1000) i165_71 (by decide) ?_
        refine ev_iload i165_74 rfl ?_
        refine evn_imul i165_76 ?_
        refine ev_iload i165_77 rfl ?_
        refine evn_iadd i165_79 ?_
        skip
        refine ev_goto (t := 85) i165_80 (by decide) ?_
        refine ev_istore (L' := [some (.ref 111), some (.int (nI m)), some (.int (nI v)), some (.int (nI pp.1)), some (.int (nI ((1000 * i) + j))), some (.int (nI i)), some (.int (nI j))]) i165_85 ⟨Nat.le_of_ble_eq_true rfl, rfl⟩ rfl ?_
        refine evn_iinc (d := 1) (L' := [some (.ref 111), some (.int (nI m)), some (.int (nI v)), some (.int (nI (pp.1 + 1))), some (.int (nI ((1000 * i) + j))), some (.int (nI i)), some (.int (nI j))]) i165_87 rfl rfl (by decide) rfl ?_
        refine evn_iinc (d := 1) (L' := [some (.ref 111), some (.int (nI m)), some (.int (nI v)), some (.int (nI (pp.1 + 1))), some (.int (nI ((1000 * i) + j))), some (.int (nI i)), some (.int (nI (j + 1)))]) i165_90 rfl rfl (by decide) rfl ?_
        refine ev_goto (t := 49) i165_93 (by decide) ?_
        have hn9 : ∀ N, N < 100000 → ¬ nI N = -9 := fun N hN q => by
          have := congrArg Int32.toInt q
          rw [nI_toInt (by omega), show (-9 : Int32).toInt = -9 from rfl] at this
          omega
        have e : stM n sd kd s m i j pp = (pp.1 + 1, nI (1000 * i + j)) := by
          unfold stM
          rw [if_pos z64, if_pos (h2.mp z68)]
        have e2 : upto (stM n sd kd s m i) (d + 1) j pp = upto (stM n sd kd s m i) d (j + 1) (stM n sd kd s m i j pp) := rfl
        rw [e2, e] at hQ
        exact lq165j hC t0 hp hi d (j + 1) (pp.1 + 1, nI (1000 * i + j)) (by omega) (by show pp.1 + 1 ≤ _; omega) ⟨fun q => by exact absurd q (Nat.succ_ne_zero _), fun q => by exact absurd q (hn9 _ (by omega))⟩ hQ
theorem lq165 {tb : dxT} {H : dxH} {n : Nat} {f : Nat → Int32} {sed : Int64} {sd kd : Nat → Nat} {s : Sn} {g p : Nat → Int32} {m v : Nat} (hv : v ≤ 1) (hC : MC H n f sed sd kd g) (t0 : H[124]? = some (.inl (0, 3721, .inl p))) (hp : ∀ a b, a < 61 → b < 61 → p (61 * a + b) = oM n sd kd s m a b) : ∀ (d i : Nat) (pp : Nat × Int32), i + d = 61 → pp.1 ≤ 61 * i → (pp.1 = 0 ↔ pp.2 = -9) → ∀ w6, Ev tb 165 39 [some (.ref 111), some (.int (nI m)), some (.int (nI v)), some (.int (nI pp.1)), some (.int pp.2), some (.int (nI i)), w6] [] H (Rt (.int (if v = 0 then nI (upto (fun a q => upto (stM n sd kd s m a) 61 0 q) d i pp).1 else (upto (fun a q => upto (stM n sd kd s m a) 61 0 q) d i pp).2)) H)
  | 0, i, pp, hi, h1, h2, w6 => by
    obtain rfl : i = 61 := by omega
    obtain ⟨c0, ⟨ms, mk, c1, c2, c3, c4⟩, c5⟩ := id hC
    unfold mOb at c0
    refine ev_iload i165_39 rfl ?_
    refine ev_bipush (v := nI 61) i165_41 (by decide) ?_
    refine evn_icmp_ge (t := 102) i165_43 (by decide) (by omega) (fun z43 => ?_) (fun z43 => by exfalso; omega)
    refine ev_iload_n i165_102 rfl ?_
    refine evn_if_ne (t := 110) i165_103 (by decide) (by omega) (fun z103 => ?_) (fun z103 => ?_)
    · refine ev_iload i165_110 rfl ?_
      refine ev_iret i165_112 (by decide +kernel) ?_
      show some _ = some (Value.int (if v = 0 then nI pp.1 else pp.2)) ∧ _
      rw [if_neg z103]
      exact ⟨rfl, rfl⟩
    · refine ev_iload_n i165_106 rfl ?_
      refine ev_goto (t := 112) i165_107 (by decide) ?_
      refine ev_iret i165_112 (by decide +kernel) ?_
      show some _ = some (Value.int (if v = 0 then nI pp.1 else pp.2)) ∧ _
      rw [if_pos z103]
      exact ⟨rfl, rfl⟩
  | d + 1, i, pp, hi, h1, h2, w6 => by
    obtain ⟨c0, ⟨ms, mk, c1, c2, c3, c4⟩, c5⟩ := id hC
    unfold mOb at c0
    refine ev_iload i165_39 rfl ?_
    refine ev_bipush (v := nI 61) i165_41 (by decide) ?_
    refine evn_icmp_ge (t := 102) i165_43 (by decide) (by omega) (fun z43 => by exfalso; omega) (fun z43 => ?_)
    refine ev_iconst (v := nI 0) i165_46 (by decide) ?_
    refine ev_istore (L' := [some (.ref 111), some (.int (nI m)), some (.int (nI v)), some (.int (nI pp.1)), some (.int pp.2), some (.int (nI i)), some (.int (nI 0))]) i165_47 ⟨Nat.le_of_ble_eq_true rfl, rfl⟩ rfl ?_
    refine lq165j hC t0 hp (by omega) 61 0 pp (by omega) (by omega) h2 (fun u1 u2 => ?_)
    refine evn_iinc (d := 1) (L' := [some (.ref 111), some (.int (nI m)), some (.int (nI v)), some (.int (nI ((upto (stM n sd kd s m i) 61 0 pp).1))), some (.int ((upto (stM n sd kd s m i) 61 0 pp).2)), some (.int (nI (i + 1))), some (.int (nI 61))]) i165_96 rfl rfl (by decide) rfl ?_
    refine ev_goto (t := 39) i165_99 (by decide) ?_
    exact lq165 hv hC t0 hp d (i + 1) (upto (stM n sd kd s m i) 61 0 pp) (by omega) (by omega) u2 _
theorem MRest.ons {H H' : dxH} {tx : Nat → Nat} {ln n am nx : Nat} {stk : Nat → Sn} {kp : Nat → Bool} {ks : Nat → Sn} {tm : Nat} {tc th : Nat → Nat} {td : Nat → Bool} {A : Nat → Prop} (h : MRest H tx ln n am nx stk kp ks tm tc th td) (hO : Off A H H') (hA : ∀ j, 115 ≤ j → j ≤ 126 → j ≠ 124 → ¬ A j) (ht : ∃ q, H'[124]? = some (.inl (0, 3721, .inl q))) : MRest H' tx ln n am nx stk kp ks tm tc th td := by
  obtain ⟨⟨rw, h1, h2⟩, ⟨mt, h3, h4⟩, ⟨a, b, c, h5, h6, h7, h8⟩, ⟨kq, kg, h9, i1, i2, i3⟩, ⟨q1, i4⟩, ⟨q2, i5⟩, ⟨q3, i6⟩, ⟨q4, i7⟩, _⟩ := h
  have o : ∀ (j : Nat) (e : dxE), 115 ≤ j → j ≤ 126 → j ≠ 124 → H[j]? = some e → H'[j]? = some e := fun j e a b c hj => hO.at hj (hA j a b c)
  exact ⟨⟨rw, o _ _ (by decide) (by decide) (by decide) h1, h2⟩, ⟨mt, o _ _ (by decide) (by decide) (by decide) h3, h4⟩, ⟨a, b, c, o _ _ (by decide) (by decide) (by decide) h5, o _ _ (by decide) (by decide) (by decide) h6, o _ _ (by decide) (by decide) (by decide) h7, h8⟩, ⟨kq, kg, o _ _ (by decide) (by decide) (by decide) h9, i1, o _ _ (by decide) (by decide) (by decide) i2, i3⟩, ⟨q1, o _ _ (by decide) (by decide) (by decide) i4⟩, ⟨q2, o _ _ (by decide) (by decide) (by decide) i5⟩, ⟨q3, o _ _ (by decide) (by decide) (by decide) i6⟩, ⟨q4, o _ _ (by decide) (by decide) (by decide) i7⟩, ht⟩
theorem y165 {tb : dxT} {H : dxH} {tx : Nat → Nat} {ln n : Nat} {sd kd : Nat → Nat} {s : Sn} {am : Nat} {stk : Nat → Sn} {kp : Nat → Bool} {ks : Nat → Sn} {tm : Nat} {tc th : Nat → Nat} {td : Nat → Bool} {sed : Int64} {m v : Nat} (hI : MInv H tx ln n sd kd s am stk kp ks tm tc th td sed) (hS : SpOK tx ln n sd kd s am stk kp ks tm tc th) (hm1 : 1 ≤ m) (hm : m ≤ 8) (hv : v ≤ 1) : Cl tb 165 [.ref 111, .int (nI m), .int (nI v)] H (fun r H' => r = some (.int (if v = 0 then nI (rstP n sd kd s m).1 else (rstP n sd kd s m).2)) ∧ MInv H' tx ln n sd kd s am stk kp ks tm tc th td sed ∧ Off mC H H') := by
  obtain ⟨f, g, nx, ⟨hC, hL, e3, e6, e7, e8, hnx⟩, hR⟩ := id hI
  obtain ⟨⟨b1, b2⟩, b3, b4, b5, b6, b7, b8, b9, b10, b11⟩ := id hS
  obtain ⟨c0, ⟨ms, mk, c1, c2, c3, c4⟩, c5⟩ := id hC
  unfold mOb at c0
  rw [rst_mod b3 b6 hm]
  obtain ⟨_, _, _, _, _, _, _, _, p, t0⟩ := id hR
  show Ev tb 165 0 [some (.ref 111), some (.int (nI m)), some (.int (nI v)), none, none, none, none] [] H _
  refine ev_iload_n i165_0 rfl ?_
  refine ev_i2l i165_1 ?_
  refine ev_lconst (v := 1) i165_2 (by decide) ?_
  refine ev_ldc2 i165_3 ci165 ks8_138 ?_
  refine ev_callS (vs := [.long ((nI m).toInt64), .long 1, .long 8]) (rest := []) i165_6 ci165 lk8_62 (Or.inl rfl) np117 (by decide +kernel) (Nat.le_of_ble_eq_true rfl) ⟨rfl, rfl, Nat.le_of_ble_eq_true rfl⟩ rfl (c117) (fun r HH hq => ?_)
  obtain ⟨rfl, rfl⟩ := hq
  rw [inJ_M (x := (nI m)) (a := 1) (b := 8) (by decide) (by decide) (by decide) (by decide), show inM (nI m) 1 8 = true from ahd_n hm1 hm]
  show Ev tb 165 9 [some (.ref 111), some (.int (nI m)), some (.int (nI v)), none, none, none, none] [.int (bI true)] H _
  refine evb_if_eq (t := 22) i165_9 (by decide) (fun z9 => by exfalso; cases z9) (fun z9 => ?_)
  refine ev_iload_n i165_12 rfl ?_
  refine ev_i2l i165_13 ?_
  refine ev_lconst (v := 0) i165_14 (by decide) ?_
  refine ev_lconst (v := 1) i165_15 (by decide) ?_
  refine ev_callS (vs := [.long ((nI v).toInt64), .long 0, .long 1]) (rest := []) i165_16 ci165 lk8_62 (Or.inl rfl) np117 (by decide +kernel) (Nat.le_of_ble_eq_true rfl) ⟨rfl, rfl, Nat.le_of_ble_eq_true rfl⟩ rfl (c117) (fun r HH hq => ?_)
  obtain ⟨rfl, rfl⟩ := hq
  rw [inJ_R (x := nI v) (m := 2) (by decide) (by decide), inR_n (by omega) (by decide), decide_eq_true (show v < 2 by omega)]
  show Ev tb 165 19 [some (.ref 111), some (.int (nI m)), some (.int (nI v)), none, none, none, none] [.int (bI true)] H _
  refine evb_if_ne (t := 25) i165_19 (by decide) (fun z19 => ?_) (fun z19 => by exfalso; cases z19)
  refine ev_aload_n i165_25 rfl ?_
  refine ev_iload_n i165_26 rfl ?_
  refine ev_callV (vs := [.int (nI m)]) (rest := []) i165_27 ci165 lk8_180 (congrArg (fun q => q + 1) np163) ci163 (by decide) (by decide +kernel) (Nat.le_of_ble_eq_true rfl) ⟨rfl, rfl, Nat.le_of_ble_eq_true rfl⟩ rfl (by assumption) (c163 b3 b4 b5 b6 hm hC hL t0) (fun r H1 hq => ?_)
  obtain ⟨rfl, g1, p1, hC1, hL1, t1, hp1, hO1⟩ := hq
  obtain ⟨c0, ⟨ms, mk, c1, c2, c3, c4⟩, c5⟩ := id hC1
  unfold mOb at c0
  show Ev tb 165 30 [some (.ref 111), some (.int (nI m)), some (.int (nI v)), none, none, none, none] [] H1 _
  refine ev_iconst (v := nI 0) i165_30 (by decide) ?_
  refine ev_istore_n (L' := [some (.ref 111), some (.int (nI m)), some (.int (nI v)), some (.int (nI 0)), none, none, none]) i165_31 ⟨Nat.le_of_ble_eq_true rfl, rfl⟩ rfl ?_
  refine ev_bipush (v := (-9)) i165_32 (by decide) ?_
  refine ev_istore (L' := [some (.ref 111), some (.int (nI m)), some (.int (nI v)), some (.int (nI 0)), some (.int (-9)), none, none]) i165_34 ⟨Nat.le_of_ble_eq_true rfl, rfl⟩ rfl ?_
  refine ev_iconst (v := nI 0) i165_36 (by decide) ?_
  refine ev_istore (L' := [some (.ref 111), some (.int (nI m)), some (.int (nI v)), some (.int (nI 0)), some (.int (-9)), some (.int (nI 0)), none]) i165_37 ⟨Nat.le_of_ble_eq_true rfl, rfl⟩ rfl ?_
  refine (lq165 hv hC1 t1 hp1 61 0 (0, -9) (by omega) (by decide) ⟨fun _ => rfl, fun _ => rfl⟩ _).post (fun r H' hq2 => ?_)
  obtain ⟨rfl, rfl⟩ := hq2
  exact ⟨rfl, ⟨f, g1, nx, ⟨hC1, hL1, e3, e6, e7, e8, hnx⟩, hR.ons hO1 (fun j a b c => by omega) ⟨p1, t1⟩⟩, hO1.weaken (fun j q => by unfold mC; omega)⟩
theorem y165f {tb : dxT} {H : dxH} {tx : Nat → Nat} {ln n : Nat} {sd kd : Nat → Nat} {s : Sn} {am : Nat} {stk : Nat → Sn} {kp : Nat → Bool} {ks : Nat → Sn} {tm : Nat} {tc th : Nat → Nat} {td : Nat → Bool} {sed : Int64} {x y : Int32} (hI : MInv H tx ln n sd kd s am stk kp ks tm tc th td sed) (hS : SpOK tx ln n sd kd s am stk kp ks tm tc th) (h : ahdB x = false) : Cl tb 165 [.ref 111, .int x, .int y] H (fun r H' => r = some (.int (-2)) ∧ MInv H' tx ln n sd kd s am stk kp ks tm tc th td sed ∧ Off mC H H') := by
  obtain ⟨f, g, nx, ⟨hC, hL, e3, e6, e7, e8, hnx⟩, hR⟩ := id hI
  obtain ⟨⟨b1, b2⟩, b3, b4, b5, b6, b7, b8, b9, b10, b11⟩ := id hS
  obtain ⟨c0, ⟨ms, mk, c1, c2, c3, c4⟩, c5⟩ := id hC
  unfold mOb at c0
  show Ev tb 165 0 [some (.ref 111), some (.int x), some (.int y), none, none, none, none] [] H _
  refine ev_iload_n i165_0 rfl ?_
  refine ev_i2l i165_1 ?_
  refine ev_lconst (v := 1) i165_2 (by decide) ?_
  refine ev_ldc2 i165_3 ci165 ks8_138 ?_
  refine ev_callS (vs := [.long x.toInt64, .long 1, .long 8]) (rest := []) i165_6 ci165 lk8_62 (Or.inl rfl) np117 (by decide +kernel) (Nat.le_of_ble_eq_true rfl) ⟨rfl, rfl, Nat.le_of_ble_eq_true rfl⟩ rfl (c117) (fun r HH hq => ?_)
  obtain ⟨rfl, rfl⟩ := hq
  rw [inJ_M (x := x) (a := 1) (b := 8) (by decide) (by decide) (by decide) (by decide), show inM x 1 8 = false from h]
  show Ev tb 165 9 [some (.ref 111), some (.int x), some (.int y), none, none, none, none] [.int (bI false)] H _
  refine evb_if_eq (t := 22) i165_9 (by decide) (fun z9 => ?_) (fun z9 => by exfalso; cases z9)
  refine ev_bipush (v := (-2)) i165_22 (by decide) ?_
  refine ev_iret i165_24 (by decide +kernel) ?_
  exact ⟨rfl, hI, Off.rf⟩
theorem y165o {tb : dxT} {H : dxH} {tx : Nat → Nat} {ln n : Nat} {sd kd : Nat → Nat} {s : Sn} {am : Nat} {stk : Nat → Sn} {kp : Nat → Bool} {ks : Nat → Sn} {tm : Nat} {tc th : Nat → Nat} {td : Nat → Bool} {sed : Int64} {m : Nat} {y : Int32} (hI : MInv H tx ln n sd kd s am stk kp ks tm tc th td sed) (hS : SpOK tx ln n sd kd s am stk kp ks tm tc th) (hm1 : 1 ≤ m) (hm : m ≤ 8) (h : inR y 2 = false) : Cl tb 165 [.ref 111, .int (nI m), .int y] H (fun r H' => r = some (.int (-2)) ∧ MInv H' tx ln n sd kd s am stk kp ks tm tc th td sed ∧ Off mC H H') := by
  obtain ⟨f, g, nx, ⟨hC, hL, e3, e6, e7, e8, hnx⟩, hR⟩ := id hI
  obtain ⟨⟨b1, b2⟩, b3, b4, b5, b6, b7, b8, b9, b10, b11⟩ := id hS
  obtain ⟨c0, ⟨ms, mk, c1, c2, c3, c4⟩, c5⟩ := id hC
  unfold mOb at c0
  show Ev tb 165 0 [some (.ref 111), some (.int (nI m)), some (.int y), none, none, none, none] [] H _
  refine ev_iload_n i165_0 rfl ?_
  refine ev_i2l i165_1 ?_
  refine ev_lconst (v := 1) i165_2 (by decide) ?_
  refine ev_ldc2 i165_3 ci165 ks8_138 ?_
  refine ev_callS (vs := [.long ((nI m).toInt64), .long 1, .long 8]) (rest := []) i165_6 ci165 lk8_62 (Or.inl rfl) np117 (by decide +kernel) (Nat.le_of_ble_eq_true rfl) ⟨rfl, rfl, Nat.le_of_ble_eq_true rfl⟩ rfl (c117) (fun r HH hq => ?_)
  obtain ⟨rfl, rfl⟩ := hq
  rw [inJ_M (x := (nI m)) (a := 1) (b := 8) (by decide) (by decide) (by decide) (by decide), show inM (nI m) 1 8 = true from ahd_n hm1 hm]
  show Ev tb 165 9 [some (.ref 111), some (.int (nI m)), some (.int y), none, none, none, none] [.int (bI true)] H _
  refine evb_if_eq (t := 22) i165_9 (by decide) (fun z9 => by exfalso; cases z9) (fun z9 => ?_)
  refine ev_iload_n i165_12 rfl ?_
  refine ev_i2l i165_13 ?_
  refine ev_lconst (v := 0) i165_14 (by decide) ?_
  refine ev_lconst (v := 1) i165_15 (by decide) ?_
  refine ev_callS (vs := [.long y.toInt64, .long 0, .long 1]) (rest := []) i165_16 ci165 lk8_62 (Or.inl rfl) np117 (by decide +kernel) (Nat.le_of_ble_eq_true rfl) ⟨rfl, rfl, Nat.le_of_ble_eq_true rfl⟩ rfl (c117) (fun r HH hq => ?_)
  obtain ⟨rfl, rfl⟩ := hq
  rw [inJ_R (x := y) (m := 2) (by decide) (by decide), h]
  show Ev tb 165 19 [some (.ref 111), some (.int (nI m)), some (.int y), none, none, none, none] [.int (bI false)] H _
  refine evb_if_ne (t := 25) i165_19 (by decide) (fun z19 => by exfalso; cases z19) (fun z19 => ?_)
  refine ev_bipush (v := (-2)) i165_22 (by decide) ?_
  refine ev_iret i165_24 (by decide +kernel) ?_
  exact ⟨rfl, hI, Off.rf⟩
