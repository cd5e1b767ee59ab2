/-! soundness of the deep interpreter: stack, locals, jumps, constants -/
def dxV (b : Nat) (st : Nat → Nat) (v : Value) : Value := match v with
  | .ref a => .ref (b + a)
  | .float u => .ref (st u.toNat)
  | w => w
theorem dxV_cat (b : Nat) (st : Nat → Nat) (v : Value) : (dxV b st v).category = v.category := by cases v <;> rfl
theorem dxV_sum (b : Nat) (st : Nat → Nat) (S : List Value) : ((S.map (dxV b st)).map fun v => v.category).sum = (S.map fun v => v.category).sum := by
  rw [List.map_map]
  congr 1
  exact List.map_congr_left fun v _ => dxV_cat b st v
/-- the machine's locals hold the interpreter's -/
def dxLs (b : Nat) (st : Nat → Nat) (ls : Array Slot) (nL : Nat) (L : dxL) : Prop := ls.size = nL ∧ lv_wf ls ∧ L.length = nL ∧ ∀ (i : Nat) (v : Value), L[i]? = some (some v) → ls[i]? = some (.val (dxV b st v))
def dxLc (b : Nat) (st : Nat → Nat) (L : dxL) : List (Nat × Value) := (List.range L.length).filterMap (fun i => ((L[i]?).getD none).map (fun v => (i, dxV b st v)))
theorem dxLc_mem {b : Nat} {st : Nat → Nat} {L : dxL} {q : Nat × Value} : q ∈ dxLc b st L ↔ ∃ v, L[q.1]? = some (some v) ∧ q.2 = dxV b st v := by
  unfold dxLc
  rw [List.mem_filterMap]
  constructor
  · rintro ⟨i, hi, h⟩
    cases hx : L[i]? with
    | none => rw [hx] at h; cases h
    | some o =>
      cases o with
      | none => rw [hx] at h; cases h
      | some v => rw [hx] at h; cases h; exact ⟨v, hx, rfl⟩
  · rintro ⟨v, h1, h2⟩
    refine ⟨q.1, List.mem_range.mpr (List.getElem?_eq_some_iff.mp h1).1, ?_⟩
    rw [h1]
    show some (q.1, dxV b st v) = some q
    rw [← h2]
theorem dxLs.has {b : Nat} {st : Nat → Nat} {ls : Array Slot} {nL : Nat} {L : dxL} (h : dxLs b st ls nL L) : lv_has ls nL (dxLc b st L) := ⟨h.1, h.2.1, fun q hq => by
  obtain ⟨v, h1, h2⟩ := dxLc_mem.mp hq
  rw [h2]
  exact h.2.2.2 _ _ h1⟩
theorem dxNo2_spec {b : Nat} {st : Nat → Nat} {L : dxL} {j i : Nat} (h : dxNo2 L j = true) (hi : i + 1 = j) {v : Value} (hv : L[i]? = some (some v)) : (dxV b st v).category = 1 := by
  subst hi
  rw [dxV_cat]
  unfold dxNo2 at h
  simp only [hv] at h
  cases v <;> first | rfl | (simp at h)
theorem dxLs.set {b : Nat} {st : Nat → Nat} {ls' : Array Slot} {nL : Nat} {L : dxL} {j : Nat} {v w : Value} (hw : w = dxV b st v) (hlen : L.length = nL) (hn : dxNo2 L j = true) (hj : j < L.length) (h : lv_has ls' nL ((j, w) :: (dxLc b st L).filter (fun q => !(q.1 == j) && !(q.1 + 1 == j && q.2.category == 2)))) : dxLs b st ls' nL (L.set j (some v)) := by
  subst hw
  refine ⟨h.1, h.2.1, by rw [List.length_set]; exact hlen, fun i u hu => ?_⟩
  by_cases hij : i = j
  · subst hij
    rw [List.getElem?_set_self hj] at hu
    cases hu
    exact h.2.2 (i, _) List.mem_cons_self
  · rw [List.getElem?_set_ne (Ne.symm hij)] at hu
    refine h.2.2 (i, _) (List.mem_cons_of_mem _ (List.mem_filter.mpr ⟨dxLc_mem.mpr ⟨u, hu, rfl⟩, ?_⟩))
    simp only [Bool.and_eq_true, Bool.not_eq_true', beq_eq_false_iff_ne, ne_eq, Bool.and_eq_false_iff]
    refine ⟨hij, ?_⟩
    by_cases h1 : i + 1 = j
    · right
      exact fun z => absurd ((dxNo2_spec (b := b) (st := st) hn h1 hu).symm.trans z) (by decide)
    · left; exact h1
theorem dxLs.setJ {b : Nat} {st : Nat → Nat} {ls' : Array Slot} {nL : Nat} {L : dxL} {j : Nat} {x : Int64} (hlen : L.length = nL) (hn : dxNo2 L j = true) (hj : j + 1 < L.length) (h : lv_has ls' nL ((j, Value.long x) :: (dxLc b st L).filter (fun q => !(q.1 == j) && (!(q.1 == j + 1) && !(q.1 + 1 == j && q.2.category == 2))))) : dxLs b st ls' nL ((L.set j (some (.long x))).set (j + 1) none) := by
  refine ⟨h.1, h.2.1, by rw [List.length_set, List.length_set]; exact hlen, fun i u hu => ?_⟩
  by_cases h2 : i = j + 1
  · subst h2
    rw [List.getElem?_set_self (by rw [List.length_set]; exact hj)] at hu
    cases hu
  · rw [List.getElem?_set_ne (Ne.symm h2)] at hu
    by_cases hij : i = j
    · subst hij
      rw [List.getElem?_set_self (by omega)] at hu
      cases hu
      exact h.2.2 (i, _) List.mem_cons_self
    · rw [List.getElem?_set_ne (Ne.symm hij)] at hu
      refine h.2.2 (i, _) (List.mem_cons_of_mem _ (List.mem_filter.mpr ⟨dxLc_mem.mpr ⟨u, hu, rfl⟩, ?_⟩))
      simp only [Bool.and_eq_true, Bool.not_eq_true', beq_eq_false_iff_ne, ne_eq, Bool.and_eq_false_iff]
      refine ⟨hij, h2, ?_⟩
      by_cases h1 : i + 1 = j
      · right
        exact fun z => absurd ((dxNo2_spec (b := b) (st := st) hn h1 hu).symm.trans z) (by decide)
      · left; exact h1
theorem dxII_ok {f : Int32 → Int32 → Option Value} {S S' : List Value} (h : dxII f S = some S') : ∃ y x r v, S = .int y :: .int x :: r ∧ f x y = some v ∧ S' = v :: r := by
  unfold dxII at h
  split at h
  · rename_i y x r
    cases hv : f x y with
    | none => rw [hv] at h; cases h
    | some v => rw [hv] at h; cases h; exact ⟨y, x, r, v, rfl, hv, rfl⟩
  · cases h
theorem dxJJ_ok {f : Int64 → Int64 → Option Value} {S S' : List Value} (h : dxJJ f S = some S') : ∃ y x r v, S = .long y :: .long x :: r ∧ f x y = some v ∧ S' = v :: r := by
  unfold dxJJ at h
  split at h
  · rename_i y x r
    cases hv : f x y with
    | none => rw [hv] at h; cases h
    | some v => rw [hv] at h; cases h; exact ⟨y, x, r, v, rfl, hv, rfl⟩
  · cases h
theorem dxI1_ok {f : Int32 → Value} {S S' : List Value} (h : dxI1 f S = some S') : ∃ x r, S = .int x :: r ∧ S' = f x :: r := by
  unfold dxI1 at h
  split at h
  · cases h; exact ⟨_, _, rfl, rfl⟩
  · cases h
theorem dxJ1_ok {f : Int64 → Value} {S S' : List Value} (h : dxJ1 f S = some S') : ∃ x r, S = .long x :: r ∧ S' = f x :: r := by
  unfold dxJ1 at h
  split at h
  · cases h; exact ⟨_, _, rfl, rfl⟩
  · cases h
theorem dxJI_ok {f : Int64 → Int32 → Value} {S S' : List Value} (h : dxJI f S = some S') : ∃ y x r, S = .int y :: .long x :: r ∧ S' = f x y :: r := by
  unfold dxJI at h
  split at h
  · cases h; exact ⟨_, _, _, rfl, rfl⟩
  · cases h
theorem dxOne_ok {f : Value → List Value} {S S' : List Value} (h : dxOne f S = some S') : ∃ v r, S = v :: r ∧ v.category = 1 ∧ S' = f v ++ r := by
  unfold dxOne at h
  split at h
  · split at h
    · cases h; exact ⟨_, _, rfl, by assumption, rfl⟩
    · cases h
  · cases h
theorem dxTwo_ok {S S' : List Value} (h : dxTwo S = some S') : ∃ v w r, S = v :: w :: r ∧ v.category = 1 ∧ w.category = 1 ∧ S' = v :: w :: v :: w :: r := by
  unfold dxTwo at h
  split at h
  · split at h
    · rename_i hc
      cases h; exact ⟨_, _, _, rfl, hc.1, hc.2, rfl⟩
    · cases h
  · cases h
section DX1
variable {p : Program} {l : Launch} {e : Env} {R : Room} {s : State} {m : MethodId} {args : Array Value} {below : List Frame} {meth : Method} {c : Code} {H : Heap} {locs : List Loc} {cells slots : Nat} {Q : State → Prop}
variable {cc : ByteArray} {pc : Nat} {ls : Array Slot} {b : Nat} {st : Nat → Nat} {i : Instr} {n : Nat} {S S' : List Value} {L L' : dxL} {nL : Nat}
theorem dxPop_ok (hx : p.tables.exec = Jvm.exec) (hb : c.code = cc) (hd : decode cc pc = .ok (i, n)) (h : dxPop i n S = some S')
    (k : W p l e R s m args below meth c H locs cells slots Q (F0 m (pc + n) ls (S'.map (dxV b st)))) : W p l e R s m args below meth c H locs cells slots Q (F0 m pc ls (S.map (dxV b st))) := by
  unfold dxPop at h
  split at h
  · cases h; exact lv_iconst hx hb hd rfl k
  · cases h; exact lv_bipush hx hb hd rfl k
  · cases h; exact lv_sipush hx hb hd rfl k
  · cases h; exact lv_lconst hx hb hd rfl k
  · cases h; exact lv_null hx hb hd k
  · obtain ⟨v, r, rfl, hv, rfl⟩ := dxOne_ok h; exact lv_dup hx hb hd (by rw [dxV_cat]; exact hv) k
  · obtain ⟨v, r, rfl, hv, rfl⟩ := dxOne_ok h; exact lv_pop hx hb hd (by rw [dxV_cat]; exact hv) k
  · obtain ⟨v, w, r, rfl, hv, hw, rfl⟩ := dxTwo_ok h; exact lv_dup2_11 hx hb hd (by rw [dxV_cat]; exact hv) (by rw [dxV_cat]; exact hw) k
  · obtain ⟨y, x, r, v, rfl, hv, rfl⟩ := dxII_ok h; cases hv; exact lv_iadd hx hb hd k
  · obtain ⟨y, x, r, v, rfl, hv, rfl⟩ := dxII_ok h; cases hv; exact lv_isub hx hb hd k
  · obtain ⟨y, x, r, v, rfl, hv, rfl⟩ := dxII_ok h; cases hv; exact lv_imul hx hb hd k
  · obtain ⟨y, x, r, v, rfl, hv, rfl⟩ := dxII_ok h
    by_cases hy : y = 0
    · rw [if_pos hy] at hv; cases hv
    · rw [if_neg hy] at hv; cases hv; exact lv_idiv hx hb hd hy k
  · obtain ⟨y, x, r, v, rfl, hv, rfl⟩ := dxII_ok h
    by_cases hy : y = 0
    · rw [if_pos hy] at hv; cases hv
    · rw [if_neg hy] at hv; cases hv; exact lv_irem hx hb hd hy k
  · obtain ⟨y, x, r, v, rfl, hv, rfl⟩ := dxII_ok h; cases hv; exact lv_iand hx hb hd k
  · obtain ⟨y, x, r, v, rfl, hv, rfl⟩ := dxII_ok h; cases hv; exact lv_ior hx hb hd k
  · obtain ⟨y, x, r, v, rfl, hv, rfl⟩ := dxII_ok h; cases hv; exact lv_ixor hx hb hd k
  · obtain ⟨y, x, r, v, rfl, hv, rfl⟩ := dxII_ok h; cases hv; exact lv_ishl hx hb hd k
  · obtain ⟨y, x, r, v, rfl, hv, rfl⟩ := dxII_ok h; cases hv; exact lv_ishr hx hb hd k
  · obtain ⟨y, x, r, v, rfl, hv, rfl⟩ := dxII_ok h; cases hv; exact lv_iushr hx hb hd rfl k
  · obtain ⟨x, r, rfl, rfl⟩ := dxI1_ok h; exact lv_ineg hx hb hd k
  · obtain ⟨x, r, rfl, rfl⟩ := dxI1_ok h; exact lv_i2l hx hb hd rfl k
  · obtain ⟨x, r, rfl, rfl⟩ := dxJ1_ok h; exact lv_l2i hx hb hd rfl k
  · obtain ⟨y, x, r, v, rfl, hv, rfl⟩ := dxJJ_ok h; cases hv; exact lv_ladd hx hb hd k
  · obtain ⟨y, x, r, v, rfl, hv, rfl⟩ := dxJJ_ok h; cases hv; exact lv_lmul hx hb hd k
  · obtain ⟨y, x, r, v, rfl, hv, rfl⟩ := dxJJ_ok h; cases hv; exact lv_land hx hb hd k
  · obtain ⟨y, x, r, v, rfl, hv, rfl⟩ := dxJJ_ok h; cases hv; exact lv_lor hx hb hd k
  · obtain ⟨y, x, r, v, rfl, hv, rfl⟩ := dxJJ_ok h
    by_cases hy : y = 0
    · rw [if_pos hy] at hv; cases hv
    · rw [if_neg hy] at hv; cases hv; exact lv_lrem hx hb hd hy k
  · obtain ⟨y, x, r, v, rfl, hv, rfl⟩ := dxJJ_ok h; cases hv; exact W.lcmp hx hb hd k
  · obtain ⟨y, x, r, rfl, rfl⟩ := dxJI_ok h; exact lv_lshl hx hb hd rfl k
  · obtain ⟨y, x, r, rfl, rfl⟩ := dxJI_ok h; exact lv_lushr hx hb hd rfl k
  · cases h
theorem dxLdI_ok {j : Nat} (h : dxLdI L j S = some (L', S')) (hl : dxLs b st ls nL L) : ∃ x, ls[j]? = some (.val (.int x)) ∧ L' = L ∧ S' = .int x :: S := by
  unfold dxLdI at h
  split at h
  · rename_i x hv
    cases h; exact ⟨x, hl.2.2.2 _ _ hv, rfl, rfl⟩
  · cases h
theorem dxLdJ_ok {j : Nat} (h : dxLdJ L j S = some (L', S')) (hl : dxLs b st ls nL L) : ∃ x, ls[j]? = some (.val (.long x)) ∧ L' = L ∧ S' = .long x :: S := by
  unfold dxLdJ at h
  split at h
  · rename_i x hv
    cases h; exact ⟨x, hl.2.2.2 _ _ hv, rfl, rfl⟩
  · cases h
theorem dxLdA_ok {j : Nat} (h : dxLdA L j S = some (L', S')) (hl : dxLs b st ls nL L) : ∃ a v, ls[j]? = some (.val (.ref a)) ∧ L' = L ∧ S' = v :: S ∧ dxV b st v = .ref a := by
  unfold dxLdA at h
  split at h
  · rename_i x hv
    cases h; exact ⟨_, _, hl.2.2.2 _ _ hv, rfl, rfl, rfl⟩
  · rename_i x hv
    cases h; exact ⟨_, _, hl.2.2.2 _ _ hv, rfl, rfl, rfl⟩
  · cases h
theorem dxStI_ok {j : Nat} (h : dxStI L j S = some (L', S')) : ∃ x, S = .int x :: S' ∧ j < L.length ∧ dxNo2 L j = true ∧ L' = L.set j (some (.int x)) := by
  unfold dxStI at h
  split at h
  · split at h
    · rename_i hc
      cases h; exact ⟨_, rfl, hc.1, hc.2, rfl⟩
    · cases h
  · cases h
theorem dxStA_ok {j : Nat} (h : dxStA L j S = some (L', S')) : ∃ x, S = .ref x :: S' ∧ j < L.length ∧ dxNo2 L j = true ∧ L' = L.set j (some (.ref x)) := by
  unfold dxStA at h
  split at h
  · split at h
    · rename_i hc
      cases h; exact ⟨_, rfl, hc.1, hc.2, rfl⟩
    · cases h
  · cases h
theorem dxStJ_ok {j : Nat} (h : dxStJ L j S = some (L', S')) : ∃ x, S = .long x :: S' ∧ j + 1 < L.length ∧ dxNo2 L j = true ∧ L' = (L.set j (some (.long x))).set (j + 1) none := by
  unfold dxStJ at h
  split at h
  · split at h
    · rename_i hc
      cases h; exact ⟨_, rfl, hc.1, hc.2, rfl⟩
    · cases h
  · cases h
theorem dxLoc_ok (hx : p.tables.exec = Jvm.exec) (hb : c.code = cc) (hd : decode cc pc = .ok (i, n)) (hl : dxLs b st ls nL L) (h : dxLoc i n L S = some (L', S'))
    (k : ∀ ls' : Array Slot, dxLs b st ls' nL L' → W p l e R s m args below meth c H locs cells slots Q (F0 m (pc + n) ls' (S'.map (dxV b st)))) : W p l e R s m args below meth c H locs cells slots Q (F0 m pc ls (S.map (dxV b st))) := by
  have hlen := hl.2.2.1
  unfold dxLoc at h
  split at h
  · obtain ⟨x, h1, rfl, rfl⟩ := dxLdI_ok h hl; exact lv_iload_n hx hb hd rfl h1 (k ls hl)
  · obtain ⟨x, h1, rfl, rfl⟩ := dxLdI_ok h hl; exact lv_iload hx hb hd h1 (k ls hl)
  · obtain ⟨x, h1, rfl, rfl⟩ := dxLdJ_ok h hl; exact lv_lload_n hx hb hd rfl h1 (k ls hl)
  · obtain ⟨x, h1, rfl, rfl⟩ := dxLdJ_ok h hl; exact lv_lload hx hb hd h1 (k ls hl)
  · obtain ⟨x, v, h1, rfl, rfl, hv⟩ := dxLdA_ok h hl
    have k := k ls hl
    rw [List.map_cons, hv] at k
    exact lv_aload_n hx hb hd rfl h1 k
  · obtain ⟨x, v, h1, rfl, rfl, hv⟩ := dxLdA_ok h hl
    have k := k ls hl
    rw [List.map_cons, hv] at k
    exact lv_aload hx hb hd h1 k
  · obtain ⟨x, rfl, hj, hn, rfl⟩ := dxStI_ok h
    exact lv_istore_n hx hb hd rfl hl.has (by omega) rfl fun ls' h' => k ls' (dxLs.set rfl hlen hn hj h')
  · obtain ⟨x, rfl, hj, hn, rfl⟩ := dxStI_ok h
    exact lv_istore hx hb hd hl.has (by omega) rfl fun ls' h' => k ls' (dxLs.set rfl hlen hn hj h')
  · obtain ⟨x, rfl, hj, hn, rfl⟩ := dxStA_ok h
    exact lv_astore_n hx hb hd rfl hl.has (by omega) rfl fun ls' h' => k ls' (dxLs.set (v := .ref x) rfl hlen hn hj h')
  · obtain ⟨x, rfl, hj, hn, rfl⟩ := dxStA_ok h
    exact lv_astore hx hb hd hl.has (by omega) rfl fun ls' h' => k ls' (dxLs.set (v := .ref x) rfl hlen hn hj h')
  · obtain ⟨x, rfl, hj, hn, rfl⟩ := dxStJ_ok h
    exact lv_lstore_n hx hb hd rfl hl.has (by omega) rfl fun ls' h' => k ls' (dxLs.setJ hlen hn hj h')
  · obtain ⟨x, rfl, hj, hn, rfl⟩ := dxStJ_ok h
    exact lv_lstore hx hb hd hl.has (by omega) rfl fun ls' h' => k ls' (dxLs.setJ hlen hn hj h')
  · rename_i j d
    split at h
    · rename_i x hv
      split at h
      · rename_i hn
        cases h
        obtain ⟨q, hq⟩ := List.getElem?_of_mem (dxLc_mem (b := b) (st := st) (q := (j, .int x)) |>.mpr ⟨.int x, hv, rfl⟩)
        exact lv_iinc hx hb hd hl.has hq rfl (by have := (List.getElem?_eq_some_iff.mp hv).1; omega) rfl fun ls' h' => k ls' (dxLs.set rfl hlen hn (List.getElem?_eq_some_iff.mp hv).1 h')
      · cases h
    · cases h
  · cases h
theorem dxTg_ok {o : Int} (h : 0 ≤ (pc : Int) + o) : (pc : Int) + o = (dxTg pc o : Int) := by
  unfold dxTg
  omega
theorem dxIf2_ok {f : Int32 → Int32 → Bool} {t u pc' : Nat} (h : dxIf2 f t u S = some (pc', S')) : ∃ y x, S = .int y :: .int x :: S' ∧ pc' = if f x y = true then t else u := by
  unfold dxIf2 at h
  split at h
  · cases h; exact ⟨_, _, rfl, rfl⟩
  · cases h
theorem dxIf1_ok {f : Int32 → Bool} {t u pc' : Nat} (h : dxIf1 f t u S = some (pc', S')) : ∃ x, S = .int x :: S' ∧ pc' = if f x = true then t else u := by
  unfold dxIf1 at h
  split at h
  · cases h; exact ⟨_, rfl, rfl⟩
  · cases h
theorem dxJmp_ok {pc' : Nat} (hx : p.tables.exec = Jvm.exec) (hb : c.code = cc) (hd : decode cc pc = .ok (i, n)) (h : dxJmp i n pc S = some (pc', S'))
    (k : W p l e R s m args below meth c H locs cells slots Q (F0 m pc' ls (S'.map (dxV b st)))) : W p l e R s m args below meth c H locs cells slots Q (F0 m pc ls (S.map (dxV b st))) := by
  unfold dxJmp at h
  split at h
  · split at h
    · rename_i h0; cases h; exact lv_goto hx hb hd (dxTg_ok h0) k
    · cases h
  · split at h
    · rename_i h0; obtain ⟨y, x, rfl, rfl⟩ := dxIf2_ok h
      exact lv_icmp_eq hx hb hd (dxTg_ok h0) (fun q => by rwa [if_pos (by simp [q])] at k) (fun q => by rwa [if_neg (by simp [q])] at k)
    · cases h
  · split at h
    · rename_i h0; obtain ⟨y, x, rfl, rfl⟩ := dxIf2_ok h
      exact lv_icmp_ne hx hb hd (dxTg_ok h0) (fun q => by rwa [if_pos (by simp [q])] at k) (fun q => by rwa [if_neg (by simp [q])] at k)
    · cases h
  · split at h
    · rename_i h0; obtain ⟨y, x, rfl, rfl⟩ := dxIf2_ok h
      exact lv_icmp_lt hx hb hd (dxTg_ok h0) (fun q => by rwa [if_pos (decide_eq_true q)] at k) (fun q => by rwa [if_neg (fun z => q (of_decide_eq_true z))] at k)
    · cases h
  · split at h
    · rename_i h0; obtain ⟨y, x, rfl, rfl⟩ := dxIf2_ok h
      exact lv_icmp_ge hx hb hd (dxTg_ok h0) (fun q => by rwa [if_pos (decide_eq_true q)] at k) (fun q => by rwa [if_neg (fun z => q (of_decide_eq_true z))] at k)
    · cases h
  · split at h
    · rename_i h0; obtain ⟨y, x, rfl, rfl⟩ := dxIf2_ok h
      exact lv_icmp_gt hx hb hd (dxTg_ok h0) (fun q => by rwa [if_pos (decide_eq_true q)] at k) (fun q => by rwa [if_neg (fun z => q (of_decide_eq_true z))] at k)
    · cases h
  · split at h
    · rename_i h0; obtain ⟨y, x, rfl, rfl⟩ := dxIf2_ok h
      exact lv_icmp_le hx hb hd (dxTg_ok h0) (fun q => by rwa [if_pos (decide_eq_true q)] at k) (fun q => by rwa [if_neg (fun z => q (of_decide_eq_true z))] at k)
    · cases h
  · split at h
    · rename_i h0; obtain ⟨x, rfl, rfl⟩ := dxIf1_ok h
      exact lv_if_eq hx hb hd (dxTg_ok h0) (fun q => by rwa [if_pos (decide_eq_true q)] at k) (fun q => by rwa [if_neg (fun z => q (of_decide_eq_true z))] at k)
    · cases h
  · split at h
    · rename_i h0; obtain ⟨x, rfl, rfl⟩ := dxIf1_ok h
      exact lv_if_ne hx hb hd (dxTg_ok h0) (fun q => by rwa [if_pos (decide_eq_true q)] at k) (fun q => by rwa [if_neg (fun z => (of_decide_eq_true z) q)] at k)
    · cases h
  · split at h
    · rename_i h0; obtain ⟨x, rfl, rfl⟩ := dxIf1_ok h
      exact lv_if_lt hx hb hd (dxTg_ok h0) (fun q => by rwa [if_pos (decide_eq_true q)] at k) (fun q => by rwa [if_neg (fun z => q (of_decide_eq_true z))] at k)
    · cases h
  · split at h
    · rename_i h0; obtain ⟨x, rfl, rfl⟩ := dxIf1_ok h
      exact lv_if_ge hx hb hd (dxTg_ok h0) (fun q => by rwa [if_pos (decide_eq_true q)] at k) (fun q => by rwa [if_neg (fun z => q (of_decide_eq_true z))] at k)
    · cases h
  · split at h
    · rename_i h0; obtain ⟨x, rfl, rfl⟩ := dxIf1_ok h
      exact lv_if_gt hx hb hd (dxTg_ok h0) (fun q => by rwa [if_pos (decide_eq_true q)] at k) (fun q => by rwa [if_neg (fun z => q (of_decide_eq_true z))] at k)
    · cases h
  · split at h
    · rename_i h0; obtain ⟨x, rfl, rfl⟩ := dxIf1_ok h
      exact lv_if_le hx hb hd (dxTg_ok h0) (fun q => by rwa [if_pos (decide_eq_true q)] at k) (fun q => by rwa [if_neg (fun z => q (of_decide_eq_true z))] at k)
    · cases h
  · split at h
    · rename_i h0
      split at h
      · cases h; exact lv_ifnull hx hb hd k
      · cases h; exact lv_ifnullN hx hb hd (dxTg_ok h0) k
      · cases h
    · cases h
  · split at h
    · split at h
      · rename_i hr
        split at h
        · rename_i h0; cases h; exact lv_tableOut hx hb hd hr (dxTg_ok h0) k
        · cases h
      · rename_i hr
        split at h
        · rename_i o ho
          split at h
          · rename_i h0; cases h; exact lv_tableIn hx hb hd (fun q => hr (Or.inl q)) (fun q => hr (Or.inr q)) ho (dxTg_ok h0) k
          · cases h
        · cases h
    · cases h
  · cases h
/-- the words of constants, links, fields, classes: among the tables' -/
theorem dx_find {α : Type} {T : List (Nat × Nat × α)} {ci idx : Nat} {v : α} (h : (T.find? (fun q => q.1 == ci && q.2.1 == idx)).map (fun q => q.2.2) = some v) : (ci, idx, v) ∈ T := by
  cases hf : T.find? (fun q => q.1 == ci && q.2.1 == idx) with
  | none => rw [hf] at h; cases h
  | some q =>
    rw [hf] at h
    have h1 := List.find?_some hf
    have h2 := List.mem_of_find?_eq_some hf
    simp only [Bool.and_eq_true, beq_iff_eq] at h1
    obtain ⟨a, b, v'⟩ := q
    simp only [Option.map_some, Option.some.injEq] at h
    simp only at h1
    rw [← h1.1, ← h1.2, ← h]
    exact h2
def dxKw (q : Nat × Nat × (Int32 ⊕ Int64) × Nat) : Cond := match q.2.2.1 with
  | .inl v => .constant (dxR q.1) q.2.1 v
  | .inr v => .constantLong (dxR q.1) q.2.1 v
theorem dxKw_all : ∀ q ∈ dxKT, dxTb[q.2.2.2]? = some (dxKw q) := by decide +kernel
theorem dxKst_ok {ci : Nat} (hx : p.tables.exec = Jvm.exec) (hb : c.code = cc) (hown : s.vm.findClass (dxR ci) = some m.cls) (hts : ∀ w ∈ dxTb, w.before args s = true) (hd : decode cc pc = .ok (i, n)) (h : dxKst ci i n S = some S')
    (k : W p l e R s m args below meth c H locs cells slots Q (F0 m (pc + n) ls (S'.map (dxV b st)))) : W p l e R s m args below meth c H locs cells slots Q (F0 m pc ls (S.map (dxV b st))) := by
  unfold dxKst at h
  split at h
  · split at h
    · rename_i v q hq
      cases h
      exact lv_ldcw hx hb hown (hts _ (List.mem_of_getElem? (dxKw_all _ (dx_find hq)))) hd k
    · cases h
  · split at h
    · rename_i v q hq
      cases h
      exact lv_ldc2 hx hb hown (hts _ (List.mem_of_getElem? (dxKw_all _ (dx_find hq)))) hd k
    · cases h
  · cases h
end DX1
