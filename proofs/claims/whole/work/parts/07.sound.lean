/-! soundness of the deep interpreter: calls, returns, the whole run -/
theorem dxASt_len {t : Nat} {S S' : List Value} {H H' : dxH} (h : dxASt t S H = some (S', H')) : H'.length = H.length := by
  unfold dxASt at h
  repeat' split at h
  all_goals first | (cases h; done) | (cases h; rw [List.length_set])
theorem dxHp_len {tb : dxT} {k n : Nat} {i : Instr} {S S' : List Value} {H H' : dxH} (h : dxHp tb k i n S H = some (S', H')) : H'.length = H.length := by
  unfold dxHp at h
  split at h
  · unfold dxGet at h
    repeat' split at h
    all_goals first | (cases h; done) | (cases h; rfl)
  · unfold dxPut at h
    repeat' split at h
    all_goals first | (cases h; done) | (cases h; rw [List.length_set])
  · unfold dxALd at h
    repeat' split at h
    all_goals first | (cases h; done) | (cases h; rfl)
  · unfold dxALd at h
    repeat' split at h
    all_goals first | (cases h; done) | (cases h; rfl)
  · exact dxASt_len h
  · exact dxASt_len h
  · unfold dxQLd at h
    repeat' split at h
    all_goals first | (cases h; done) | (cases h; rfl)
  · unfold dxQSt at h
    repeat' split at h
    all_goals first | (cases h; done) | (cases h; rw [List.length_set])
  · unfold dxLen at h
    repeat' split at h
    all_goals first | (cases h; done) | (cases h; rfl)
  · repeat' split at h
    all_goals first | (cases h; done) | (cases h; rfl)
  · cases h
theorem dxBi_len {k n : Nat} {i : Instr} {S S' : List Value} {H H' : dxH} (h : dxBi k i n S H = some (S', H')) : H'.length = H.length := by
  unfold dxBi at h
  unfold dxCpy at h
  repeat' split at h
  all_goals first | (cases h; done) | (cases h; rfl) | (cases h; rw [List.length_set])
theorem dxNw_len {k n : Nat} {i : Instr} {S S' : List Value} {H H' : dxH} {z z' : Nat} (h : dxNw k i n S H z = some (S', H', z')) : H.length ≤ H'.length ∧ z ≤ z' := by
  unfold dxNw at h
  unfold dxNwA at h
  repeat' split at h
  all_goals first | (cases h; done) | (cases h; rw [List.length_append]; exact ⟨Nat.le_add_right _ _, Nat.le_add_right _ _⟩)
theorem dxStep_len {tb : dxT} {k n pc pc' : Nat} {i : Instr} {L L' : dxL} {S S' : List Value} {H H' : dxH} {z z' : Nat} (h : dxStep tb k i n pc L S H z = some (pc', L', S', H', z')) : H.length ≤ H'.length ∧ z ≤ z' := by
  unfold dxStep at h
  split at h
  · cases h; exact ⟨Nat.le_refl _, Nat.le_refl _⟩
  · split at h
    · cases h; exact ⟨Nat.le_refl _, Nat.le_refl _⟩
    · split at h
      · cases h; exact ⟨Nat.le_refl _, Nat.le_refl _⟩
      · split at h
        · cases h; exact ⟨Nat.le_refl _, Nat.le_refl _⟩
        · split at h
          · rename_i hq; cases h; exact ⟨Nat.le_of_eq (dxHp_len hq).symm, Nat.le_refl _⟩
          · split at h
            · rename_i hq; cases h; exact dxNw_len hq
            · split at h
              · rename_i hq; cases h; exact ⟨Nat.le_of_eq (dxBi_len hq).symm, Nat.le_refl _⟩
              · cases h
theorem dxRun_len {tb : dxT} : ∀ (f : Nat) {k pc : Nat} {L : dxL} {S : List Value} {H : dxH} {z : Nat} {r : Option Value} {H' : dxH} {z' : Nat}, dxRun tb f k pc L S H z = some (r, H', z') → H.length ≤ H'.length ∧ z ≤ z'
  | 0, _, _, _, _, _, _, _, _, _, h => by cases h
  | f + 1, k, pc, L, S, H, z, r, H', z', h => by
    unfold dxRun at h
    split at h
    · cases h
    · split at h
      · cases h; exact ⟨Nat.le_refl _, Nat.le_refl _⟩
      · split at h
        · split at h
          · split at h
            · rename_i hq
              have h1 := dxRun_len f hq
              have h2 := dxRun_len f h
              exact ⟨Nat.le_trans h1.1 h2.1, Nat.le_trans h1.2 h2.2⟩
            · cases h
          · cases h
        · split at h
          · rename_i hq
            have h1 := dxStep_len hq
            have h2 := dxRun_len f h
            exact ⟨Nat.le_trans h1.1 h2.1, Nat.le_trans h1.2 h2.2⟩
          · cases h
-- what holds of a state beside its cells
def dxNs (U : State) : Prop := ∀ q ∈ dxLkT, (q.2.2.1 = 2 ∨ q.2.2.1 = 4) → va_Nw (.methodLinkNest (dxR q.1) q.2.1 (dxY q.2.2.2.1) "MilkTruce") U
def dxFx (b : Nat) (st : Nat → Nat) (cy : Nat → ClassId) (D : va_G) (tb : dxT) (U : State) : Prop := va_K D vwCl (dxTy cy) U ∧ (∀ j, j < 5 → va_T .int (st j) (tb j).1 (fun q => .int ((tb j).2 q)) (fun q => b ≤ q) U U.heap) ∧ (∀ j, j < 4 → va_Z RX4 (dxSn j) "[I" (.ref (st j)) (fun q => b ≤ q) U U.heap) ∧ va_AO RX3 U ∧ dxNs U
def dxWd (b : Nat) (st : Nat → Nat) (cy : Nat → ClassId) (D : va_G) (tb : dxT) (H : dxH) (U : State) : Prop := U.heap.size = b + H.length ∧ va_P D vwCl (dxWc b st cy H) U.heap ∧ dxFx b st cy D tb U
theorem dxFx.to {b : Nat} {st : Nat → Nat} {cy : Nat → ClassId} {D : va_G} {tb : dxT} {s U : State} (h : dxFx b st cy D tb s) (hW : s.WarmedH U.vm) (hq : ∀ a : Nat, a < s.heap.size → ¬ b ≤ a → U.heap[a]? = s.heap[a]?) : dxFx b st cy D tb U :=
  ⟨h.1.moved hW.alike, fun j hj => va_T.moved hW.alike ((h.2.1 j hj).kept hq), fun j hj => va_Z.moved hW.alike ((h.2.2.1 j hj).kept hq), h.2.2.2.1.moved hW.alike, fun q hq hk => (h.2.2.2.2 q hq hk).warmM hW⟩
theorem dxWd.blind {b : Nat} {st : Nat → Nat} {cy : Nat → ClassId} {D : va_G} {tb : dxT} {H : dxH} {U : State} (h : dxWd b st cy D tb H U) (g : JFrame) (mk : MethodId) (a : Array Value) : dxWd b st cy D tb H (U.calling g mk a) :=
  ⟨h.1, h.2.1, dxFx.to (U := U.calling g mk a) h.2.2 (State.WarmedH.refl U) (fun _ _ _ => rfl)⟩
theorem dx_size_eq {b : Nat} {st : Nat → Nat} {cy : Nat → ClassId} {D : va_G} {s : State} {H : dxH} {Hp : Heap} {locs : List Loc} {n0 : Nat} (hP : va_P D vwCl (dxWc b st cy H) Hp) (hS : va_S (fun q => b ≤ q) s.heap Hp locs) (hs0 : s.heap.size = b + n0) (hn0 : n0 ≤ H.length) (hz : Hp.size ≤ s.heap.size + (H.length - n0)) : Hp.size = b + H.length := by
  have h1 : b + H.length ≤ Hp.size := by
    by_cases h0 : H.length = 0
    · have := hS.1
      omega
    · have h2 := (hP (H.length - 1) _ (dxWc_get (List.getElem?_eq_getElem (by omega : H.length - 1 < H.length)))).lt
      simp only at h2
      omega
  omega
-- methods
theorem dxMt_all : ∀ k, k < 173 → True ∧ plainName (dxY k).cls = true ∧ ((dxY k).cls ≠ "java/lang/invoke/MethodHandle" ∧ (dxY k).cls ≠ "java/lang/invoke/VarHandle" ∧ (parseMethodDescriptor (dxY k).desc).map (fun d => d.parameters.length) = some (dxNp k)) ∧ (dxY k).cls = dxR (dxCi k) := by decide +kernel
theorem dxMk_all : ∀ q ∈ dxLkT, q.2.2.1 < 5 → q.2.2.2.1 < 173 ∧ (q.2.2.1 = 3 ∨ q.2.2.1 = 4 → (dxY q.2.2.2.1).name = "<init>" ∧ dxRt q.2.2.2.1 = none) := by decide +kernel
def dxWs (k : Nat) : List Cond := .code (dxY k) (dxB k) (dxMl k) (dxRt k) :: dxTb
theorem dxTb_good : GoodIn dxTb dxTb := fun w hw => ⟨hw, good_of_word (List.mem_filter.mp hw).2⟩
theorem dxWs_good {k : Nat} (hk : k < 173) : GoodIn dxTb (dxWs k) := fun w hw => by
  rcases List.mem_cons.mp hw with rfl | h
  · exact dxTb_good _ (List.mem_filter.mpr ⟨List.mem_of_getElem? (dxMc_all k hk), rfl⟩)
  · exact dxTb_good w h
def dxRm (k mc ms : Nat) : Room := { frames := dxFr k, cells := mc, slots := ms, locals := dxLo k }
def dxPc (b : Nat) (st : Nat → Nat) (cy : Nat → ClassId) (D : va_G) (tb : dxT) (vs : List Value) (H : dxH) : Array Value → State → Prop := va_Pc (vs.map (dxV b st)) (dxWd b st cy D tb H)
def dxQc (b : Nat) (st : Nat → Nat) (cy : Nat → ClassId) (D : va_G) (tb : dxT) (r : Option Value) (H : dxH) : Array Value → State → Outcome → State → Prop := fun _ u o t => o = .returned (r.map (dxV b st)) ∧ dxWd b st cy D tb H t ∧ va_F (fun q => b ≤ q) u t
def dxCx (b : Nat) (st : Nat → Nat) (cy : Nat → ClassId) (D : va_G) (tb : dxT) (k : Nat) (p : Program) (s : State) (m : MethodId) (args : Array Value) (meth : Method) (c : Code) : Prop :=
  p.tables.exec = Jvm.exec ∧ c.code = dxB k ∧ c.maxLocals = dxMl k ∧ s.vm.findClass (dxR (dxCi k)) = some m.cls ∧ ((dxY k).name = "<init>" → meth.name = "<init>") ∧ (∀ w ∈ dxTb, w.before args s = true) ∧ dxFx b st cy D tb s
theorem dxPc_blind {b : Nat} {st : Nat → Nat} {cy : Nat → ClassId} {D : va_G} {tb : dxT} {vs : List Value} {H : dxH} : FrameBlind (dxPc b st cy D tb vs H) := fun a U g mk q => ⟨q.1, q.2.blind g mk a⟩
theorem dxI_ok {k pc : Nat} {i : Instr} {n : Nat} (h : dxI k pc = some (i, n)) : decode (dxB k) pc = .ok (i, n) := by
  unfold dxI at h
  split at h
  · rename_i hq; cases h; exact hq
  · cases h
-- locals at the entry
theorem dxArg_len (b : Nat) (st : Nat → Nat) : ∀ vs : List Value, (lg_sl (vs.map (dxV b st))).length = (dxArg vs).length
  | [] => rfl
  | v :: vs => by
    have ih := dxArg_len b st vs
    have hc := dxV_cat b st v
    unfold dxArg
    show (List.flatMap _ (dxV b st v :: vs.map (dxV b st))).length = _
    rw [List.flatMap_cons, List.length_append]
    have e : (List.flatMap (fun v => if v.category = 2 then [Slot.val v, Slot.second] else [Slot.val v]) (vs.map (dxV b st))).length = (dxArg vs).length := ih
    rw [e, hc]
    by_cases h2 : v.category = 2
    · rw [if_pos h2, if_pos h2]; simp; omega
    · rw [if_neg h2, if_neg h2]; simp; omega
theorem dxArg_get (b : Nat) (st : Nat → Nat) : ∀ (vs : List Value) (i j : Nat) (v : Value), (dxArg vs)[j]? = some (some v) → (i + j, dxV b st v) ∈ lv_args i (vs.map (dxV b st))
  | [], i, j, v, h => by cases h
  | w :: vs, i, j, v, h => by
    unfold dxArg at h
    show _ ∈ (i, dxV b st w) :: lv_args (if (dxV b st w).category = 2 then i + 2 else i + 1) (vs.map (dxV b st))
    rw [dxV_cat]
    by_cases h2 : w.category = 2
    · rw [if_pos h2] at h ⊢
      match j, h with
      | 0, h => cases h; exact List.mem_cons_self
      | 1, h => cases h
      | j + 2, h =>
        have := dxArg_get b st vs (i + 2) j v h
        rw [show i + (j + 2) = i + 2 + j by omega]
        exact List.mem_cons_of_mem _ this
    · rw [if_neg h2] at h ⊢
      match j, h with
      | 0, h => cases h; exact List.mem_cons_self
      | j + 1, h =>
        have := dxArg_get b st vs (i + 1) j v h
        rw [show i + (j + 1) = i + 1 + j by omega]
        exact List.mem_cons_of_mem _ this
theorem dxEnt_ls {b : Nat} {st : Nat → Nat} {k : Nat} {vs : List Value} {ls : Array Slot} (hl : lv_has ls (dxMl k) (lv_args 0 (vs.map (dxV b st)))) (hle : (dxArg vs).length ≤ dxMl k) : dxLs b st ls (dxMl k) (dxEnt k vs) := by
  refine ⟨hl.1, hl.2.1, by unfold dxEnt; rw [List.length_append, List.length_replicate]; omega, fun i v h => ?_⟩
  unfold dxEnt at h
  by_cases hi : i < (dxArg vs).length
  · rw [List.getElem?_append_left hi] at h
    have h1 := hl.2.2 _ (dxArg_get b st vs 0 i v h)
    rwa [Nat.zero_add] at h1
  · rw [List.getElem?_append_right (by omega)] at h
    have h1 := List.mem_of_getElem? h
    have h2 := (List.mem_replicate.mp h1).2
    cases h2
section DX4
variable {p : Program} {l : Launch} {e : Env} {R : Room} {s : State} {m : MethodId} {args : Array Value} {below : List Frame} {meth : Method} {c : Code} {Hp : Heap} {locs : List Loc} {cells slots : Nat} {Q : State → Prop}
variable {cc : ByteArray} {pc : Nat} {ls : Array Slot} {b : Nat} {st : Nat → Nat} {cy : Nat → ClassId} {D : va_G} {i : Instr} {n : Nat} {S S' : List Value} {H H' H1 : dxH} {k y idx : Nat} {tb : dxT} {n0 z0 z z' mc ms : Nat}
/-- behind a call -/
theorem dx_back {a : Array Value} {st0 rest : List Value} {r : Option Value} {free : Addr → Prop} (hfree : ∀ q, free q → b ≤ q) (hr : va_Run p l e R s m args below meth c Hp locs cells slots mc ms (F0 m pc ls st0) rest (dxQc b st cy D tb r H1 a) free) (hsz : b ≤ s.heap.size) (hS : va_S (fun q => b ≤ q) s.heap Hp locs)
    (kk : ∀ (Hp' : Heap) (locs' : List Loc), va_P D vwCl (dxWc b st cy H1) Hp' → va_S (fun q => b ≤ q) s.heap Hp' locs' → W p l e R s m args below meth c Hp' locs' (cells + mc) (slots + ms) Q (F0 m (pc + 3) ls ((r.map (dxV b st)).toList ++ rest))) : W p l e R s m args below meth c Hp locs cells slots Q (F0 m pc ls st0) := by
  intro T hT X
  obtain ⟨v, st₀, t, T', L, h0, X', hL, e1, e2, ⟨hv, hw, hz, hk⟩, stp⟩ := hr T hT X
  cases hv
  rw [h0] at hz hk
  obtain ⟨t2, a1, b1⟩ := kk T'.heap (locs ++ L) (by rw [e1]; exact hw.2.1) ⟨Nat.le_trans hS.1 (by rw [e1]; exact hz), fun q h1 h2 => by rw [e1, hk q (Nat.lt_of_lt_of_le h1 hS.1) h2]; exact hS.2.1 q h1 h2, fun q hq => by
      rcases List.mem_append.mp hq with h | h
      · exact hS.2.2 q h
      · exact hfree _ (hL q h)⟩ T' rfl X'
  exact ⟨t2, stp t2 a1, b1⟩
/-- a method's return -/
theorem dx_ret {r : Option Value} (hx : p.tables.exec = Jvm.exec) (hb : c.code = dxB k) (hret : meth.sig.returnType = dxRt k) (hlocks : meth.locks = false) (hFx : dxFx b st cy D tb s) (hd : decode (dxB k) pc = .ok (i, n)) (h : dxRet k i n S = some r)
    (hs0 : s.heap.size = b + n0) (hn0 : n0 ≤ H.length) (hP : va_P D vwCl (dxWc b st cy H) Hp) (hS : va_S (fun q => b ≤ q) s.heap Hp locs) : W p l e R s m args below meth c Hp locs (H.length - n0) slots (MQ below (dxQc b st cy D tb r H) args s (H.length - n0) slots (fun q => b ≤ q)) (F0 m pc ls (S.map (dxV b st))) := by
  refine dx_size fun hz => ?_
  have hq : ∀ t : State, t.heap = Hp → s.WarmedH t.vm → dxQc b st cy D tb r H args s (.returned (r.map (dxV b st))) t := fun t ht hW =>
    ⟨rfl, ⟨by rw [ht]; exact dx_size_eq hP hS hs0 hn0 hz, by rw [ht]; exact hP, hFx.to hW (fun a h1 h2 => by rw [ht]; exact hS.2.1 a h1 h2)⟩, hS.F ht⟩
  unfold dxRet at h
  split at h
  · split at h
    · rename_i v
      split at h
      · rename_i hc
        cases h
        rcases hc with hc | ⟨hc, hv⟩
        · exact W.zret (ty := .int) hx hb (hret.trans hc) rfl hq hS.2.2 hd hlocks
        · exact W.zret (ty := .boolean) hx hb (hret.trans hc) (by show Value.int (v &&& 1) = _; rw [hv]) hq hS.2.2 hd hlocks
      · cases h
    · cases h
  · split at h
    · split at h
      · rename_i hc
        cases h
        exact W.lret hx hb (hret.trans hc) hq hS.2.2 hd hlocks
      · cases h
    · cases h
  · split at h
    · rename_i hc
      cases h
      exact W.aret hx hb (hret.trans hc) (Or.inl ⟨_, rfl⟩) (Or.inr ⟨_, rfl⟩) hq hS.2.2 hd hlocks
    · rename_i hc
      cases h
      exact W.aret hx hb (hret.trans hc) (Or.inl ⟨_, rfl⟩) (Or.inl rfl) hq hS.2.2 hd hlocks
    · cases h
  · split at h
    · split at h
      · rename_i hc
        cases h
        exact W.vret hx hb (hret.trans hc) hq hS.2.2 hd hlocks
      · cases h
    · cases h
  · cases h
end DX4
def dxSnd (tb : dxT) (l : Launch) (f : Nat) : Prop := ∀ (b : Nat) (st : Nat → Nat) (cy : Nat → ClassId) (D : va_G) (k pc : Nat) (L : dxL) (S : List Value) (H : dxH) (z : Nat) (r : Option Value) (H' : dxH) (z' : Nat), dxRun tb f k pc L S H z = some (r, H', z') →
  ∀ (p : Program) (e : Env) (R : Room) (s : State) (m : MethodId) (args : Array Value) (below : List Frame) (meth : Method) (c : Code) (Hp : Heap) (locs : List Loc) (Q : State → Prop) (ls : Array Slot) (n0 z0 : Nat), dxCx b st cy D tb k p s m args meth c → s.heap.size = b + n0 → n0 ≤ H.length → z0 ≤ z → H'.length - n0 ≤ R.cells → z' - z0 ≤ R.slots → dxFr k ≤ R.frames → dxLo k ≤ R.locals →
    va_P D vwCl (dxWc b st cy H) Hp → va_S (fun q => b ≤ q) s.heap Hp locs → dxLs b st ls (dxMl k) L →
    (∀ (Hp' : Heap) (locs' : List Loc) (ls' : Array Slot) (pc' : Nat) (i : Instr) (n : Nat) (S' : List Value), decode (dxB k) pc' = .ok (i, n) → dxRet k i n S' = some r → va_P D vwCl (dxWc b st cy H') Hp' → va_S (fun q => b ≤ q) s.heap Hp' locs' → W p l e R s m args below meth c Hp' locs' (H'.length - n0) (z' - z0) Q (F0 m pc' ls' (S'.map (dxV b st)))) →
    W p l e R s m args below meth c Hp locs (H.length - n0) (z - z0) Q (F0 m pc ls (S.map (dxV b st)))
/-- a method's contract out of the run of its body -/
theorem dx_met {tb : dxT} {l : Launch} {f : Nat} (ih : dxSnd tb l f) (b : Nat) (st : Nat → Nat) (cy : Nat → ClassId) (D : va_G) {k : Nat} (hk : k < 173) {vs : List Value} (hle : (dxArg vs).length ≤ dxMl k) {H : dxH} {z : Nat} {r : Option Value} {H' : dxH} {z' : Nat} (h : dxRun tb f k 0 (dxEnt k vs) [] H z = some (r, H', z')) :
    Met l (dxY k) (dxWs k) (dxRm k (H'.length - H.length) (z' - z)) (dxPc b st cy D tb vs H) (dxQc b st cy D tb r H') (H'.length - H.length) (z' - z) (fun q => b ≤ q) := by
  refine Met.ofW (cc := dxB k) (maxL := dxMl k) (ret := dxRt k) (dxMt_all k hk).2.1 rfl ?_
  intro p e s m args below meth c s₁ B hml hv
  obtain ⟨rfl, hw1, hw2, hw3⟩ := hv
  have hts := atoms_spec (ws := dxWs k) B.pre
  have hlen := dxRun_len f h
  have hown : s.vm.findClass (dxR (dxCi k)) = some m.cls := by
    rw [← (dxMt_all k hk).2.2.2]
    exact findClass_of_methodNamed B.named
  rw [lg_entry_eq]
  have hl := lv_entry (vs.map (dxV b st)) (n := dxMl k) (by rw [dxArg_len]; exact hle)
  generalize (lg_sl (vs.map (dxV b st)) ++ List.replicate (dxMl k - (lg_sl (vs.map (dxV b st))).length) Slot.unset).toArray = ls at hl ⊢
  have k1 := ih b st cy D k 0 (dxEnt k vs) [] H z r H' z' h p e (headSpec (dxWs k) (dxRm k (H'.length - H.length) (z' - z))).room s m (vs.map (dxV b st)).toArray below meth c s.heap [] (MQ below (dxQc b st cy D tb r H') (vs.map (dxV b st)).toArray s (H'.length - H.length) (z' - z) (fun q => b ≤ q)) ls H.length z
    ⟨B.exec, B.bytes, hml, hown, fun hn => (name_of_methodNamed B.named B.method).1.trans hn, fun w hw => hts w (List.mem_cons_of_mem _ hw), hw3⟩ hw1 (Nat.le_refl _) (Nat.le_refl _) (Nat.le_refl _) (Nat.le_refl _) (Nat.le_refl _) (Nat.le_refl _) hw2 va_S.rf (dxEnt_ls hl hle)
    (fun Hp' locs' ls' pc' i n S' hd hr hP' hS' => dx_ret B.exec B.bytes B.returns B.notSynchronized hw3 hd hr hw1 hlen.1 hP' hS')
  rw [Nat.sub_self, Nat.sub_self] at k1
  exact k1
theorem dx_sound (tb : dxT) (l : Launch) : ∀ f : Nat, dxSnd tb l f
  | 0 => fun _ _ _ _ _ _ _ _ _ _ _ _ _ h => by cases h
  | f + 1 => by
    have ih := dx_sound tb l f
    intro b st cy D k pc L S H z r H' z' h p e R s m args below meth c Hp locs Q ls n0 z0 hC hs0 hn0 hz0 hc1 hc2 hfr hlo hP hS hl ret
    obtain ⟨hx, hb, hml, hown, hname, hts, hFx⟩ := id hC
    unfold dxRun at h
    split at h
    · cases h
    · rename_i i n hI
      have hd := dxI_ok hI
      split at h
      · rename_i r' hr
        cases h
        exact ret Hp locs ls pc i n S hd hr hP hS
      · split at h
        · rename_i y na hcal
          split at h
          · rename_i hg
            obtain ⟨g1, g2, g3, g4, g5, g6⟩ := hg
            split at h
            · rename_i r1 H1 z1 hcall
              have m1 := dxRun_len f hcall
              have m2 := dxRun_len f h
              have hsl : (List.take na S).length = na := by rw [List.length_take]; omega
              have goOn : ∀ (Hp' : Heap) (locs' : List Loc), va_P D vwCl (dxWc b st cy H1) Hp' → va_S (fun q => b ≤ q) s.heap Hp' locs' → W p l e R s m args below meth c Hp' locs' (H.length - n0 + (H1.length - H.length)) (z - z0 + (z1 - z)) Q (F0 m (pc + 3) ls ((r1.map (dxV b st)).toList ++ (List.drop na S).map (dxV b st))) := by
                intro Hp' locs' hP' hS'
                have k1 := ih b st cy D k (pc + 3) L (r1.toList ++ List.drop na S) H1 z1 r H' z' h p e R s m args below meth c Hp' locs' Q ls n0 z0 hC hs0 (by omega) (by omega) hc1 hc2 hfr hlo hP' hS' hl ret
                rw [List.map_append, show H1.length - n0 = H.length - n0 + (H1.length - H.length) by omega, show z1 - z0 = z - z0 + (z1 - z) by omega] at k1
                cases r1 <;> exact k1
              have hsplit : S.map (dxV b st) = (((List.take na S).reverse).map (dxV b st)).reverse ++ (List.drop na S).map (dxV b st) := by
                rw [← List.map_reverse, List.reverse_reverse, ← List.map_append, List.take_append_drop]
              have hbs : b ≤ s.heap.size := by omega
              have hRm : (dxRm y (H1.length - H.length) (z1 - z)).frames + 1 ≤ R.frames ∧ 8 + (dxMl y + 11) + (dxRm y (H1.length - H.length) (z1 - z)).locals ≤ R.locals := ⟨by show dxFr y + 1 ≤ _; omega, by show 8 + (dxMl y + 11) + dxLo y ≤ _; omega⟩
              have hroom : H.length - n0 + (H1.length - H.length) ≤ R.cells ∧ z - z0 + (z1 - z) ≤ R.slots := by omega
              have hsz := dx_size (p := p) (l := l) (e := e) (R := R) (s := s) (m := m) (args := args) (below := below) (meth := meth) (c := c) (Hp := Hp) (locs := locs) (cells := H.length - n0) (slots := z - z0) (Q := Q) (pc := pc) (ls := ls) (S := S.map (dxV b st))
              refine hsz fun hz => ?_
              have hse := dx_size_eq hP hS hs0 hn0 hz
              have hpre : ∀ U : State, U.heap = Hp → s.WarmedH U.vm → dxPc b st cy D tb (List.take na S).reverse H (((List.take na S).reverse).map (dxV b st)).toArray U := fun U hU hW => ⟨rfl, by rw [hU]; exact hse, by rw [hU]; exact hP, hFx.to hW (fun a h1 h2 => by rw [hU]; exact hS.2.1 a h1 h2)⟩
              have hw8 := dxW8_ok (b := b) (st := st) g4
              unfold dxCal at hcal
              split at hcal
              · -- invokevirtual
                rename_i idx _
                split at hcal
                · rename_i y' w hlk
                  cases hcal
                  obtain ⟨p1, p2, p3, p4⟩ := w
                  obtain ⟨hk, -⟩ := dxMk_all _ (dx_find hlk) (by show 0 < 5; decide)
                  have hMt := dxMt_all y hk
                  have hmet := dx_met ih b st cy D hk g2 hcall
                  have w1 := dxLk_w hlk (r := (p1, _)) (by exact List.mem_cons_self)
                  have w2 := dxLk_w hlk (r := (p2, _)) (by exact List.mem_cons_of_mem _ List.mem_cons_self)
                  have w3 := dxLk_w hlk (r := (p3, _)) (by exact List.mem_cons_of_mem _ (List.mem_cons_of_mem _ List.mem_cons_self))
                  have w4 := dxLk_w hlk (r := (p4, _)) (by exact List.mem_cons_of_mem _ (List.mem_cons_of_mem _ (List.mem_cons_of_mem _ List.mem_cons_self)))
                  have hGv : GoodIn dxTb (wsV (dxR (dxCi k)) idx (dxY y).cls (dxY y) (dxWs y)) := by
                    intro w hw
                    unfold wsV at hw
                    rcases List.mem_append.mp hw with h | h
                    · rcases List.mem_cons.mp h with rfl | h
                      · exact dxTb_good _ w1
                      · rcases List.mem_cons.mp h with rfl | h
                        · exact dxTb_good _ w2
                        · rcases List.mem_cons.mp h with rfl | h
                          · exact dxTb_good _ w3
                          · rcases List.mem_cons.mp h with rfl | h
                            · exact dxTb_good _ w4
                            · cases h
                    · exact dxWs_good hk w h
                  simp only [dxRcv] at g3
                  generalize hvs : (List.take (dxNp y + 1) S).reverse = vs at *
                  have hlv : vs.length = dxNp y + 1 := by rw [← hvs, List.length_reverse]; exact hsl
                  split at g3
                  · rename_i a As
                    split at g3
                    · rename_i cc fs ha
                      simp only [Bool.and_eq_true, decide_eq_true_eq] at g3
                      obtain ⟨rfl, hc9⟩ := g3
                      have hrecv : ∃ cellB : Cell, Hp[b + a]? = some cellB ∧ cellB.vm.isStatics = false ∧ s.vm.findClass (dxY y).cls = some cellB.cls := by
                        rw [hMt.2.2.2, ← dxCl_R hc9]
                        exact va_recv hFx.1 hP (dxCl_at hc9) (dxWc_get ha)
                      rw [hsplit]
                      have e1 : (((Value.ref a :: As).map (dxV b st)).reverse ++ (List.drop (dxNp y + 1) S).map (dxV b st)) = (As.map (dxV b st)).reverse ++ .ref (b + a) :: (List.drop (dxNp y + 1) S).map (dxV b st) := by
                        rw [List.map_cons, List.reverse_cons, List.append_assoc]
                        rfl
                      rw [e1]
                      exact dx_back (fun _ h => h) (va_runV (As := As.map (dxV b st)) (rest := (List.drop (dxNp y + 1) S).map (dxV b st)) ⟨hx, hb, hml, hown, hts⟩ hmet (cwV (dxNp y) hts hGv rfl rfl rfl ⟨rfl, hMt.2.2.1⟩ hRm) ⟨dxPc_blind, hrecv, hpre⟩ rfl (by rw [List.length_map]; simpa using hlv) hl.1 rfl (by show 2 * 0 + _ ≤ 8; omega) hd hroom) hbs hS goOn
                    · cases g3
                  · cases g3
                · cases hcal
              · -- invokestatic
                rename_i idx _
                split at hcal
                · rename_i y' w hlk
                  cases hcal
                  obtain ⟨p1, p2, p3, p4⟩ := w
                  obtain ⟨hk, -⟩ := dxMk_all _ (dx_find hlk) (by show 1 < 5; decide)
                  have hMt := dxMt_all y hk
                  have hmet := dx_met ih b st cy D hk g2 hcall
                  have w1 := dxLk_w hlk (r := (p1, _)) (by exact List.mem_cons_self)
                  have w2 := dxLk_w hlk (r := (p2, _)) (by exact List.mem_cons_of_mem _ List.mem_cons_self)
                  have w4 := dxLk_w hlk (r := (p4, _)) (by exact List.mem_cons_of_mem _ (List.mem_cons_of_mem _ List.mem_cons_self))
                  have hGv : GoodIn dxTb (va_wsS (dxR (dxCi k)) idx (dxY y) (dxWs y)) := by
                    intro w hw
                    unfold va_wsS at hw
                    rcases List.mem_append.mp hw with h | h
                    · rcases List.mem_cons.mp h with rfl | h
                      · exact dxTb_good _ w1
                      · rcases List.mem_cons.mp h with rfl | h
                        · exact dxTb_good _ w2
                        · rcases List.mem_cons.mp h with rfl | h
                          · exact dxTb_good _ w4
                          · cases h
                    · exact dxWs_good hk w h
                  rw [hsplit]
                  exact dx_back (fun _ h => h) (va_runS (As := ((List.take (dxNp y) S).reverse).map (dxV b st)) (rest := (List.drop (dxNp y) S).map (dxV b st)) ⟨hx, hb, hml, hown, hts⟩ hmet (va_cwS (dxNp y) hts hGv rfl rfl rfl hMt.2.2.1 hRm) ⟨dxPc_blind, hpre⟩ rfl (by rw [List.length_map, List.length_reverse]; exact hsl) hl.1 rfl (by show 2 * 0 + _ ≤ 8; omega) hd hroom) hbs hS goOn
                · rename_i y' w hlk
                  cases hcal
                  obtain ⟨p1, p2, p3, p4⟩ := w
                  obtain ⟨hk, -⟩ := dxMk_all _ (dx_find hlk) (by show 2 < 5; decide)
                  have hMt := dxMt_all y hk
                  have hmet := dx_met ih b st cy D hk g2 hcall
                  have w2 := dxLk_w hlk (r := (p2, _)) (by exact List.mem_cons_self)
                  have w4 := dxLk_w hlk (r := (p4, _)) (by exact List.mem_cons_of_mem _ List.mem_cons_self)
                  have hN := hFx.2.2.2.2 _ (dx_find hlk) (Or.inl rfl)
                  rw [hsplit]
                  exact dx_back (fun _ h => h) (va_runSN (As := ((List.take (dxNp y) S).reverse).map (dxV b st)) (rest := (List.drop (dxNp y) S).map (dxV b st)) ⟨hx, hb, hml, hown, hts⟩ hmet ⟨va_cnB (dxNp y) hts (dxWs_good hk) rfl rfl rfl hN (hts _ w4) hMt.2.2.1 hRm, hts _ w2, trivial⟩ ⟨dxPc_blind, hpre⟩ rfl (by rw [List.length_map, List.length_reverse]; exact hsl) hl.1 rfl (by show 2 * 0 + _ ≤ 8; omega) hd hroom) hbs hS goOn
                · cases hcal
              · -- invokespecial
                rename_i idx _
                split at hcal
                · rename_i y' w hlk
                  cases hcal
                  obtain ⟨p1, p2, p3, p4⟩ := w
                  obtain ⟨hk, hnr⟩ := dxMk_all _ (dx_find hlk) (by show 3 < 5; decide)
                  obtain ⟨hnm, hrt⟩ := hnr (Or.inl rfl)
                  have hMt := dxMt_all y hk
                  have hmet := dx_met ih b st cy D hk g2 hcall
                  have w1 := dxLk_w hlk (r := (p1, _)) (by exact List.mem_cons_self)
                  have w2 := dxLk_w hlk (r := (p2, _)) (by exact List.mem_cons_of_mem _ List.mem_cons_self)
                  have w4 := dxLk_w hlk (r := (p4, _)) (by exact List.mem_cons_of_mem _ (List.mem_cons_of_mem _ List.mem_cons_self))
                  simp only [dxRcv] at g3
                  generalize hvs : (List.take (dxNp y + 1) S).reverse = vs at *
                  have hlv : vs.length = dxNp y + 1 := by rw [← hvs, List.length_reverse]; exact hsl
                  split at g3
                  · rename_i a As
                    rw [hsplit]
                    have e1 : (((Value.ref a :: As).map (dxV b st)).reverse ++ (List.drop (dxNp y + 1) S).map (dxV b st)) = (As.map (dxV b st)).reverse ++ .ref (b + a) :: (List.drop (dxNp y + 1) S).map (dxV b st) := by
                      rw [List.map_cons, List.reverse_cons, List.append_assoc]
                      rfl
                    rw [e1]
                    exact dx_back (fun _ h => h) (va_runI (As := As.map (dxV b st)) (rest := (List.drop (dxNp y + 1) S).map (dxV b st)) ⟨hx, hb, hml, hown, hts⟩ hmet (cwI (dxNp y) hts (dxWs_good hk) (by unfold dxWs; rw [hrt]) rfl rfl (hts _ w4) (hts _ w1) (hts _ w2) hnm hMt.2.2.1 hRm) ⟨dxPc_blind, hpre⟩ rfl (by rw [List.length_map]; simpa using hlv) hl.1 rfl (by show 2 * 0 + _ ≤ 8; omega) hd hroom) hbs hS goOn
                  · cases g3
                · rename_i y' w hlk
                  cases hcal
                  obtain ⟨p1, p2, p3, p4⟩ := w
                  obtain ⟨hk, hnr⟩ := dxMk_all _ (dx_find hlk) (by show 4 < 5; decide)
                  obtain ⟨hnm, hrt⟩ := hnr (Or.inr rfl)
                  have hMt := dxMt_all y hk
                  have hmet := dx_met ih b st cy D hk g2 hcall
                  have w2 := dxLk_w hlk (r := (p2, _)) (by exact List.mem_cons_self)
                  have w4 := dxLk_w hlk (r := (p4, _)) (by exact List.mem_cons_of_mem _ List.mem_cons_self)
                  have hN := hFx.2.2.2.2 _ (dx_find hlk) (Or.inr rfl)
                  simp only [dxRcv] at g3
                  generalize hvs : (List.take (dxNp y + 1) S).reverse = vs at *
                  have hlv : vs.length = dxNp y + 1 := by rw [← hvs, List.length_reverse]; exact hsl
                  split at g3
                  · rename_i a As
                    rw [hsplit]
                    have e1 : (((Value.ref a :: As).map (dxV b st)).reverse ++ (List.drop (dxNp y + 1) S).map (dxV b st)) = (As.map (dxV b st)).reverse ++ .ref (b + a) :: (List.drop (dxNp y + 1) S).map (dxV b st) := by
                      rw [List.map_cons, List.reverse_cons, List.append_assoc]
                      rfl
                    rw [e1]
                    exact dx_back (fun _ h => h) (va_runIN (As := As.map (dxV b st)) (rest := (List.drop (dxNp y + 1) S).map (dxV b st)) ⟨hx, hb, hml, hown, hts⟩ hmet ⟨va_cnB (dxNp y) hts (dxWs_good hk) (by unfold dxWs; rw [hrt]) rfl rfl hN (hts _ w4) hMt.2.2.1 hRm, hnm, hts _ w2⟩ ⟨dxPc_blind, hpre⟩ rfl (by rw [List.length_map]; simpa using hlv) hl.1 rfl (by show 2 * 0 + _ ≤ 8; omega) hd hroom) hbs hS goOn
                  · cases g3
                · cases hcal
              · cases hcal
            · cases h
          · cases h
        · split at h
          · rename_i pc1 L1 S1 H1 z1 hst
            have m1 := dxStep_len hst
            have m2 := dxRun_len f h
            have goOn : ∀ (Hp' : Heap) (locs' : List Loc) (ls' : Array Slot), dxLs b st ls' (dxMl k) L1 → va_P D vwCl (dxWc b st cy H1) Hp' → va_S (fun q => b ≤ q) s.heap Hp' locs' → W p l e R s m args below meth c Hp' locs' (H1.length - n0) (z1 - z0) Q (F0 m pc1 ls' (S1.map (dxV b st))) := fun Hp' locs' ls' hl' hP' hS' =>
              ih b st cy D k pc1 L1 S1 H1 z1 r H' z' h p e R s m args below meth c Hp' locs' Q ls' n0 z0 hC hs0 (by omega) (by omega) hc1 hc2 hfr hlo hP' hS' hl' ret
            unfold dxStep at hst
            split at hst
            · rename_i hq; cases hst; exact dxPop_ok hx hb hd hq (goOn Hp locs ls hl hP hS)
            · split at hst
              · rename_i hq; cases hst; exact dxLoc_ok hx hb hd hl hq (fun ls' hl' => goOn Hp locs ls' hl' hP hS)
              · split at hst
                · rename_i hq; cases hst; exact dxJmp_ok hx hb hd hq (goOn Hp locs ls hl hP hS)
                · split at hst
                  · rename_i hq; cases hst; exact dxKst_ok hx hb hown hts hd hq (goOn Hp locs ls hl hP hS)
                  · split at hst
                    · rename_i hq
                      cases hst
                      refine dxHp_ok hx hb hown hname hts hFx.1 hP hS hFx.2.1 hFx.2.2.1 hd hq (fun Hp' locs' hlen hP' hS' => ?_)
                      rw [← hlen]
                      exact goOn Hp' locs' ls hl hP' hS'
                    · split at hst
                      · rename_i hq
                        cases hst
                        exact dxNw_ok hFx.2.2.2.1 hx hb hown hts hFx.1 hP hS hs0 hn0 hz0 (by omega) (by omega) hd hq (fun Hp' locs' _ _ hP' hS' => goOn Hp' locs' ls hl hP' hS')
                      · split at hst
                        · rename_i hq
                          cases hst
                          have hlen := dxBi_len hq
                          refine dxBi_ok hx hb (hml.trans hl.1.symm) hown hts hFx.1 hP hS hfr hlo (by omega) (by omega) hd hq (fun Hp' locs' hlen hP' hS' => ?_)
                          rw [← hlen]
                          exact goOn Hp' locs' ls hl hP' hS'
                        · cases hst
          · cases h
