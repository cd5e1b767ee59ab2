/-! the runs of the deep interpreter, walked by rules: a rule an instruction -/
def Ev (tb : dxT) (k pc : Nat) (L : dxL) (S : List Value) (H : dxH) (Q : Option Value → dxH → Prop) : Prop := ∃ (f : Nat) (r : Option Value) (H' : dxH), (∀ z : Nat, dxRun tb f k pc L S H z = some (r, H', z)) ∧ Q r H'
/-- a whole call -/
def Cl (tb : dxT) (k : Nat) (vs : List Value) (H : dxH) (Q : Option Value → dxH → Prop) : Prop := Ev tb k 0 (dxEnt k vs) [] H Q
theorem dxRun_more {tb : dxT} : ∀ (f : Nat) {k pc : Nat} {L : dxL} {S : List Value} {H : dxH} {z : Nat} {x : Option Value × dxH × Nat}, dxRun tb f k pc L S H z = some x → dxRun tb (f + 1) k pc L S H z = some x
  | 0, _, _, _, _, _, _, _, h => by cases h
  | f + 1, k, pc, L, S, H, z, x, h => by
    unfold dxRun at h
    unfold dxRun
    split at h
    · cases h
    · rename_i i n hI
      split at h
      · exact h
      · split at h
        · split at h
          · rename_i hg
            rw [if_pos hg]
            split at h
            · rename_i hq
              rw [dxRun_more f hq]
              exact dxRun_more f h
            · cases h
          · cases h
        · split at h
          · exact dxRun_more f h
          · cases h
theorem dxRun_add {tb : dxT} {f : Nat} (g : Nat) {k pc : Nat} {L : dxL} {S : List Value} {H : dxH} {z : Nat} {x : Option Value × dxH × Nat} (h : dxRun tb f k pc L S H z = some x) : dxRun tb (f + g) k pc L S H z = some x := by
  induction g with
  | zero => exact h
  | succ g ih => exact dxRun_more _ ih
section EV
variable {tb : dxT} {k pc : Nat} {L L' : dxL} {S S' : List Value} {H H' : dxH} {Q : Option Value → dxH → Prop} {i : Instr} {n pc' : Nat}
theorem Ev.post {Q' : Option Value → dxH → Prop} (h : Ev tb k pc L S H Q) (hq : ∀ r H', Q r H' → Q' r H') : Ev tb k pc L S H Q' := by
  obtain ⟨f, r, H', h1, h2⟩ := h
  exact ⟨f, r, H', h1, hq _ _ h2⟩
theorem ev_step (hI : dxI k pc = some (i, n)) (h1 : dxRet k i n S = none) (h2 : dxCal k i n = none) (h3 : ∀ z : Nat, dxStep tb k i n pc L S H z = some (pc', L', S', H', z)) (kk : Ev tb k pc' L' S' H' Q) : Ev tb k pc L S H Q := by
  obtain ⟨f, r, H'', h4, h5⟩ := kk
  refine ⟨f + 1, r, H'', fun z => ?_, h5⟩
  unfold dxRun
  simp only [hI, h1, h2, h3]
  exact h4 z
theorem ev_ret {r : Option Value} (hI : dxI k pc = some (i, n)) (h1 : dxRet k i n S = some r) (hq : Q r H) : Ev tb k pc L S H Q := by
  refine ⟨1, r, H, fun z => ?_, hq⟩
  unfold dxRun
  simp only [hI, h1]
theorem ev_call {y na : Nat} {Qc : Option Value → dxH → Prop} (hI : dxI k pc = some (i, n)) (h1 : dxRet k i n S = none) (h2 : dxCal k i n = some (y, na)) (hg : na ≤ S.length ∧ (dxArg (S.take na).reverse).length ≤ dxMl y ∧ dxRcv k y i (S.take na).reverse H = true ∧ dxW8 (S.drop na) = true ∧ dxFr y + 1 ≤ dxFr k ∧ 8 + (dxMl y + 11) + dxLo y ≤ dxLo k)
    (hc : Cl tb y (S.take na).reverse H Qc) (kk : ∀ r H1, Qc r H1 → Ev tb k (pc + 3) L (r.toList ++ S.drop na) H1 Q) : Ev tb k pc L S H Q := by
  obtain ⟨f, r, H1, h4, h5⟩ := hc
  obtain ⟨f', r', H', h6, h7⟩ := kk r H1 h5
  refine ⟨f + f' + 1, r', H', fun z => ?_, h7⟩
  unfold dxRun
  simp only [hI, h1, h2, if_pos hg, dxRun_add f' (h4 z)]
  rw [Nat.add_comm f f']
  exact dxRun_add f (h6 z)

theorem ev_iconst {c : Int} {v : Int32} (hI : dxI k pc = some (.iconst c, 1)) (hv : Int32.ofInt c = v) (kk : Ev tb k (pc + 1) L (.int v :: S) H Q) : Ev tb k pc L (S) H Q := ev_step hI rfl rfl (fun _ => by subst hv; rfl) kk
theorem ev_bipush {c : Int} {v : Int32} (hI : dxI k pc = some (.bipush c, 2)) (hv : (Int8.ofInt c).toInt32 = v) (kk : Ev tb k (pc + 2) L (.int v :: S) H Q) : Ev tb k pc L (S) H Q := ev_step hI rfl rfl (fun _ => by subst hv; rfl) kk
theorem ev_sipush {c : Int} {v : Int32} (hI : dxI k pc = some (.sipush c, 3)) (hv : (Int16.ofInt c).toInt32 = v) (kk : Ev tb k (pc + 3) L (.int v :: S) H Q) : Ev tb k pc L (S) H Q := ev_step hI rfl rfl (fun _ => by subst hv; rfl) kk
theorem ev_lconst {c : Fin 2} {v : Int64} (hI : dxI k pc = some (.lconst c, 1)) (hv : Int64.ofNat c = v) (kk : Ev tb k (pc + 1) L (.long v :: S) H Q) : Ev tb k pc L (S) H Q := ev_step hI rfl rfl (fun _ => by subst hv; rfl) kk
theorem ev_aconst_null (hI : dxI k pc = some (.aconst_null, 1)) (kk : Ev tb k (pc + 1) L (.null :: S) H Q) : Ev tb k pc L (S) H Q := ev_step hI rfl rfl (fun _ => rfl) kk
theorem ev_dup {v : Value} (hI : dxI k pc = some (.dup, 1)) (hv : v.category = 1) (kk : Ev tb k (pc + 1) L (v :: v :: S) H Q) : Ev tb k pc L (v :: S) H Q := ev_step hI rfl rfl (fun _ => by simp only [dxStep, dxPop, dxOne, if_pos hv]; rfl) kk
theorem ev_pop {v : Value} (hI : dxI k pc = some (.pop, 1)) (hv : v.category = 1) (kk : Ev tb k (pc + 1) L (S) H Q) : Ev tb k pc L (v :: S) H Q := ev_step hI rfl rfl (fun _ => by simp only [dxStep, dxPop, dxOne, if_pos hv]; rfl) kk
theorem ev_dup2 {v u : Value} (hI : dxI k pc = some (.dup2, 1)) (hv : v.category = 1) (hu : u.category = 1) (kk : Ev tb k (pc + 1) L (v :: u :: v :: u :: S) H Q) : Ev tb k pc L (v :: u :: S) H Q := ev_step hI rfl rfl (fun _ => by simp only [dxStep, dxPop, dxTwo, hv, hu, and_self, if_true]) kk
theorem ev_iadd {x y : Int32} (hI : dxI k pc = some (.iadd, 1)) (kk : Ev tb k (pc + 1) L (.int (x + y) :: S) H Q) : Ev tb k pc L (.int y :: .int x :: S) H Q := ev_step hI rfl rfl (fun _ => rfl) kk
theorem ev_isub {x y : Int32} (hI : dxI k pc = some (.isub, 1)) (kk : Ev tb k (pc + 1) L (.int (x - y) :: S) H Q) : Ev tb k pc L (.int y :: .int x :: S) H Q := ev_step hI rfl rfl (fun _ => rfl) kk
theorem ev_imul {x y : Int32} (hI : dxI k pc = some (.imul, 1)) (kk : Ev tb k (pc + 1) L (.int (x * y) :: S) H Q) : Ev tb k pc L (.int y :: .int x :: S) H Q := ev_step hI rfl rfl (fun _ => rfl) kk
theorem ev_iand {x y : Int32} (hI : dxI k pc = some (.iand, 1)) (kk : Ev tb k (pc + 1) L (.int (x &&& y) :: S) H Q) : Ev tb k pc L (.int y :: .int x :: S) H Q := ev_step hI rfl rfl (fun _ => rfl) kk
theorem ev_ior {x y : Int32} (hI : dxI k pc = some (.ior, 1)) (kk : Ev tb k (pc + 1) L (.int (x ||| y) :: S) H Q) : Ev tb k pc L (.int y :: .int x :: S) H Q := ev_step hI rfl rfl (fun _ => rfl) kk
theorem ev_ixor {x y : Int32} (hI : dxI k pc = some (.ixor, 1)) (kk : Ev tb k (pc + 1) L (.int (x ^^^ y) :: S) H Q) : Ev tb k pc L (.int y :: .int x :: S) H Q := ev_step hI rfl rfl (fun _ => rfl) kk
theorem ev_ishl {x y : Int32} (hI : dxI k pc = some (.ishl, 1)) (kk : Ev tb k (pc + 1) L (.int (x <<< (y &&& 31)) :: S) H Q) : Ev tb k pc L (.int y :: .int x :: S) H Q := ev_step hI rfl rfl (fun _ => rfl) kk
theorem ev_ishr {x y : Int32} (hI : dxI k pc = some (.ishr, 1)) (kk : Ev tb k (pc + 1) L (.int (x >>> (y &&& 31)) :: S) H Q) : Ev tb k pc L (.int y :: .int x :: S) H Q := ev_step hI rfl rfl (fun _ => rfl) kk
theorem ev_iushr {x y : Int32} (hI : dxI k pc = some (.iushr, 1)) (kk : Ev tb k (pc + 1) L (.int ((x.toUInt32 >>> (y.toUInt32 &&& Int32.toUInt32 31)).toInt32) :: S) H Q) : Ev tb k pc L (.int y :: .int x :: S) H Q := ev_step hI rfl rfl (fun _ => rfl) kk
theorem ev_idiv {x y : Int32} (hI : dxI k pc = some (.idiv, 1)) (hy : ¬ y = 0) (kk : Ev tb k (pc + 1) L (.int (x / y) :: S) H Q) : Ev tb k pc L (.int y :: .int x :: S) H Q := ev_step hI rfl rfl (fun _ => by simp only [dxStep, dxPop, dxII, if_neg hy]; rfl) kk
theorem ev_irem {x y : Int32} (hI : dxI k pc = some (.irem, 1)) (hy : ¬ y = 0) (kk : Ev tb k (pc + 1) L (.int (x - x / y * y) :: S) H Q) : Ev tb k pc L (.int y :: .int x :: S) H Q := ev_step hI rfl rfl (fun _ => by simp only [dxStep, dxPop, dxII, if_neg hy]; rfl) kk
theorem ev_ineg {x : Int32} (hI : dxI k pc = some (.ineg, 1)) (kk : Ev tb k (pc + 1) L (.int (-x) :: S) H Q) : Ev tb k pc L (.int x :: S) H Q := ev_step hI rfl rfl (fun _ => rfl) kk
theorem ev_i2l {x : Int32} (hI : dxI k pc = some (.i2l, 1)) (kk : Ev tb k (pc + 1) L (.long x.toInt64 :: S) H Q) : Ev tb k pc L (.int x :: S) H Q := ev_step hI rfl rfl (fun _ => rfl) kk
theorem ev_l2i {x : Int64} (hI : dxI k pc = some (.l2i, 1)) (kk : Ev tb k (pc + 1) L (.int x.toInt32 :: S) H Q) : Ev tb k pc L (.long x :: S) H Q := ev_step hI rfl rfl (fun _ => rfl) kk
theorem ev_ladd {x y : Int64} (hI : dxI k pc = some (.ladd, 1)) (kk : Ev tb k (pc + 1) L (.long (x + y) :: S) H Q) : Ev tb k pc L (.long y :: .long x :: S) H Q := ev_step hI rfl rfl (fun _ => rfl) kk
theorem ev_lmul {x y : Int64} (hI : dxI k pc = some (.lmul, 1)) (kk : Ev tb k (pc + 1) L (.long (x * y) :: S) H Q) : Ev tb k pc L (.long y :: .long x :: S) H Q := ev_step hI rfl rfl (fun _ => rfl) kk
theorem ev_land {x y : Int64} (hI : dxI k pc = some (.land, 1)) (kk : Ev tb k (pc + 1) L (.long (x &&& y) :: S) H Q) : Ev tb k pc L (.long y :: .long x :: S) H Q := ev_step hI rfl rfl (fun _ => rfl) kk
theorem ev_lor {x y : Int64} (hI : dxI k pc = some (.lor, 1)) (kk : Ev tb k (pc + 1) L (.long (x ||| y) :: S) H Q) : Ev tb k pc L (.long y :: .long x :: S) H Q := ev_step hI rfl rfl (fun _ => rfl) kk
theorem ev_lrem {x y : Int64} (hI : dxI k pc = some (.lrem, 1)) (hy : ¬ y = 0) (kk : Ev tb k (pc + 1) L (.long (x - x / y * y) :: S) H Q) : Ev tb k pc L (.long y :: .long x :: S) H Q := ev_step hI rfl rfl (fun _ => by simp only [dxStep, dxPop, dxJJ, if_neg hy]; rfl) kk
theorem ev_lcmp {x y : Int64} (hI : dxI k pc = some (.lcmp, 1)) (kk : Ev tb k (pc + 1) L (.int (lg_cmp x y) :: S) H Q) : Ev tb k pc L (.long y :: .long x :: S) H Q := ev_step hI rfl rfl (fun _ => rfl) kk
theorem ev_lshl {x : Int64} {y : Int32} (hI : dxI k pc = some (.lshl, 1)) (kk : Ev tb k (pc + 1) L (.long (x <<< (y.toInt64 &&& 63)) :: S) H Q) : Ev tb k pc L (.int y :: .long x :: S) H Q := ev_step hI rfl rfl (fun _ => rfl) kk
theorem ev_lushr {x : Int64} {y : Int32} (hI : dxI k pc = some (.lushr, 1)) (kk : Ev tb k (pc + 1) L (.long (x.toUInt64 >>> (y.toInt64.toUInt64 &&& Int64.toUInt64 63)).toInt64 :: S) H Q) : Ev tb k pc L (.int y :: .long x :: S) H Q := ev_step hI rfl rfl (fun _ => rfl) kk
theorem ev_iload_n {j : Fin 4} {x : Int32} (hI : dxI k pc = some (.iload_n j, 1)) (hl : L[(j : Nat)]? = some (some (.int x))) (kk : Ev tb k (pc + 1) L (.int x :: S) H Q) : Ev tb k pc L S H Q := ev_step hI rfl rfl (fun _ => by simp only [dxStep, dxPop, dxLoc, dxLdI, hl]) kk
theorem ev_iload {j : Nat} {x : Int32} (hI : dxI k pc = some (.iload j, 2)) (hl : L[(j : Nat)]? = some (some (.int x))) (kk : Ev tb k (pc + 2) L (.int x :: S) H Q) : Ev tb k pc L S H Q := ev_step hI rfl rfl (fun _ => by simp only [dxStep, dxPop, dxLoc, dxLdI, hl]) kk
theorem ev_lload_n {j : Fin 4} {x : Int64} (hI : dxI k pc = some (.lload_n j, 1)) (hl : L[(j : Nat)]? = some (some (.long x))) (kk : Ev tb k (pc + 1) L (.long x :: S) H Q) : Ev tb k pc L S H Q := ev_step hI rfl rfl (fun _ => by simp only [dxStep, dxPop, dxLoc, dxLdJ, hl]) kk
theorem ev_lload {j : Nat} {x : Int64} (hI : dxI k pc = some (.lload j, 2)) (hl : L[(j : Nat)]? = some (some (.long x))) (kk : Ev tb k (pc + 2) L (.long x :: S) H Q) : Ev tb k pc L S H Q := ev_step hI rfl rfl (fun _ => by simp only [dxStep, dxPop, dxLoc, dxLdJ, hl]) kk
theorem ev_aload_n {j : Fin 4} {x : Nat} (hI : dxI k pc = some (.aload_n j, 1)) (hl : L[(j : Nat)]? = some (some (.ref x))) (kk : Ev tb k (pc + 1) L (.ref x :: S) H Q) : Ev tb k pc L S H Q := ev_step hI rfl rfl (fun _ => by simp only [dxStep, dxPop, dxLoc, dxLdA, hl]) kk
theorem ev_aload {j : Nat} {x : Nat} (hI : dxI k pc = some (.aload j, 2)) (hl : L[(j : Nat)]? = some (some (.ref x))) (kk : Ev tb k (pc + 2) L (.ref x :: S) H Q) : Ev tb k pc L S H Q := ev_step hI rfl rfl (fun _ => by simp only [dxStep, dxPop, dxLoc, dxLdA, hl]) kk
theorem ev_aloadT_n {j : Fin 4} {x : UInt32} (hI : dxI k pc = some (.aload_n j, 1)) (hl : L[(j : Nat)]? = some (some (.float x))) (kk : Ev tb k (pc + 1) L (.float x :: S) H Q) : Ev tb k pc L S H Q := ev_step hI rfl rfl (fun _ => by simp only [dxStep, dxPop, dxLoc, dxLdA, hl]) kk
theorem ev_aloadT {j : Nat} {x : UInt32} (hI : dxI k pc = some (.aload j, 2)) (hl : L[(j : Nat)]? = some (some (.float x))) (kk : Ev tb k (pc + 2) L (.float x :: S) H Q) : Ev tb k pc L S H Q := ev_step hI rfl rfl (fun _ => by simp only [dxStep, dxPop, dxLoc, dxLdA, hl]) kk
theorem ev_istore_n {j : Fin 4} {x : Int32} (hI : dxI k pc = some (.istore_n j, 1)) (hl : (j : Nat) < L.length ∧ dxNo2 L j = true) (hL : L.set j (some (.int x)) = L') (kk : Ev tb k (pc + 1) L' S H Q) : Ev tb k pc L (.int x :: S) H Q := ev_step hI rfl rfl (fun _ => by simp only [dxStep, dxPop, dxLoc, dxStI, if_pos hl, hL]) kk
theorem ev_istore {j : Nat} {x : Int32} (hI : dxI k pc = some (.istore j, 2)) (hl : (j : Nat) < L.length ∧ dxNo2 L j = true) (hL : L.set j (some (.int x)) = L') (kk : Ev tb k (pc + 2) L' S H Q) : Ev tb k pc L (.int x :: S) H Q := ev_step hI rfl rfl (fun _ => by simp only [dxStep, dxPop, dxLoc, dxStI, if_pos hl, hL]) kk
theorem ev_astore_n {j : Fin 4} {x : Nat} (hI : dxI k pc = some (.astore_n j, 1)) (hl : (j : Nat) < L.length ∧ dxNo2 L j = true) (hL : L.set j (some (.ref x)) = L') (kk : Ev tb k (pc + 1) L' S H Q) : Ev tb k pc L (.ref x :: S) H Q := ev_step hI rfl rfl (fun _ => by simp only [dxStep, dxPop, dxLoc, dxStA, if_pos hl, hL]) kk
theorem ev_astore {j : Nat} {x : Nat} (hI : dxI k pc = some (.astore j, 2)) (hl : (j : Nat) < L.length ∧ dxNo2 L j = true) (hL : L.set j (some (.ref x)) = L') (kk : Ev tb k (pc + 2) L' S H Q) : Ev tb k pc L (.ref x :: S) H Q := ev_step hI rfl rfl (fun _ => by simp only [dxStep, dxPop, dxLoc, dxStA, if_pos hl, hL]) kk
theorem ev_lstore_n {j : Fin 4} {x : Int64} (hI : dxI k pc = some (.lstore_n j, 1)) (hl : (j : Nat) + 1 < L.length ∧ dxNo2 L j = true) (hL : (L.set j (some (.long x))).set (j + 1) none = L') (kk : Ev tb k (pc + 1) L' S H Q) : Ev tb k pc L (.long x :: S) H Q := ev_step hI rfl rfl (fun _ => by simp only [dxStep, dxPop, dxLoc, dxStJ, if_pos hl, hL]) kk
theorem ev_lstore {j : Nat} {x : Int64} (hI : dxI k pc = some (.lstore j, 2)) (hl : (j : Nat) + 1 < L.length ∧ dxNo2 L j = true) (hL : (L.set j (some (.long x))).set (j + 1) none = L') (kk : Ev tb k (pc + 2) L' S H Q) : Ev tb k pc L (.long x :: S) H Q := ev_step hI rfl rfl (fun _ => by simp only [dxStep, dxPop, dxLoc, dxStJ, if_pos hl, hL]) kk
theorem ev_iinc {j : Nat} {d : Int} {x v : Int32} (hI : dxI k pc = some (.iinc j d, 3)) (hl : L[j]? = some (some (.int x))) (hn : dxNo2 L j = true) (hv : x + Int32.ofInt d = v) (hL : L.set j (some (.int v)) = L') (kk : Ev tb k (pc + 3) L' S H Q) : Ev tb k pc L S H Q := ev_step hI rfl rfl (fun _ => by subst hv; simp only [dxStep, dxPop, dxLoc, hl, if_pos hn, hL]) kk
theorem ev_goto {o : Int} {t : Nat} (hI : dxI k pc = some (.goto o, 3)) (ht : (pc : Int) + o = (t : Int)) (kk : Ev tb k t L S H Q) : Ev tb k pc L S H Q := by
  have h0 : 0 ≤ (pc : Int) + o := by omega
  have h1 : dxTg pc o = t := by unfold dxTg; omega
  exact ev_step hI rfl rfl (fun _ => by simp only [dxStep, dxPop, dxLoc, dxJmp, if_pos h0, h1]) kk
theorem ev_icmp_eq {o : Int} {t : Nat} {x y : Int32} (hI : dxI k pc = some (.if_icmp .eq o, 3)) (ht : (pc : Int) + o = (t : Int)) (kt : x = y → Ev tb k t L S H Q) (kf : ¬ x = y → Ev tb k (pc + 3) L S H Q) : Ev tb k pc L (.int y :: .int x :: S) H Q := by
  have h0 : 0 ≤ (pc : Int) + o := by omega
  have h1 : dxTg pc o = t := by unfold dxTg; omega
  by_cases c : x = y
  · refine ev_step (pc' := t) hI rfl rfl (fun _ => ?_) (kt c)
    simp only [dxStep, dxPop, dxLoc, dxJmp, if_pos h0, h1, dxIf2]
    simp [c]
  · refine ev_step (pc' := pc + 3) hI rfl rfl (fun _ => ?_) (kf (by first | exact c | exact Classical.not_not.mp c))
    simp only [dxStep, dxPop, dxLoc, dxJmp, if_pos h0, h1, dxIf2]
    simp [c]
theorem ev_icmp_ne {o : Int} {t : Nat} {x y : Int32} (hI : dxI k pc = some (.if_icmp .ne o, 3)) (ht : (pc : Int) + o = (t : Int)) (kt : ¬ x = y → Ev tb k t L S H Q) (kf : x = y → Ev tb k (pc + 3) L S H Q) : Ev tb k pc L (.int y :: .int x :: S) H Q := by
  have h0 : 0 ≤ (pc : Int) + o := by omega
  have h1 : dxTg pc o = t := by unfold dxTg; omega
  by_cases c : ¬ x = y
  · refine ev_step (pc' := t) hI rfl rfl (fun _ => ?_) (kt c)
    simp only [dxStep, dxPop, dxLoc, dxJmp, if_pos h0, h1, dxIf2]
    simp [c]
  · refine ev_step (pc' := pc + 3) hI rfl rfl (fun _ => ?_) (kf (by first | exact c | exact Classical.not_not.mp c))
    simp only [dxStep, dxPop, dxLoc, dxJmp, if_pos h0, h1, dxIf2]
    simp [c]
theorem ev_icmp_lt {o : Int} {t : Nat} {x y : Int32} (hI : dxI k pc = some (.if_icmp .lt o, 3)) (ht : (pc : Int) + o = (t : Int)) (kt : x < y → Ev tb k t L S H Q) (kf : ¬ x < y → Ev tb k (pc + 3) L S H Q) : Ev tb k pc L (.int y :: .int x :: S) H Q := by
  have h0 : 0 ≤ (pc : Int) + o := by omega
  have h1 : dxTg pc o = t := by unfold dxTg; omega
  by_cases c : x < y
  · refine ev_step (pc' := t) hI rfl rfl (fun _ => ?_) (kt c)
    simp only [dxStep, dxPop, dxLoc, dxJmp, if_pos h0, h1, dxIf2]
    simp [c]
  · refine ev_step (pc' := pc + 3) hI rfl rfl (fun _ => ?_) (kf (by first | exact c | exact Classical.not_not.mp c))
    simp only [dxStep, dxPop, dxLoc, dxJmp, if_pos h0, h1, dxIf2]
    simp [c]
theorem ev_icmp_ge {o : Int} {t : Nat} {x y : Int32} (hI : dxI k pc = some (.if_icmp .ge o, 3)) (ht : (pc : Int) + o = (t : Int)) (kt : y ≤ x → Ev tb k t L S H Q) (kf : ¬ y ≤ x → Ev tb k (pc + 3) L S H Q) : Ev tb k pc L (.int y :: .int x :: S) H Q := by
  have h0 : 0 ≤ (pc : Int) + o := by omega
  have h1 : dxTg pc o = t := by unfold dxTg; omega
  by_cases c : y ≤ x
  · refine ev_step (pc' := t) hI rfl rfl (fun _ => ?_) (kt c)
    simp only [dxStep, dxPop, dxLoc, dxJmp, if_pos h0, h1, dxIf2]
    simp [c]
  · refine ev_step (pc' := pc + 3) hI rfl rfl (fun _ => ?_) (kf (by first | exact c | exact Classical.not_not.mp c))
    simp only [dxStep, dxPop, dxLoc, dxJmp, if_pos h0, h1, dxIf2]
    simp [c]
theorem ev_icmp_gt {o : Int} {t : Nat} {x y : Int32} (hI : dxI k pc = some (.if_icmp .gt o, 3)) (ht : (pc : Int) + o = (t : Int)) (kt : y < x → Ev tb k t L S H Q) (kf : ¬ y < x → Ev tb k (pc + 3) L S H Q) : Ev tb k pc L (.int y :: .int x :: S) H Q := by
  have h0 : 0 ≤ (pc : Int) + o := by omega
  have h1 : dxTg pc o = t := by unfold dxTg; omega
  by_cases c : y < x
  · refine ev_step (pc' := t) hI rfl rfl (fun _ => ?_) (kt c)
    simp only [dxStep, dxPop, dxLoc, dxJmp, if_pos h0, h1, dxIf2]
    simp [c]
  · refine ev_step (pc' := pc + 3) hI rfl rfl (fun _ => ?_) (kf (by first | exact c | exact Classical.not_not.mp c))
    simp only [dxStep, dxPop, dxLoc, dxJmp, if_pos h0, h1, dxIf2]
    simp [c]
theorem ev_icmp_le {o : Int} {t : Nat} {x y : Int32} (hI : dxI k pc = some (.if_icmp .le o, 3)) (ht : (pc : Int) + o = (t : Int)) (kt : x ≤ y → Ev tb k t L S H Q) (kf : ¬ x ≤ y → Ev tb k (pc + 3) L S H Q) : Ev tb k pc L (.int y :: .int x :: S) H Q := by
  have h0 : 0 ≤ (pc : Int) + o := by omega
  have h1 : dxTg pc o = t := by unfold dxTg; omega
  by_cases c : x ≤ y
  · refine ev_step (pc' := t) hI rfl rfl (fun _ => ?_) (kt c)
    simp only [dxStep, dxPop, dxLoc, dxJmp, if_pos h0, h1, dxIf2]
    simp [c]
  · refine ev_step (pc' := pc + 3) hI rfl rfl (fun _ => ?_) (kf (by first | exact c | exact Classical.not_not.mp c))
    simp only [dxStep, dxPop, dxLoc, dxJmp, if_pos h0, h1, dxIf2]
    simp [c]
theorem ev_if_eq {o : Int} {t : Nat} {x : Int32} (hI : dxI k pc = some (.ifCond .eq o, 3)) (ht : (pc : Int) + o = (t : Int)) (kt : x = 0 → Ev tb k t L S H Q) (kf : ¬ x = 0 → Ev tb k (pc + 3) L S H Q) : Ev tb k pc L (.int x :: S) H Q := by
  have h0 : 0 ≤ (pc : Int) + o := by omega
  have h1 : dxTg pc o = t := by unfold dxTg; omega
  by_cases c : x = 0
  · refine ev_step (pc' := t) hI rfl rfl (fun _ => ?_) (kt c)
    simp only [dxStep, dxPop, dxLoc, dxJmp, if_pos h0, h1, dxIf1]
    simp [c]
  · refine ev_step (pc' := pc + 3) hI rfl rfl (fun _ => ?_) (kf (by first | exact c | exact Classical.not_not.mp c))
    simp only [dxStep, dxPop, dxLoc, dxJmp, if_pos h0, h1, dxIf1]
    simp [c]
theorem ev_if_ne {o : Int} {t : Nat} {x : Int32} (hI : dxI k pc = some (.ifCond .ne o, 3)) (ht : (pc : Int) + o = (t : Int)) (kt : ¬ x = 0 → Ev tb k t L S H Q) (kf : x = 0 → Ev tb k (pc + 3) L S H Q) : Ev tb k pc L (.int x :: S) H Q := by
  have h0 : 0 ≤ (pc : Int) + o := by omega
  have h1 : dxTg pc o = t := by unfold dxTg; omega
  by_cases c : ¬ x = 0
  · refine ev_step (pc' := t) hI rfl rfl (fun _ => ?_) (kt c)
    simp only [dxStep, dxPop, dxLoc, dxJmp, if_pos h0, h1, dxIf1]
    simp [c]
  · refine ev_step (pc' := pc + 3) hI rfl rfl (fun _ => ?_) (kf (by first | exact c | exact Classical.not_not.mp c))
    simp only [dxStep, dxPop, dxLoc, dxJmp, if_pos h0, h1, dxIf1]
    simp [c]
theorem ev_if_lt {o : Int} {t : Nat} {x : Int32} (hI : dxI k pc = some (.ifCond .lt o, 3)) (ht : (pc : Int) + o = (t : Int)) (kt : x < 0 → Ev tb k t L S H Q) (kf : ¬ x < 0 → Ev tb k (pc + 3) L S H Q) : Ev tb k pc L (.int x :: S) H Q := by
  have h0 : 0 ≤ (pc : Int) + o := by omega
  have h1 : dxTg pc o = t := by unfold dxTg; omega
  by_cases c : x < 0
  · refine ev_step (pc' := t) hI rfl rfl (fun _ => ?_) (kt c)
    simp only [dxStep, dxPop, dxLoc, dxJmp, if_pos h0, h1, dxIf1]
    simp [c]
  · refine ev_step (pc' := pc + 3) hI rfl rfl (fun _ => ?_) (kf (by first | exact c | exact Classical.not_not.mp c))
    simp only [dxStep, dxPop, dxLoc, dxJmp, if_pos h0, h1, dxIf1]
    simp [c]
theorem ev_if_ge {o : Int} {t : Nat} {x : Int32} (hI : dxI k pc = some (.ifCond .ge o, 3)) (ht : (pc : Int) + o = (t : Int)) (kt : 0 ≤ x → Ev tb k t L S H Q) (kf : ¬ 0 ≤ x → Ev tb k (pc + 3) L S H Q) : Ev tb k pc L (.int x :: S) H Q := by
  have h0 : 0 ≤ (pc : Int) + o := by omega
  have h1 : dxTg pc o = t := by unfold dxTg; omega
  by_cases c : 0 ≤ x
  · refine ev_step (pc' := t) hI rfl rfl (fun _ => ?_) (kt c)
    simp only [dxStep, dxPop, dxLoc, dxJmp, if_pos h0, h1, dxIf1]
    simp [c]
  · refine ev_step (pc' := pc + 3) hI rfl rfl (fun _ => ?_) (kf (by first | exact c | exact Classical.not_not.mp c))
    simp only [dxStep, dxPop, dxLoc, dxJmp, if_pos h0, h1, dxIf1]
    simp [c]
theorem ev_if_gt {o : Int} {t : Nat} {x : Int32} (hI : dxI k pc = some (.ifCond .gt o, 3)) (ht : (pc : Int) + o = (t : Int)) (kt : 0 < x → Ev tb k t L S H Q) (kf : ¬ 0 < x → Ev tb k (pc + 3) L S H Q) : Ev tb k pc L (.int x :: S) H Q := by
  have h0 : 0 ≤ (pc : Int) + o := by omega
  have h1 : dxTg pc o = t := by unfold dxTg; omega
  by_cases c : 0 < x
  · refine ev_step (pc' := t) hI rfl rfl (fun _ => ?_) (kt c)
    simp only [dxStep, dxPop, dxLoc, dxJmp, if_pos h0, h1, dxIf1]
    simp [c]
  · refine ev_step (pc' := pc + 3) hI rfl rfl (fun _ => ?_) (kf (by first | exact c | exact Classical.not_not.mp c))
    simp only [dxStep, dxPop, dxLoc, dxJmp, if_pos h0, h1, dxIf1]
    simp [c]
theorem ev_if_le {o : Int} {t : Nat} {x : Int32} (hI : dxI k pc = some (.ifCond .le o, 3)) (ht : (pc : Int) + o = (t : Int)) (kt : x ≤ 0 → Ev tb k t L S H Q) (kf : ¬ x ≤ 0 → Ev tb k (pc + 3) L S H Q) : Ev tb k pc L (.int x :: S) H Q := by
  have h0 : 0 ≤ (pc : Int) + o := by omega
  have h1 : dxTg pc o = t := by unfold dxTg; omega
  by_cases c : x ≤ 0
  · refine ev_step (pc' := t) hI rfl rfl (fun _ => ?_) (kt c)
    simp only [dxStep, dxPop, dxLoc, dxJmp, if_pos h0, h1, dxIf1]
    simp [c]
  · refine ev_step (pc' := pc + 3) hI rfl rfl (fun _ => ?_) (kf (by first | exact c | exact Classical.not_not.mp c))
    simp only [dxStep, dxPop, dxLoc, dxJmp, if_pos h0, h1, dxIf1]
    simp [c]
theorem ev_ifnullR {o : Int} {a : Nat} (hI : dxI k pc = some (.ifnull o, 3)) (ht : 0 ≤ (pc : Int) + o) (kk : Ev tb k (pc + 3) L S H Q) : Ev tb k pc L (.ref a :: S) H Q := ev_step hI rfl rfl (fun _ => by simp only [dxStep, dxPop, dxLoc, dxJmp, if_pos ht]) kk
theorem ev_tabIn {d lo hi o : Int} {offs : Array Int} {t : Nat} {x : Int32} (hI : dxI k pc = some (.tableswitch d lo hi offs, n)) (h1 : ¬ (x.toInt < lo ∨ hi < x.toInt)) (h2 : offs[(x.toInt - lo).toNat]? = some o) (ht : (pc : Int) + o = (t : Int)) (kk : Ev tb k t L S H Q) : Ev tb k pc L (.int x :: S) H Q := by
  have h0 : 0 ≤ (pc : Int) + o := by omega
  have h3 : dxTg pc o = t := by unfold dxTg; omega
  refine ev_step (pc' := t) hI (by rfl) (by rfl) (fun _ => ?_) kk
  simp only [dxStep, dxPop, dxLoc, dxJmp, if_neg h1, h2, if_pos h0, h3]
theorem ev_tabOut {d lo hi : Int} {offs : Array Int} {t : Nat} {x : Int32} (hI : dxI k pc = some (.tableswitch d lo hi offs, n)) (h1 : x.toInt < lo ∨ hi < x.toInt) (ht : (pc : Int) + d = (t : Int)) (kk : Ev tb k t L S H Q) : Ev tb k pc L (.int x :: S) H Q := by
  have h0 : 0 ≤ (pc : Int) + d := by omega
  have h3 : dxTg pc d = t := by unfold dxTg; omega
  refine ev_step (pc' := t) hI (by rfl) (by rfl) (fun _ => ?_) kk
  simp only [dxStep, dxPop, dxLoc, dxJmp, if_pos h1, if_pos h0, h3]
theorem ev_ldc2 {ci idx w : Nat} {v : Int64} (hI : dxI k pc = some (.ldc2_w idx, 3)) (hc : dxCi k = ci) (hk : dxK ci idx = some (.inr v, w)) (kk : Ev tb k (pc + 3) L (.long v :: S) H Q) : Ev tb k pc L S H Q := ev_step hI rfl rfl (fun _ => by simp only [dxStep, dxPop, dxLoc, dxJmp, dxKst, hc, hk]) kk
theorem ev_ldcw {ci idx w : Nat} {v : Int32} (hI : dxI k pc = some (.ldc_w idx, 3)) (hc : dxCi k = ci) (hk : dxK ci idx = some (.inl v, w)) (kk : Ev tb k (pc + 3) L (.int v :: S) H Q) : Ev tb k pc L S H Q := ev_step hI rfl rfl (fun _ => by simp only [dxStep, dxPop, dxLoc, dxJmp, dxKst, hc, hk]) kk
theorem ev_get {ci idx c j w a : Nat} {fs : List Value} {v : Value} (hI : dxI k pc = some (.getfield idx, 3)) (hc : dxCi k = ci) (hf : dxF ci idx = some (c, j, w)) (ho : H[a]? = some (.inr (c, fs))) (hv : fs[j]? = some v) (kk : Ev tb k (pc + 3) L (v :: S) H Q) : Ev tb k pc L (.ref a :: S) H Q := ev_step hI rfl rfl (fun _ => by simp only [dxStep, dxPop, dxLoc, dxJmp, dxKst, dxHp, dxGet, hc, hf, ho, hv, if_true]) kk
theorem ev_put {ci idx c j w a : Nat} {fs fs' : List Value} {v : Value} (hI : dxI k pc = some (.putfield idx, 3)) (hc : dxCi k = ci) (hf : dxF ci idx = some (c, j, w)) (ho : H[a]? = some (.inr (c, fs))) (hg : j < fs.length ∧ dxFit (dxTyp c j) v = true ∧ (((dxCl c).2.1 j).2.2.2 = false ∨ ((dxY k).name = "<init>" ∧ c = dxCi k))) (hs : fs.set j v = fs') (kk : Ev tb k (pc + 3) L S (H.set a (.inr (c, fs'))) Q) : Ev tb k pc L (v :: .ref a :: S) H Q := ev_step hI rfl rfl (fun _ => by simp only [dxStep, dxPop, dxLoc, dxJmp, dxKst, dxHp, dxPut, hc, hf, ho]; rw [if_pos ⟨trivial, by rw [hc] at hg; exact hg⟩, hs]) kk
theorem ev_iald {a m : Nat} {x : Int32} {f : Nat → Int32} (hI : dxI k pc = some (.iaload, 1)) (ho : H[a]? = some (.inl (0, m, .inl f))) (hin : dxIn x m = true) (kk : Ev tb k (pc + 1) L (.int (f x.toNatClampNeg) :: S) H Q) : Ev tb k pc L (.int x :: .ref a :: S) H Q := ev_step hI rfl rfl (fun _ => by simp only [dxStep, dxPop, dxLoc, dxJmp, dxKst, dxHp, dxALd, ho]; rw [if_pos ⟨trivial, hin⟩]) kk
theorem ev_iald_n {a m j : Nat} {f : Nat → Int32} (hI : dxI k pc = some (.iaload, 1)) (ho : H[a]? = some (.inl (0, m, .inl f))) (hj : j < m ∧ m < 2147483648) (kk : Ev tb k (pc + 1) L (.int (f j) :: S) H Q) : Ev tb k pc L (.int (nI j) :: .ref a :: S) H Q := by
  have e1 : (nI j).toNatClampNeg = j := nI_clamp (Nat.lt_trans hj.1 hj.2)
  refine ev_iald hI ho ?_ (by rw [e1]; exact kk)
  unfold dxIn
  exact decide_eq_true (vp_in_nI hj.1 hj.2)
theorem ev_bald {a m : Nat} {x : Int32} {f : Nat → Int32} (hI : dxI k pc = some (.baload, 1)) (ho : H[a]? = some (.inl (1, m, .inl f))) (hin : dxIn x m = true) (kk : Ev tb k (pc + 1) L (.int (f x.toNatClampNeg) :: S) H Q) : Ev tb k pc L (.int x :: .ref a :: S) H Q := ev_step hI rfl rfl (fun _ => by simp only [dxStep, dxPop, dxLoc, dxJmp, dxKst, dxHp, dxALd, ho]; rw [if_pos ⟨trivial, hin⟩]) kk
theorem ev_tald {m : Nat} {u : UInt32} {x : Int32} {f : Nat → Int32} (hI : dxI k pc = some (.iaload, 1)) (hu : u.toNat < 5) (ht : tb u.toNat = (m, f)) (hin : dxIn x m = true) (kk : Ev tb k (pc + 1) L (.int (f x.toNatClampNeg) :: S) H Q) : Ev tb k pc L (.int x :: .float u :: S) H Q := ev_step hI rfl rfl (fun _ => by simp only [dxStep, dxPop, dxLoc, dxJmp, dxKst, dxHp, dxALd, ht]; rw [if_pos ⟨trivial, hu, hin⟩]) kk
theorem ev_iast {a m : Nat} {x y : Int32} {f : Nat → Int32} (hI : dxI k pc = some (.iastore, 1)) (ho : H[a]? = some (.inl (0, m, .inl f))) (hin : dxIn x m = true) (kk : Ev tb k (pc + 1) L S (H.set a (.inl (0, m, .inl (upd f x.toNatClampNeg y)))) Q) : Ev tb k pc L (.int y :: .int x :: .ref a :: S) H Q := ev_step hI rfl rfl (fun _ => by simp only [dxStep, dxPop, dxLoc, dxJmp, dxKst, dxHp, dxASt, ho]; rw [if_pos ⟨trivial, hin, fun h => absurd h (by decide)⟩]) kk
theorem ev_bast {a m : Nat} {x y : Int32} {f : Nat → Int32} (hI : dxI k pc = some (.bastore, 1)) (ho : H[a]? = some (.inl (1, m, .inl f))) (hin : dxIn x m = true) (hy : vp_nar .boolean y = y) (kk : Ev tb k (pc + 1) L S (H.set a (.inl (1, m, .inl (upd f x.toNatClampNeg y)))) Q) : Ev tb k pc L (.int y :: .int x :: .ref a :: S) H Q := ev_step hI rfl rfl (fun _ => by simp only [dxStep, dxPop, dxLoc, dxJmp, dxKst, dxHp, dxASt, ho]; rw [if_pos ⟨trivial, hin, fun _ => hy⟩]) kk
theorem ev_aald {a m v : Nat} {x : Int32} {f : Nat → Option Nat} (hI : dxI k pc = some (.aaload, 1)) (ho : H[a]? = some (.inl (2, m, .inr (.inr (.inr (.inr f)))))) (hin : dxIn x m = true) (hv : f x.toNatClampNeg = some v) (kk : Ev tb k (pc + 1) L (.ref v :: S) H Q) : Ev tb k pc L (.int x :: .ref a :: S) H Q := ev_step hI rfl rfl (fun _ => by simp only [dxStep, dxPop, dxLoc, dxJmp, dxKst, dxHp, dxQLd, ho]; rw [if_pos ⟨trivial, hin⟩, hv]; rfl) kk
theorem ev_alen {a t m : Nat} {x : (Nat → Int32) ⊕ (Nat → Int64) ⊕ (Nat → UInt32) ⊕ (Nat → UInt64) ⊕ (Nat → Option Nat)} (hI : dxI k pc = some (.arraylength, 1)) (ho : H[a]? = some (.inl (t, m, x))) (ht : t < 3) (kk : Ev tb k (pc + 1) L (.int (nI m) :: S) H Q) : Ev tb k pc L (.ref a :: S) H Q := ev_step hI rfl rfl (fun _ => by simp only [dxStep, dxPop, dxLoc, dxJmp, dxKst, dxHp, dxLen, ho]; rw [if_pos ht]; rfl) kk
theorem ev_tlen {m : Nat} {u : UInt32} {f : Nat → Int32} (hI : dxI k pc = some (.arraylength, 1)) (hu : u.toNat < 5) (ht : tb u.toNat = (m, f)) (kk : Ev tb k (pc + 1) L (.int (nI m) :: S) H Q) : Ev tb k pc L (.float u :: S) H Q := ev_step hI rfl rfl (fun _ => by simp only [dxStep, dxPop, dxLoc, dxJmp, dxKst, dxHp, dxLen, ht]; rw [if_pos hu]; rfl) kk
theorem ev_gets {ci idx u w : Nat} (hI : dxI k pc = some (.getstatic idx, 3)) (hc : dxCi k = ci) (hs : dxS ci idx = some (u, w)) (kk : Ev tb k (pc + 3) L (.float (UInt32.ofNat u) :: S) H Q) : Ev tb k pc L S H Q := ev_step hI rfl rfl (fun _ => by simp only [dxStep, dxPop, dxLoc, dxJmp, dxKst, dxHp, hc, hs]) kk
theorem ev_mth {ci idx : Nat} {S' : List Value} (hI : dxI k pc = some (.invokestatic idx, 3)) (hb : dxBi k (.invokestatic idx) 3 S H = some (S', H)) (hc : dxCal k (.invokestatic idx) 3 = none) (kk : Ev tb k (pc + 3) L S' H Q) : Ev tb k pc L S H Q := ev_step hI rfl hc (fun _ => by simp only [dxStep, dxPop, dxLoc, dxJmp, dxKst, dxHp, dxNw, hb]) kk
theorem ev_abs {ci idx : Nat} {w : Nat × Nat × Nat × Nat × Nat} {x : Int32} (hI : dxI k pc = some (.invokestatic idx, 3)) (hc : dxCi k = ci) (hl : dxLk ci idx = some (6, w)) (hr : 1 ≤ dxFr k ∧ 21 ≤ dxLo k) (hw : dxW8 S = true) (kk : Ev tb k (pc + 3) L (.int (if 0 ≤ x then x else 0 - x) :: S) H Q) : Ev tb k pc L (.int x :: S) H Q := ev_mth (ci := ci) hI (by simp only [dxBi, hc, hl, if_pos hr, if_pos hw]) (by simp only [dxCal, hc, hl]) kk
theorem ev_min {ci idx : Nat} {w : Nat × Nat × Nat × Nat × Nat} {x y : Int32} (hI : dxI k pc = some (.invokestatic idx, 3)) (hc : dxCi k = ci) (hl : dxLk ci idx = some (7, w)) (hr : 1 ≤ dxFr k ∧ 21 ≤ dxLo k) (hw : dxW8 S = true) (kk : Ev tb k (pc + 3) L (.int (if y < x then y else x) :: S) H Q) : Ev tb k pc L (.int y :: .int x :: S) H Q := ev_mth (ci := ci) hI (by simp only [dxBi, hc, hl, if_pos hr, if_pos hw]) (by simp only [dxCal, hc, hl]) kk
theorem ev_copy {ci idx : Nat} {w : Nat × Nat × Nat × Nat × Nat} {sp dp m : Int32} {a b n0 n1 : Nat} {f g : Nat → Int32} (hI : dxI k pc = some (.invokestatic idx, 3)) (hc : dxCi k = ci) (hl : dxLk ci idx = some (9, w)) (hr : (1 ≤ dxFr k ∧ 21 ≤ dxLo k) ∧ 26 ≤ dxLo k) (h0 : H[b]? = some (.inl (0, n0, .inl f))) (h1 : H[a]? = some (.inl (0, n1, .inl g))) (hw : dxW8 S = true ∧ ¬ sp < 0 ∧ ¬ dp < 0 ∧ ¬ m < 0 ∧ sp.toNatClampNeg + m.toNatClampNeg ≤ n0 ∧ dp.toNatClampNeg + m.toNatClampNeg ≤ n1) (kk : Ev tb k (pc + 3) L S (H.set a (.inl (0, n1, .inl (va_cpy f g sp.toNatClampNeg dp.toNatClampNeg m.toNatClampNeg)))) Q) : Ev tb k pc L (.int m :: .int dp :: .ref a :: .int sp :: .ref b :: S) H Q := ev_step hI rfl (by simp only [dxCal, hc, hl]) (fun _ => by simp only [dxStep, dxPop, dxLoc, dxJmp, dxKst, dxHp, dxNw, dxBi, hc, hl, if_pos hr.1, if_pos hr.2, dxCpy, h0, h1, if_pos hw]) kk
-- calls
theorem ev_callV {ci idx y na a c : Nat} {w : Nat × Nat × Nat × Nat} {vs rest : List Value} {fs : List Value} {Qc : Option Value → dxH → Prop} (hI : dxI k pc = some (.invokevirtual idx, 3)) (hc : dxCi k = ci) (hl : dxLk ci idx = some (0, y, w)) (hn : dxNp y + 1 = na) (hcy : dxCi y = c) (hc9 : c < 9) (hr : dxFr y + 1 ≤ dxFr k ∧ 8 + (dxMl y + 11) + dxLo y ≤ dxLo k) (ha : (dxArg (.ref a :: vs)).length ≤ dxMl y) (hS : S.take na = (Value.ref a :: vs).reverse ∧ S.drop na = rest ∧ na ≤ S.length) (hw : dxW8 rest = true) (ho : H[a]? = some (.inr (c, fs)))
    (hcl : Cl tb y (.ref a :: vs) H Qc) (kk : ∀ r H1, Qc r H1 → Ev tb k (pc + 3) L (r.toList ++ rest) H1 Q) : Ev tb k pc L S H Q := by
  obtain ⟨s1, s2, s3⟩ := hS
  refine ev_call (y := y) (na := na) (Qc := Qc) hI rfl (by simp only [dxCal, hc, hl, hn]) ⟨s3, ?_, ?_, ?_, hr⟩ ?_ ?_
  · rw [s1, List.reverse_reverse]; exact ha
  · rw [s1, List.reverse_reverse]
    simp only [dxRcv, ho, hcy]
    simp [hc9]
  · rw [s2]; exact hw
  · rw [s1, List.reverse_reverse]; exact hcl
  · rw [s2]; exact kk
theorem ev_callS {ci idx y na kd : Nat} {w : Nat × Nat × Nat × Nat} {vs rest : List Value} {Qc : Option Value → dxH → Prop} (hI : dxI k pc = some (.invokestatic idx, 3)) (hc : dxCi k = ci) (hl : dxLk ci idx = some (kd, y, w)) (hkd : kd = 1 ∨ kd = 2) (hn : dxNp y = na) (hr : dxFr y + 1 ≤ dxFr k ∧ 8 + (dxMl y + 11) + dxLo y ≤ dxLo k) (ha : (dxArg vs).length ≤ dxMl y) (hS : S.take na = vs.reverse ∧ S.drop na = rest ∧ na ≤ S.length) (hw : dxW8 rest = true)
    (hcl : Cl tb y vs H Qc) (kk : ∀ r H1, Qc r H1 → Ev tb k (pc + 3) L (r.toList ++ rest) H1 Q) : Ev tb k pc L S H Q := by
  obtain ⟨s1, s2, s3⟩ := hS
  refine ev_call (y := y) (na := na) (Qc := Qc) hI rfl ?_ ⟨s3, ?_, ?_, ?_, hr⟩ ?_ ?_
  · rcases hkd with rfl | rfl <;> simp only [dxCal, hc, hl, hn]
  · rw [s1, List.reverse_reverse]; exact ha
  · rfl
  · rw [s2]; exact hw
  · rw [s1, List.reverse_reverse]; exact hcl
  · rw [s2]; exact kk
-- returns
theorem ev_iret {x : Int32} (hI : dxI k pc = some (.ireturn, 1)) (hr : dxRt k = some .int) (hq : Q (some (.int x)) H) : Ev tb k pc L [.int x] H Q := ev_ret hI (by simp only [dxRet]; rw [if_pos (Or.inl hr)]) hq
theorem ev_zret {x : Int32} (hI : dxI k pc = some (.ireturn, 1)) (hr : dxRt k = some .boolean) (hx : x &&& 1 = x) (hq : Q (some (.int x)) H) : Ev tb k pc L [.int x] H Q := ev_ret hI (by simp only [dxRet]; rw [if_pos (Or.inr ⟨hr, hx⟩)]) hq
theorem ev_lret {x : Int64} (hI : dxI k pc = some (.lreturn, 1)) (hr : dxRt k = some .long) (hq : Q (some (.long x)) H) : Ev tb k pc L [.long x] H Q := ev_ret hI (by simp only [dxRet]; rw [if_pos hr]) hq
theorem ev_aret {a : Nat} {n : String} (hI : dxI k pc = some (.areturn, 1)) (hr : dxRt k = some (.object n)) (hq : Q (some (.ref a)) H) : Ev tb k pc L [.ref a] H Q := ev_ret hI (by simp only [dxRet, hr]) hq
theorem ev_vret (hI : dxI k pc = some (.return_, 1)) (hr : dxRt k = none) (hq : Q none H) : Ev tb k pc L [] H Q := ev_ret hI (by simp only [dxRet]; rw [if_pos hr]) hq
end EV
