/-! the start: the constructors  -/
def Ez (tb : dxT) (k pc : Nat) (L : dxL) (S : List Value) (H : dxH) (z : Nat) (Q : Option Value → dxH → Nat → Prop) : Prop := ∃ (f : Nat) (r : Option Value) (H' : dxH) (z' : Nat), dxRun tb f k pc L S H z = some (r, H', z') ∧ Q r H' z'
section EZ
variable {tb : dxT} {k pc : Nat} {L L' : dxL} {S S' : List Value} {H H' : dxH} {z z' : Nat} {Q : Option Value → dxH → Nat → Prop} {i : Instr} {n pc' : Nat}
theorem ez_step (hI : dxI k pc = some (i, n)) (h1 : dxRet k i n S = none) (h2 : dxCal k i n = none) (h3 : dxStep tb k i n pc L S H z = some (pc', L', S', H', z')) (kk : Ez tb k pc' L' S' H' z' Q) : Ez tb k pc L S H z Q := by
  obtain ⟨f, r, H'', z'', h4, h5⟩ := kk
  refine ⟨f + 1, r, H'', z'', ?_, h5⟩
  unfold dxRun
  simp only [hI, h1, h2, h3]
  exact h4
theorem ez_ret {r : Option Value} (hI : dxI k pc = some (i, n)) (h1 : dxRet k i n S = some r) (hq : Q r H z) : Ez tb k pc L S H z Q := by
  refine ⟨1, r, H, z, ?_, hq⟩
  unfold dxRun
  simp only [hI, h1]
theorem ez_call {y na : Nat} {Qc : Option Value → dxH → Nat → Prop} (hI : dxI k pc = some (i, n)) (h1 : dxRet k i n S = none) (h2 : dxCal k i n = some (y, na)) (hg : na ≤ S.length ∧ (dxArg (S.take na).reverse).length ≤ dxMl y ∧ dxRcv k y i (S.take na).reverse H = true ∧ dxW8 (S.drop na) = true ∧ dxFr y + 1 ≤ dxFr k ∧ 8 + (dxMl y + 11) + dxLo y ≤ dxLo k)
    (hc : Ez tb y 0 (dxEnt y (S.take na).reverse) [] H z Qc) (kk : ∀ r H1 z1, Qc r H1 z1 → Ez tb k (pc + 3) L (r.toList ++ S.drop na) H1 z1 Q) : Ez tb k pc L S H z Q := by
  obtain ⟨f, r, H1, z1, h4, h5⟩ := hc
  obtain ⟨f', r', H', z', h6, h7⟩ := kk r H1 z1 h5
  refine ⟨f + f' + 1, r', H', z', ?_, h7⟩
  unfold dxRun
  simp only [hI, h1, h2, if_pos hg, dxRun_add f' h4]
  rw [Nat.add_comm f f']
  exact dxRun_add f h6
theorem ez_of {Q' : Option Value → dxH → Prop} (h : Ev tb k pc L S H Q') (hq : ∀ r H', Q' r H' → Q r H' z) : Ez tb k pc L S H z Q := by
  obtain ⟨f, r, H', h1, h2⟩ := h
  exact ⟨f, r, H', z, h1 z, hq _ _ h2⟩
theorem Ez.post {Q' : Option Value → dxH → Nat → Prop} (h : Ez tb k pc L S H z Q) (hq : ∀ r H' z', Q r H' z' → Q' r H' z') : Ez tb k pc L S H z Q' := by
  obtain ⟨f, r, H', z', h1, h2⟩ := h
  exact ⟨f, r, H', z', h1, hq _ _ _ h2⟩
theorem ez_iconst {c : Int} {v : Int32} (hI : dxI k pc = some (.iconst c, 1)) (hv : Int32.ofInt c = v) (kk : Ez tb k (pc + 1) L (.int v :: S) H z Q) : Ez tb k pc L (S) H z Q := ez_step hI rfl rfl (by subst hv; rfl) kk
theorem ez_bipush {c : Int} {v : Int32} (hI : dxI k pc = some (.bipush c, 2)) (hv : (Int8.ofInt c).toInt32 = v) (kk : Ez tb k (pc + 2) L (.int v :: S) H z Q) : Ez tb k pc L (S) H z Q := ez_step hI rfl rfl (by subst hv; rfl) kk
theorem ez_sipush {c : Int} {v : Int32} (hI : dxI k pc = some (.sipush c, 3)) (hv : (Int16.ofInt c).toInt32 = v) (kk : Ez tb k (pc + 3) L (.int v :: S) H z Q) : Ez tb k pc L (S) H z Q := ez_step hI rfl rfl (by subst hv; rfl) kk
theorem ez_dup {v : Value} (hI : dxI k pc = some (.dup, 1)) (hv : v.category = 1) (kk : Ez tb k (pc + 1) L (v :: v :: S) H z Q) : Ez tb k pc L (v :: S) H z Q := ez_step hI rfl rfl (by simp only [dxStep, dxPop, dxOne, if_pos hv]; rfl) kk
theorem ez_iload_n {j : Fin 4} {x : Int32} (hI : dxI k pc = some (.iload_n j, 1)) (hl : L[(j : Nat)]? = some (some (.int x))) (kk : Ez tb k (pc + 1) L (.int x :: S) H z Q) : Ez tb k pc L S H z Q := ez_step hI rfl rfl (by simp only [dxStep, dxPop, dxLoc, dxLdI, hl]) kk
theorem ez_aload_n {j : Fin 4} {x : Nat} (hI : dxI k pc = some (.aload_n j, 1)) (hl : L[(j : Nat)]? = some (some (.ref x))) (kk : Ez tb k (pc + 1) L (.ref x :: S) H z Q) : Ez tb k pc L S H z Q := ez_step hI rfl rfl (by simp only [dxStep, dxPop, dxLoc, dxLdA, hl]) kk
theorem ez_istore_n {j : Fin 4} {x : Int32} (hI : dxI k pc = some (.istore_n j, 1)) (hl : (j : Nat) < L.length ∧ dxNo2 L j = true) (hL : L.set j (some (.int x)) = L') (kk : Ez tb k (pc + 1) L' S H z Q) : Ez tb k pc L (.int x :: S) H z Q := ez_step hI rfl rfl (by simp only [dxStep, dxPop, dxLoc, dxStI, if_pos hl, hL]) kk
theorem ez_astore_n {j : Fin 4} {x : Nat} (hI : dxI k pc = some (.astore_n j, 1)) (hl : (j : Nat) < L.length ∧ dxNo2 L j = true) (hL : L.set j (some (.ref x)) = L') (kk : Ez tb k (pc + 1) L' S H z Q) : Ez tb k pc L (.ref x :: S) H z Q := ez_step hI rfl rfl (by simp only [dxStep, dxPop, dxLoc, dxStA, if_pos hl, hL]) kk
theorem ez_goto {o : Int} {t : Nat} (hI : dxI k pc = some (.goto o, 3)) (ht : (pc : Int) + o = (t : Int)) (kk : Ez tb k t L S H z Q) : Ez tb k pc L S H z Q := by
  have h0 : 0 ≤ (pc : Int) + o := by omega
  have h1 : dxTg pc o = t := by unfold dxTg; omega
  exact ez_step hI rfl rfl (by simp only [dxStep, dxPop, dxLoc, dxJmp, if_pos h0, h1]) kk
theorem ez_icmp_ge {o : Int} {t : Nat} {x y : Int32} (hI : dxI k pc = some (.if_icmp .ge o, 3)) (ht : (pc : Int) + o = (t : Int)) (kt : y ≤ x → Ez tb k t L S H z Q) (kf : ¬ y ≤ x → Ez tb k (pc + 3) L S H z Q) : Ez tb k pc L (.int y :: .int x :: S) H z Q := by
  have h0 : 0 ≤ (pc : Int) + o := by omega
  have h1 : dxTg pc o = t := by unfold dxTg; omega
  by_cases c : y ≤ x
  · refine ez_step (pc' := t) hI rfl rfl ?_ (kt c)
    simp only [dxStep, dxPop, dxLoc, dxJmp, if_pos h0, h1, dxIf2]
    simp [c]
  · refine ez_step (pc' := pc + 3) hI rfl rfl ?_ (kf (by first | exact c | exact Classical.not_not.mp c))
    simp only [dxStep, dxPop, dxLoc, dxJmp, if_pos h0, h1, dxIf2]
    simp [c]
theorem ez_get {ci idx c j w a : Nat} {fs : List Value} {v : Value} (hI : dxI k pc = some (.getfield idx, 3)) (hc : dxCi k = ci) (hf : dxF ci idx = some (c, j, w)) (ho : H[a]? = some (.inr (c, fs))) (hv : fs[j]? = some v) (kk : Ez tb k (pc + 3) L (v :: S) H z Q) : Ez tb k pc L (.ref a :: S) H z Q := ez_step hI rfl rfl (by simp only [dxStep, dxPop, dxLoc, dxJmp, dxKst, dxHp, dxGet, hc, hf, ho, hv, if_true]) kk
theorem ez_put {ci idx c j w a : Nat} {fs fs' : List Value} {v : Value} (hI : dxI k pc = some (.putfield idx, 3)) (hc : dxCi k = ci) (hf : dxF ci idx = some (c, j, w)) (ho : H[a]? = some (.inr (c, fs))) (hg : j < fs.length ∧ dxFit (dxTyp c j) v = true ∧ (((dxCl c).2.1 j).2.2.2 = false ∨ ((dxY k).name = "<init>" ∧ c = dxCi k))) (hs : fs.set j v = fs') (kk : Ez tb k (pc + 3) L S (H.set a (.inr (c, fs'))) z Q) : Ez tb k pc L (v :: .ref a :: S) H z Q := ez_step hI rfl rfl (by simp only [dxStep, dxPop, dxLoc, dxJmp, dxKst, dxHp, dxPut, hc, hf, ho]; rw [if_pos ⟨trivial, by rw [hc] at hg; exact hg⟩, hs]) kk
theorem ez_alen {a t m : Nat} {x : (Nat → Int32) ⊕ (Nat → Int64) ⊕ (Nat → UInt32) ⊕ (Nat → UInt64) ⊕ (Nat → Option Nat)} (hI : dxI k pc = some (.arraylength, 1)) (ho : H[a]? = some (.inl (t, m, x))) (ht : t < 3) (kk : Ez tb k (pc + 1) L (.int (nI m) :: S) H z Q) : Ez tb k pc L (.ref a :: S) H z Q := ez_step hI rfl rfl (by simp only [dxStep, dxPop, dxLoc, dxJmp, dxKst, dxHp, dxLen, ho]; rw [if_pos ht]; rfl) kk
theorem ez_iinc {j : Nat} {d : Int} {x v : Int32} (hI : dxI k pc = some (.iinc j d, 3)) (hl : L[j]? = some (some (.int x))) (hn : dxNo2 L j = true) (hv : x + Int32.ofInt d = v) (hL : L.set j (some (.int v)) = L') (kk : Ez tb k (pc + 3) L' S H z Q) : Ez tb k pc L S H z Q := ez_step hI rfl rfl (by subst hv; simp only [dxStep, dxPop, dxLoc, hl, if_pos hn, hL]) kk
theorem ez_obj {ci idx x : Nat} {w : Nat × Nat × Nat × Nat × Nat} (hI : dxI k pc = some (.invokespecial idx, 3)) (hc : dxCi k = ci) (hl : dxLk ci idx = some (5, w)) (hr : 1 ≤ dxFr k ∧ 21 ≤ dxLo k) (hw : dxW8 S = true) (kk : Ez tb k (pc + 3) L S H z Q) : Ez tb k pc L (.ref x :: S) H z Q := by
  have e1 : dxCal k (.invokespecial idx) 3 = none := by simp only [dxCal, hc, hl]
  refine ez_step hI rfl e1 ?_ kk
  have e2 : dxBi k (.invokespecial idx) 3 (.ref x :: S) H = some (S, H) := by
    simp only [dxBi, hc, hl]
    rw [if_pos ⟨hw, hr.1, hr.2⟩]
  simp only [dxStep, dxPop, dxLoc, dxJmp, dxKst, dxHp, dxNw, e2]
theorem ez_max {ci idx : Nat} {w : Nat × Nat × Nat × Nat × Nat} {x y : Int32} (hI : dxI k pc = some (.invokestatic idx, 3)) (hc : dxCi k = ci) (hl : dxLk ci idx = some (8, w)) (hr : 1 ≤ dxFr k ∧ 21 ≤ dxLo k) (hw : dxW8 S = true) (kk : Ez tb k (pc + 3) L (.int (if x < y then y else x) :: S) H z Q) : Ez tb k pc L (.int y :: .int x :: S) H z Q := by
  have e1 : dxCal k (.invokestatic idx) 3 = none := by simp only [dxCal, hc, hl]
  refine ez_step hI rfl e1 ?_ kk
  have e2 : dxBi k (.invokestatic idx) 3 (.int y :: .int x :: S) H = some (.int (if x < y then y else x) :: S, H) := by
    simp only [dxBi, hc, hl]
    rw [if_pos hr, if_pos hw]
  simp only [dxStep, dxPop, dxLoc, dxJmp, dxKst, dxHp, dxNw, e2]
theorem ez_new {ci idx c w N : Nat} {fs : List Value} (hI : dxI k pc = some (.new idx, 3)) (hc : dxCi k = ci) (hl : dxC ci idx = some (c, w)) (h9 : c < 9) (hf : (List.range (dxCl c).2.2).map (fun j => dxDef (dxTyp c j)) = fs) (hn : H.length = N) (kk : ∀ H1, H1 = H ++ [.inr (c, fs)] → Ez tb k (pc + 3) L (.ref N :: S) H1 (z + (dxCl c).2.2) Q) : Ez tb k pc L S H z Q := by
  have k1 := kk _ rfl
  rw [← hn, ← hf] at k1
  refine ez_step hI rfl rfl ?_ k1
  simp only [dxStep, dxPop, dxLoc, dxJmp, dxKst, dxHp, dxNw, hc, hl, if_pos h9]
theorem ez_nwI {m N : Nat} (hI : dxI k pc = some (.newarray .int, 2)) (hm : m ≤ 100000) (hn : H.length = N) (kk : ∀ H1, H1 = H ++ [.inl (0, m, .inl (fun _ => 0))] → Ez tb k (pc + 2) L (.ref N :: S) H1 (z + m) Q) : Ez tb k pc L (.int (nI m) :: S) H z Q := by
  have k1 := kk _ rfl
  have e : (nI m).toNatClampNeg = m := nI_clamp (by omega)
  rw [← hn] at k1
  refine ez_step hI rfl rfl ?_ k1
  simp only [dxStep, dxPop, dxLoc, dxJmp, dxKst, dxHp, dxNw, dxNwA, e]
  rw [if_pos ⟨nI_pos (by omega), hm⟩]
theorem ez_nwZ {m N : Nat} (hI : dxI k pc = some (.newarray .boolean, 2)) (hm : m ≤ 100000) (hn : H.length = N) (kk : ∀ H1, H1 = H ++ [.inl (1, m, .inl (fun _ => 0))] → Ez tb k (pc + 2) L (.ref N :: S) H1 (z + m) Q) : Ez tb k pc L (.int (nI m) :: S) H z Q := by
  have k1 := kk _ rfl
  have e : (nI m).toNatClampNeg = m := nI_clamp (by omega)
  rw [← hn] at k1
  refine ez_step hI rfl rfl ?_ k1
  simp only [dxStep, dxPop, dxLoc, dxJmp, dxKst, dxHp, dxNw, dxNwA, e]
  rw [if_pos ⟨nI_pos (by omega), hm⟩]
theorem ez_nwQ {ci idx w m N : Nat} (hI : dxI k pc = some (.anewarray idx, 3)) (hc : dxCi k = ci) (hl : dxC ci idx = some (3, w)) (hm : m ≤ 100000) (hn : H.length = N) (kk : ∀ H1, H1 = H ++ [.inl (2, m, .inr (.inr (.inr (.inr (fun _ => none)))))] → Ez tb k (pc + 3) L (.ref N :: S) H1 (z + m) Q) : Ez tb k pc L (.int (nI m) :: S) H z Q := by
  have k1 := kk _ rfl
  have e : (nI m).toNatClampNeg = m := nI_clamp (by omega)
  rw [← hn] at k1
  refine ez_step hI rfl rfl ?_ k1
  simp only [dxStep, dxPop, dxLoc, dxJmp, dxKst, dxHp, dxNw, hc, hl, e]
  rw [if_pos ⟨nI_pos (by omega), hm⟩]
theorem ez_ast {v a m j : Nat} {f : Nat → Option Nat} {fs : List Value} (hI : dxI k pc = some (.aastore, 1)) (ho : H[a]? = some (.inl (2, m, .inr (.inr (.inr (.inr f)))))) (hv : H[v]? = some (.inr (3, fs))) (hj : j < m ∧ m < 2147483648) (kk : ∀ H1, H1 = H.set a (.inl (2, m, .inr (.inr (.inr (.inr (va_up f j (some v))))))) → Ez tb k (pc + 1) L S H1 z Q) : Ez tb k pc L (.ref v :: .int (nI j) :: .ref a :: S) H z Q := by
  have k1 := kk _ rfl
  have e : (nI j).toNatClampNeg = j := nI_clamp (by omega)
  have hin : dxIn (nI j) m = true := dxIn_n hj
  rw [← e] at k1
  refine ez_step hI rfl rfl ?_ k1
  simp only [dxStep, dxPop, dxLoc, dxJmp, dxKst, dxHp, dxQSt, ho, hv]
  rw [if_pos ⟨trivial, hin⟩]
end EZ
theorem app_l {H t : dxH} {j : Nat} {e : dxE} (h : H[j]? = some e) : (H ++ t)[j]? = some e := by
  rw [List.getElem?_append_left (List.getElem?_eq_some_iff.mp h).1]
  exact h
theorem app_n {H : dxH} {N : Nat} {c : dxE} (hn : H.length = N) : (H ++ [c])[N]? = some c := by
  rw [← hn]
  simp
