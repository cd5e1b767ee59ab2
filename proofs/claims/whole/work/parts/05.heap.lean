/-! soundness of the deep interpreter: cells, new cells, the JDK's own -/
def dxAc (b : Nat) (x : vp_A) : vp_A := match x with
  | (n, .inr (.inr (.inr (.inr f)))) => (n, .inr (.inr (.inr (.inr (fun j => (f j).map (fun q => b + q))))))
  | y => y
def dxEc (b : Nat) (st : Nat → Nat) (cy : Nat → ClassId) (e : dxE) : va_E := match e with
  | .inl (t, x) => .inl (cy t, dxAc b x)
  | .inr (c, fs) => .inr (c, fs.map (dxV b st))
def dxWc (b : Nat) (st : Nat → Nat) (cy : Nat → ClassId) (H : dxH) : va_W := H.mapIdx (fun k e => (b + k, dxEc b st cy e))
theorem dxWc_get {b : Nat} {st : Nat → Nat} {cy : Nat → ClassId} {H : dxH} {k : Nat} {e : dxE} (h : H[k]? = some e) : (dxWc b st cy H)[k]? = some (b + k, dxEc b st cy e) := by
  unfold dxWc
  rw [List.getElem?_mapIdx, h]
  rfl
theorem dxWc_inv {b : Nat} {st : Nat → Nat} {cy : Nat → ClassId} {H : dxH} {k : Nat} {q : Nat × va_E} (h : (dxWc b st cy H)[k]? = some q) : ∃ e, H[k]? = some e ∧ q = (b + k, dxEc b st cy e) := by
  unfold dxWc at h
  rw [List.getElem?_mapIdx] at h
  cases hx : H[k]? with
  | none => rw [hx] at h; cases h
  | some e => rw [hx] at h; cases h; exact ⟨e, rfl, rfl⟩
theorem dxWc_set (b : Nat) (st : Nat → Nat) (cy : Nat → ClassId) (H : dxH) (k : Nat) (e : dxE) : dxWc b st cy (H.set k e) = (dxWc b st cy H).set k (b + k, dxEc b st cy e) := by
  apply List.ext_getElem?
  intro j
  by_cases hj : k = j
  · subst hj
    by_cases hl : k < H.length
    · rw [dxWc_get (List.getElem?_set_self hl), List.getElem?_set_self (by unfold dxWc; rw [List.length_mapIdx]; exact hl)]
    · rw [List.getElem?_eq_none (by unfold dxWc; rw [List.length_mapIdx, List.length_set]; omega), List.getElem?_eq_none (by rw [List.length_set]; unfold dxWc; rw [List.length_mapIdx]; omega)]
  · rw [List.getElem?_set_ne hj]
    unfold dxWc
    rw [List.getElem?_mapIdx, List.getElem?_mapIdx, List.getElem?_set_ne hj]
theorem dxWc_app (b : Nat) (st : Nat → Nat) (cy : Nat → ClassId) (H : dxH) (e : dxE) : dxWc b st cy (H ++ [e]) = dxWc b st cy H ++ [(b + H.length, dxEc b st cy e)] := by
  unfold dxWc
  rw [List.mapIdx_append]
  simp
theorem dxWc_D (b : Nat) (st : Nat → Nat) (cy : Nat → ClassId) (H : dxH) : va_D (fun q => b ≤ q) (dxWc b st cy H) := by
  refine ⟨fun i j p q hi hj h => ?_, fun k q hk => ?_⟩
  · obtain ⟨_, -, rfl⟩ := dxWc_inv hi
    obtain ⟨_, -, rfl⟩ := dxWc_inv hj
    simp only at h
    omega
  · obtain ⟨_, -, rfl⟩ := dxWc_inv hk
    exact Nat.le_add_right _ _
def dxTy (cy : Nat → ClassId) : List (ClassId × FieldType) := [(cy 0, .int), (cy 1, .boolean), (cy 2, .object RX3)]
-- the classes
theorem dxCl_at {c : Nat} (h : c < 9) : vwCl[c]? = some ((dxCl c).1, (dxCl c).2.1, (dxCl c).2.2) := by
  have : ∀ c, c < 9 → (vwCl[c]?).isSome = true := by decide +kernel
  have h1 := this c h
  unfold dxCl
  cases hx : vwCl[c]? with
  | none => rw [hx] at h1; cases h1
  | some q => simp [List.getD, hx]
theorem dxCl_R {c : Nat} (h : c < 9) : (dxCl c).1 = dxR c := by
  have : ∀ c, c < 9 → (dxCl c).1 = dxR c := by decide +kernel
  exact this c h
theorem dxCl_uw {c : Nat} (h : c < 9) : ∀ w ∈ u_ws (dxCl c).1 (dxCl c).2.1 (dxCl c).2.2, w ∈ dxTb := by
  have : ∀ c, c < 9 → ∀ w ∈ u_ws (dxCl c).1 (dxCl c).2.1 (dxCl c).2.2, w ∈ dxTb := by decide +kernel
  exact this c h
theorem dxCl_ty {c : Nat} (h : c < 9) : ∀ j, j < (dxCl c).2.2 → parseFieldDescriptor ((dxCl c).2.1 j).2.2.1 = some (dxTyp c j) := by
  have : ∀ c, c < 9 → ∀ j, j < (dxCl c).2.2 → parseFieldDescriptor ((dxCl c).2.1 j).2.2.1 = some (dxTyp c j) := by decide +kernel
  exact this c h
theorem dxCl_nm {c : Nat} (h : c < 9) : ∀ i, i < (dxCl c).2.2 → ∀ j, j < (dxCl c).2.2 → i ≠ j → ((dxCl c).2.1 i).2.1 ≠ ((dxCl c).2.1 j).2.1 := by
  have : ∀ c, c < 9 → ∀ i, i < (dxCl c).2.2 → ∀ j, j < (dxCl c).2.2 → i ≠ j → ((dxCl c).2.1 i).2.1 ≠ ((dxCl c).2.1 j).2.1 := by decide +kernel
  exact this c h
theorem dxCl_in {c : Nat} (h : c < 9) : Cond.instantiable (dxCl c).1 (dxCl c).2.2 ∈ dxTb ∧ Cond.initialized (dxCl c).1 ∈ dxTb := by
  have : ∀ c, c < 9 → Cond.instantiable (dxCl c).1 (dxCl c).2.2 ∈ dxTb ∧ Cond.initialized (dxCl c).1 ∈ dxTb := by decide +kernel
  exact this c h
theorem dxCl_df {c : Nat} (h : c < 9) : ∀ j, j < (dxCl c).2.2 → dxDef (dxTyp c j) = defaultValue (dxTyp c j) := by
  have : ∀ c, c < 9 → ∀ j, j < (dxCl c).2.2 → dxDef (dxTyp c j) = defaultValue (dxTyp c j) := by decide +kernel
  exact this c h
theorem dxFw_all : ∀ q ∈ dxFT, dxTb[q.2.2.2.2]? = some (Cond.fieldLink (dxR q.1) q.2.1 ((dxCl q.2.2.1).2.1 q.2.2.2.1).1 ((dxCl q.2.2.1).2.1 q.2.2.2.1).2.1 ((dxCl q.2.2.1).2.1 q.2.2.2.1).2.2.1) ∧ q.2.2.1 < 9 ∧ q.2.2.2.1 < (dxCl q.2.2.1).2.2 ∧ ((dxCl q.2.2.1).2.1 q.2.2.2.1).1 = dxR q.2.2.1 := by decide +kernel
def dxSn (u : Nat) : String := ["CLOVER_LEAST", "CLOVER_MOST", "COW_LEAST", "COW_MOST"].getD u ""
theorem dxSw_all : ∀ q ∈ dxST, dxTb[q.2.2.2]? = some (Cond.fieldLink (dxR q.1) q.2.1 RX4 (dxSn q.2.2.1) "[I") ∧ q.2.2.1 < 4 := by decide +kernel
theorem dxCw_all : ∀ q ∈ dxCT, dxTb[q.2.2.2]? = some (Cond.classLink (dxR q.1) q.2.1 (dxCl q.2.2.1).1) := by decide +kernel
def dxLkw (q : Nat × Nat × Nat × Nat × Nat × Nat × Nat × Nat) : List (Nat × Cond) := match q with
  | (ci, idx, kind, k, p1, p2, p3, p4) => match kind with
    | 0 => [(p1, .methodLink (dxR ci) idx (dxY k)), (p2, .instanceMethod (dxY k)), (p3, .selects (dxY k).cls (dxY k) (dxY k)), (p4, .initialized (dxY k).cls)]
    | 1 => [(p1, .methodLink (dxR ci) idx (dxY k)), (p2, .static (dxY k)), (p4, .initialized (dxY k).cls)]
    | 2 => [(p2, .static (dxY k)), (p4, .initialized (dxY k).cls)]
    | 3 => [(p1, .methodLink (dxR ci) idx (dxY k)), (p2, .instanceMethod (dxY k)), (p4, .initialized (dxY k).cls)]
    | 4 => [(p2, .instanceMethod (dxY k)), (p4, .initialized (dxY k).cls)]
    | 5 => [(p1, .methodLink (dxR ci) idx Lib.objectInit)]
    | 6 => [(p1, .methodLink (dxR ci) idx Lib.Math.abs.name)]
    | 7 => [(p1, .methodLink (dxR ci) idx Lib.Math.min.name)]
    | 8 => [(p1, .methodLink (dxR ci) idx Lib.Math.max.name)]
    | 9 => [(p1, .methodLink (dxR ci) idx arraycopyName)]
    | _ => []
theorem dxLkw_all : ∀ q ∈ dxLkT, ∀ r ∈ dxLkw q, dxTb[r.1]? = some r.2 := by decide +kernel
theorem dxLk_w {ci idx kind k p1 p2 p3 p4 : Nat} (h : dxLk ci idx = some (kind, k, p1, p2, p3, p4)) {r : Nat × Cond} (hr : r ∈ dxLkw (ci, idx, kind, k, p1, p2, p3, p4)) : r.2 ∈ dxTb := List.mem_of_getElem? (dxLkw_all _ (dx_find h) r hr)
theorem dxNst_all : ∀ q ∈ dxLkT, (q.2.2.1 = 2 ∨ q.2.2.1 = 4) → lw_tbl[q.2.2.2.2.1]? = some (Cond.methodLinkNest (dxR q.1) q.2.1 (dxY q.2.2.2.1) "MilkTruce") := by decide +kernel
theorem dxW_obj : Cond.instanceMethod Lib.objectInit ∈ dxTb ∧ Cond.code Lib.objectInit ⟨#[0xb1]⟩ 1 none ∈ dxTb := by decide +kernel
theorem dxW_math : Cond.static Lib.Math.abs.name ∈ dxTb ∧ Cond.static Lib.Math.min.name ∈ dxTb ∧ Cond.static Lib.Math.max.name ∈ dxTb ∧ Cond.initialized "java/lang/Math" ∈ dxTb ∧ Cond.code Lib.Math.abs.name Lib.Math.abs.code 1 (some .int) ∈ dxTb ∧ Cond.code Lib.Math.min.name Lib.Math.min.code 2 (some .int) ∈ dxTb ∧ Cond.code Lib.Math.max.name Lib.Math.max.code 2 (some .int) ∈ dxTb := by decide +kernel
theorem dxW_copy : Cond.native arraycopyName ∈ dxTb ∧ Cond.static arraycopyName ∈ dxTb ∧ Cond.initialized "java/lang/System" ∈ dxTb := by decide +kernel
theorem dxW_arr : Cond.arrayClass .int ∈ dxTb ∧ Cond.arrayClass .boolean ∈ dxTb := by decide +kernel
theorem dxFit_ok {b : Nat} {st : Nat → Nat} {t : FieldType} {v : Value} (h : dxFit t v = true) : narrow t (dxV b st v) = dxV b st v ∧ fits t (dxV b st v) = true := by
  unfold dxFit at h
  split at h
  · exact ⟨rfl, rfl⟩
  · rename_i x
    simp only [Bool.or_eq_true, beq_iff_eq] at h
    rcases h with rfl | rfl
    · exact ⟨rfl, rfl⟩
    · exact ⟨rfl, rfl⟩
  · exact ⟨rfl, rfl⟩
  · exact ⟨rfl, rfl⟩
  · exact ⟨rfl, rfl⟩
  · cases h
section DX2
variable {p : Program} {l : Launch} {e : Env} {R : Room} {s : State} {m : MethodId} {args : Array Value} {below : List Frame} {meth : Method} {c : Code} {Hp : Heap} {locs : List Loc} {cells slots : Nat} {Q : State → Prop}
variable {cc : ByteArray} {pc : Nat} {ls : Array Slot} {b : Nat} {st : Nat → Nat} {cy : Nat → ClassId} {D : va_G} {i : Instr} {n : Nat} {S S' : List Value} {H H' : dxH} {k idx : Nat} {tb : dxT}
theorem dx_size (h : Hp.size ≤ s.heap.size + cells → W p l e R s m args below meth c Hp locs cells slots Q (F0 m pc ls S)) : W p l e R s m args below meth c Hp locs cells slots Q (F0 m pc ls S) :=
  fun T hT X => h (by rw [← hT]; exact X.heapSize) T hT X
theorem dxGet_ok (hx : p.tables.exec = Jvm.exec) (hb : c.code = cc) (hown : s.vm.findClass (dxR (dxCi k)) = some m.cls) (hts : ∀ w ∈ dxTb, w.before args s = true) (hK : va_K D vwCl (dxTy cy) s) (hP : va_P D vwCl (dxWc b st cy H) Hp) (hd : decode cc pc = .ok (.getfield idx, 3)) (h : dxGet (dxCi k) idx S H = some (S', H'))
    (kk : H' = H → W p l e R s m args below meth c Hp locs cells slots Q (F0 m (pc + 3) ls (S'.map (dxV b st)))) : W p l e R s m args below meth c Hp locs cells slots Q (F0 m pc ls (S.map (dxV b st))) := by
  unfold dxGet at h
  split at h
  · rename_i ci j w hf
    obtain ⟨f1, f2, f3, f4⟩ := dxFw_all _ (dx_find hf)
    split at h
    · rename_i a r
      split at h
      · rename_i c' fs ha
        split at h
        · rename_i hc
          subst hc
          split at h
          · rename_i v hv
            cases h
            refine va_get hx hb hts (dxCl_uw f2) hown hK hP a (dxWc_get ha) (dxCl_at f2) j f3 (hts _ (List.mem_of_getElem? f1)) (fun _ q => q) (v := dxV b st v) ?_ hd (kk rfl)
            rw [List.getElem?_map, hv]
            rfl
          · cases h
        · cases h
      · cases h
    · cases h
  · cases h
theorem dxPut_ok (hx : p.tables.exec = Jvm.exec) (hb : c.code = cc) (hown : s.vm.findClass (dxR (dxCi k)) = some m.cls) (hname : (dxY k).name = "<init>" → meth.name = "<init>") (hts : ∀ w ∈ dxTb, w.before args s = true) (hK : va_K D vwCl (dxTy cy) s) (hP : va_P D vwCl (dxWc b st cy H) Hp) (hS : va_S (fun q => b ≤ q) s.heap Hp locs) (hd : decode cc pc = .ok (.putfield idx, 3)) (h : dxPut k idx S H = some (S', H'))
    (kk : ∀ (Hp' : Heap) (locs' : List Loc), H'.length = H.length → va_P D vwCl (dxWc b st cy H') Hp' → va_S (fun q => b ≤ q) s.heap Hp' locs' → W p l e R s m args below meth c Hp' locs' cells slots Q (F0 m (pc + 3) ls (S'.map (dxV b st)))) : W p l e R s m args below meth c Hp locs cells slots Q (F0 m pc ls (S.map (dxV b st))) := by
  unfold dxPut at h
  split at h
  · rename_i ci j w hf
    obtain ⟨f1, f2, f3, f4⟩ := dxFw_all _ (dx_find hf)
    split at h
    · rename_i v a r
      split at h
      · rename_i c' fs ha
        split at h
        · rename_i hc
          obtain ⟨rfl, hj, hfit, hfin⟩ := hc
          cases h
          have e1 : dxWc b st cy (H.set a (.inr (c', fs.set j v))) = (dxWc b st cy H).set a (b + a, .inr (c', (fs.map (dxV b st)).set j (dxV b st v))) := by
            rw [dxWc_set]
            show List.set _ _ (_, Sum.inr (_, _)) = _
            rw [List.map_set]
          have kk' : ∀ (Hp' : Heap) (locs' : List Loc), va_P D vwCl ((dxWc b st cy H).set a (b + a, .inr (c', (fs.map (dxV b st)).set j (dxV b st v)))) Hp' → va_D (fun q => b ≤ q) ((dxWc b st cy H).set a (b + a, .inr (c', (fs.map (dxV b st)).set j (dxV b st v)))) → va_S (fun q => b ≤ q) s.heap Hp' locs' → W p l e R s m args below meth c Hp' locs' cells slots Q (F0 m (pc + 3) ls (S'.map (dxV b st))) := fun Hp' locs' g1 _ g3 => kk Hp' locs' (by rw [List.length_set]) (by rw [e1]; exact g1) g3
          by_cases hfi : ((dxCl c').2.1 j).2.2.2 = false
          · exact va_put hx hb hts (dxCl_uw f2) (dxTyp c') (dxCl_ty f2) (dxCl_nm f2) hown hK hP (dxWc_D b st cy H) hS a (dxWc_get ha) (dxCl_at f2) j f3 (hts _ (List.mem_of_getElem? f1)) (fun _ q => q) hfi (dxCl_ty f2 j f3) (dxFit_ok hfit).1 (dxFit_ok hfit).2 (by rw [List.length_map]; exact hj) hd kk'
          · rcases hfin with h0 | ⟨h1, h2⟩
            · exact absurd h0 hfi
            · exact va_putF hx hb hts (dxCl_uw f2) (dxTyp c') (dxCl_ty f2) (dxCl_nm f2) hown hK hP (dxWc_D b st cy H) hS a (dxWc_get ha) (dxCl_at f2) j f3 (hts _ (List.mem_of_getElem? f1)) (fun _ q => q) (by simpa using hfi) (hname h1) (by rw [← h2]; exact f4) (dxCl_ty f2 j f3) (dxFit_ok hfit).1 (dxFit_ok hfit).2 (by rw [List.length_map]; exact hj) hd kk'
        · cases h
      · cases h
    · cases h
  · cases h
theorem dxIn_ok {x : Int32} {N : Nat} (h : dxIn x N = true) : vp_in x N := by
  unfold dxIn at h
  show ¬ (x < 0 ∨ N ≤ x.toNatClampNeg)
  exact of_decide_eq_true h
theorem dxUp_q (f : Nat → Option Nat) (j v : Nat) : (fun q => (va_up f j (some v) q).map (fun z => b + z)) = va_up (fun q => (f q).map (fun z => b + z)) j (some (b + v)) := by
  funext q
  unfold va_up
  split <;> rfl
theorem dxHp_ok (hx : p.tables.exec = Jvm.exec) (hb : c.code = cc) (hown : s.vm.findClass (dxR (dxCi k)) = some m.cls) (hname : (dxY k).name = "<init>" → meth.name = "<init>") (hts : ∀ w ∈ dxTb, w.before args s = true) (hK : va_K D vwCl (dxTy cy) s) (hP : va_P D vwCl (dxWc b st cy H) Hp) (hS : va_S (fun q => b ≤ q) s.heap Hp locs)
    (hT : ∀ j, j < 5 → va_T .int (st j) (tb j).1 (fun q => .int ((tb j).2 q)) (fun q => b ≤ q) s s.heap) (hZ : ∀ j, j < 4 → va_Z RX4 (dxSn j) "[I" (.ref (st j)) (fun q => b ≤ q) s s.heap)
    (hd : decode cc pc = .ok (i, n)) (h : dxHp tb k i n S H = some (S', H'))
    (kk : ∀ (Hp' : Heap) (locs' : List Loc), H'.length = H.length → va_P D vwCl (dxWc b st cy H') Hp' → va_S (fun q => b ≤ q) s.heap Hp' locs' → W p l e R s m args below meth c Hp' locs' cells slots Q (F0 m (pc + n) ls (S'.map (dxV b st)))) : W p l e R s m args below meth c Hp locs cells slots Q (F0 m pc ls (S.map (dxV b st))) := by
  have k0 : H' = H → W p l e R s m args below meth c Hp locs cells slots Q (F0 m (pc + n) ls (S'.map (dxV b st))) := fun q => kk Hp locs (by rw [q]) (by rw [q]; exact hP) hS
  have hD := dxWc_D b st cy H
  unfold dxHp at h
  split at h
  · exact dxGet_ok hx hb hown hts hK hP hd h k0
  · exact dxPut_ok hx hb hown hname hts hK hP hS hd h kk
  · unfold dxALd at h
    split at h
    · rename_i x a r
      split at h
      · rename_i t' N f ha
        split at h
        · rename_i hc
          obtain ⟨rfl, hc⟩ := hc
          cases h
          exact va_iald hx hb hK hP a 0 (dxWc_get ha) rfl (dxIn_ok hc) hd (k0 rfl)
        · cases h
      · cases h
    · rename_i x u r
      split at h
      · rename_i hc
        cases h
        exact va_ti hx hb (hT _ hc.2.1) hS (dxIn_ok hc.2.2) rfl hd (k0 rfl)
      · cases h
    · cases h
  · unfold dxALd at h
    split at h
    · rename_i x a r
      split at h
      · rename_i t' N f ha
        split at h
        · rename_i hc
          obtain ⟨rfl, hc⟩ := hc
          cases h
          exact va_zald hx hb hK hP a 1 (dxWc_get ha) rfl (dxIn_ok hc) hd (k0 rfl)
        · cases h
      · cases h
    · split at h
      · rename_i hc
        exact absurd hc.1 (by decide)
      · cases h
    · cases h
  · unfold dxASt at h
    split at h
    · rename_i x y a r
      split at h
      · rename_i t' N f ha
        split at h
        · rename_i hc
          obtain ⟨rfl, hc, -⟩ := hc
          cases h
          exact va_iast hx hb hK hP hD hS a 0 (dxWc_get ha) rfl (dxIn_ok hc) hd (fun Hp' locs' g1 _ g3 => kk Hp' locs' (by rw [List.length_set]) (by rw [dxWc_set]; exact g1) g3)
        · cases h
      · cases h
    · cases h
  · unfold dxASt at h
    split at h
    · rename_i x y a r
      split at h
      · rename_i t' N f ha
        split at h
        · rename_i hc
          obtain ⟨rfl, hc, hz⟩ := hc
          cases h
          exact va_zast hx hb hK hP hD hS a 1 (dxWc_get ha) rfl (dxIn_ok hc) hd (fun Hp' locs' g1 _ g3 => kk Hp' locs' (by rw [List.length_set]) (by rw [dxWc_set]; rw [hz rfl] at g1; exact g1) g3)
        · cases h
      · cases h
    · cases h
  · unfold dxQLd at h
    split at h
    · rename_i x a r
      split at h
      · rename_i t' N f ha
        split at h
        · rename_i hc
          obtain ⟨rfl, hc⟩ := hc
          cases h
          refine va_aldq hx hb hK hP a 2 (dxWc_get ha) rfl (dxIn_ok hc) hd ?_
          have k1 := k0 rfl
          rw [List.map_cons] at k1
          have e1 : dxV b st (va_rf (f x.toNatClampNeg)) = va_rf ((f x.toNatClampNeg).map (fun q => b + q)) := by cases f x.toNatClampNeg <;> rfl
          rw [e1] at k1
          exact k1
        · cases h
      · cases h
    · cases h
  · unfold dxQSt at h
    split at h
    · rename_i v x a r
      split at h
      · rename_i t' N f fs ha hv
        split at h
        · rename_i hc
          obtain ⟨rfl, hc⟩ := hc
          cases h
          refine va_astq hx hb hK hP hD hS a 2 v 3 (dxWc_get ha) rfl (dxWc_get hv) (r := (RX3, TX3, 9)) rfl (dxIn_ok hc) hd (fun Hp' locs' g1 _ g3 => kk Hp' locs' (by rw [List.length_set]) ?_ g3)
          rw [dxWc_set]
          show va_P D vwCl (List.set _ _ (_, Sum.inl (_, _, Sum.inr (Sum.inr (Sum.inr (Sum.inr _)))))) _
          rw [dxUp_q]
          exact g1
        · cases h
      · cases h
    · cases h
  · unfold dxLen at h
    split at h
    · rename_i a r
      split at h
      · rename_i t' N x ha
        split at h
        · rename_i hc
          cases h
          have hlen : (dxAc b (N, x)).1 = N := by
            unfold dxAc
            split
            · rename_i heq; cases heq; rfl
            · rfl
          have ht : ∃ ty, (dxTy cy)[t']? = some (cy t', ty) := by
            match t', hc with
            | 0, _ => exact ⟨_, rfl⟩
            | 1, _ => exact ⟨_, rfl⟩
            | 2, _ => exact ⟨_, rfl⟩
          obtain ⟨ty, ht⟩ := ht
          exact va_alen hx hb hK hP a t' (dxWc_get ha) ht (by rw [hlen]) hd (k0 rfl)
        · cases h
      · cases h
    · rename_i u r
      split at h
      · rename_i hc
        cases h
        exact va_tlen hx hb (hT _ hc) hS rfl hd (k0 rfl)
      · cases h
    · cases h
  · split at h
    · rename_i u w hu
      cases h
      obtain ⟨f1, f2⟩ := dxSw_all _ (dx_find hu)
      refine va_gets hx hb (hZ u f2) hS hown (hts _ (List.mem_of_getElem? f1)) (fun _ q => q) hd ?_
      have k1 := k0 rfl
      rw [List.map_cons] at k1
      have e1 : dxV b st (.float (UInt32.ofNat u)) = .ref (st u) := by
        show Value.ref (st (UInt32.ofNat u).toNat) = _
        have f3 : u < 4 := f2
        have : (UInt32.ofNat u).toNat = u := UInt32.toNat_ofNat_of_lt' (by show u < 4294967296; omega)
        rw [this]
      rw [e1] at k1
      exact k1
    · cases h
  · cases h
end DX2
