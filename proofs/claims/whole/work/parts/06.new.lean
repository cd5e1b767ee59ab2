/-! soundness of the deep interpreter: new cells, the JDK's own, the step -/
section DX3
variable {p : Program} {l : Launch} {e : Env} {R : Room} {s : State} {m : MethodId} {args : Array Value} {below : List Frame} {meth : Method} {c : Code} {Hp : Heap} {locs : List Loc} {cells slots : Nat} {Q : State → Prop}
variable {cc : ByteArray} {pc : Nat} {ls : Array Slot} {b : Nat} {st : Nat → Nat} {cy : Nat → ClassId} {D : va_G} {i : Instr} {n : Nat} {S S' : List Value} {H H' : dxH} {k idx : Nat} {tb : dxT} {n0 z0 z z' : Nat}
/-- a new cell lies behind the others -/
theorem dx_new_at {H1 : Heap} {q : Nat} {x : va_E} (hP : va_P D vwCl (dxWc b st cy H ++ [(q, x)]) H1) (hD : va_D (fun q => b ≤ q) (dxWc b st cy H ++ [(q, x)])) (hz : H1.size ≤ b + H.length + 1) : q = b + H.length := by
  have hl : (dxWc b st cy H).length = H.length := by unfold dxWc; rw [List.length_mapIdx]
  have h1 : (dxWc b st cy H ++ [(q, x)])[H.length]? = some (q, x) := by
    rw [List.getElem?_append_right (by omega), hl, Nat.sub_self]
    rfl
  have h2 : b ≤ q := hD.2 _ _ h1
  have h3 : q < H1.size := (hP _ _ h1).lt
  rcases Nat.lt_or_ge q (b + H.length) with hq | hq
  · have h4 : q - b < H.length := by omega
    have h5 : (dxWc b st cy H ++ [(q, x)])[q - b]? = some (b + (q - b), dxEc b st cy (H[q - b])) := by
      rw [List.getElem?_append_left (by omega)]
      exact dxWc_get (List.getElem?_eq_getElem h4)
    have h6 := hD.1 _ _ _ _ h5 h1 (by show b + (q - b) = q; omega)
    omega
  · omega
theorem dx_cy {ty : FieldType} {t : Nat} {cA : ClassId} (ht : (dxTy cy)[t]? = some (cy t, ty)) (hK : va_K D vwCl (dxTy cy ++ [(cA, ty)]) s) : cA = cy t := by
  have h1 := (hK.2 (dxTy cy).length (cA, ty) (by rw [List.getElem?_append_right (Nat.le_refl _), Nat.sub_self]; rfl)).2
  have h2 := (hK.2 t (cy t, ty) (by rw [List.getElem?_append_left (List.getElem?_eq_some_iff.mp ht).1]; exact ht)).2
  cases ty with
  | object C =>
    obtain ⟨-, -, -, -, -, e1⟩ := h1
    obtain ⟨-, -, -, -, -, e2⟩ := h2
    exact Option.some.inj (e1.symm.trans e2)
  | _ => exact Option.some.inj (Eq.trans (Eq.symm h1) h2)
theorem dxNwA_ok {t : Nat} {atype : ArrayType} {ty : FieldType} (hx : p.tables.exec = Jvm.exec) (hb : c.code = cc) (hts : ∀ w ∈ dxTb, w.before args s = true) (hK : va_K D vwCl (dxTy cy) s) (hP : va_P D vwCl (dxWc b st cy H) Hp) (hS : va_S (fun q => b ≤ q) s.heap Hp locs)
    (hty : newarray.typeOf atype = ty) (hw : Cond.arrayClass ty ∈ dxTb) (ht : (dxTy cy)[t]? = some (cy t, ty)) (ha : ∀ (cA : ClassId) (N : Nat), vp_cell cA (N, .inl (fun _ => (0 : Int32))) = arrV cA N (fun _ => defaultValue ty)) (hcb : componentBytes ty ≤ 8)
    (hs0 : s.heap.size = b + n0) (hn0 : n0 ≤ H.length) (hz0 : z0 ≤ z) (hc1 : H'.length - n0 ≤ R.cells) (hc2 : z' - z0 ≤ R.slots)
    (hd : decode cc pc = .ok (.newarray atype, 2)) (h : dxNwA t S H z = some (S', H', z'))
    (kk : ∀ (Hp' : Heap) (locs' : List Loc), H.length ≤ H'.length → z ≤ z' → va_P D vwCl (dxWc b st cy H') Hp' → va_S (fun q => b ≤ q) s.heap Hp' locs' → W p l e R s m args below meth c Hp' locs' (H'.length - n0) (z' - z0) Q (F0 m (pc + 2) ls (S'.map (dxV b st)))) : W p l e R s m args below meth c Hp locs (H.length - n0) (z - z0) Q (F0 m pc ls (S.map (dxV b st))) := by
  unfold dxNwA at h
  split at h
  · rename_i x r
    split at h
    · rename_i hc
      cases h
      rw [List.length_append, List.length_singleton] at hc1
      refine va_newa hx hb (atype := atype) (by rw [hty]; exact hts _ hw) hty hK hP (dxWc_D b st cy H) hS (fun q h => by omega) (n := x) (N' := x.toNatClampNeg) (ha := fun cA => ha cA x.toNatClampNeg) hc.1 rfl ?_ (by omega) (by omega) hd (fun q cA H1 hK1 hP1 hD1 hS1 => ?_)
      · exact Nat.le_trans (Nat.mul_le_mul hc.2 hcb) (Nat.le_of_ble_eq_true rfl)
      · refine dx_size fun hz => ?_
        have e1 := dx_new_at hP1 hD1 (by omega)
        have e2 := dx_cy ht hK1
        subst e1
        subst e2
        have e3 : dxWc b st cy (H ++ [.inl (t, x.toNatClampNeg, .inl (fun _ => 0))]) = dxWc b st cy H ++ [(b + H.length, .inl (cy t, x.toNatClampNeg, .inl (fun _ => 0)))] := dxWc_app b st cy H _
        have k1 := kk H1 locs (by rw [List.length_append]; omega) (by omega) (by rw [e3]; exact hP1) hS1
        rw [List.length_append, List.length_singleton, show H.length + 1 - n0 = H.length - n0 + 1 by omega, show z + x.toNatClampNeg - z0 = z - z0 + x.toNatClampNeg by omega] at k1
        exact k1
    · cases h
  · cases h
theorem dxNw_ok (ho : va_AO RX3 s) (hx : p.tables.exec = Jvm.exec) (hb : c.code = cc) (hown : s.vm.findClass (dxR (dxCi k)) = some m.cls) (hts : ∀ w ∈ dxTb, w.before args s = true) (hK : va_K D vwCl (dxTy cy) s) (hP : va_P D vwCl (dxWc b st cy H) Hp) (hS : va_S (fun q => b ≤ q) s.heap Hp locs)
    (hs0 : s.heap.size = b + n0) (hn0 : n0 ≤ H.length) (hz0 : z0 ≤ z) (hc1 : H'.length - n0 ≤ R.cells) (hc2 : z' - z0 ≤ R.slots)
    (hd : decode cc pc = .ok (i, n)) (h : dxNw k i n S H z = some (S', H', z'))
    (kk : ∀ (Hp' : Heap) (locs' : List Loc), H.length ≤ H'.length → z ≤ z' → va_P D vwCl (dxWc b st cy H') Hp' → va_S (fun q => b ≤ q) s.heap Hp' locs' → W p l e R s m args below meth c Hp' locs' (H'.length - n0) (z' - z0) Q (F0 m (pc + n) ls (S'.map (dxV b st)))) : W p l e R s m args below meth c Hp locs (H.length - n0) (z - z0) Q (F0 m pc ls (S.map (dxV b st))) := by
  have hA : ∀ q : Nat, s.heap.size ≤ q → b ≤ q := fun q h => by omega
  unfold dxNw at h
  split at h
  · split at h
    · rename_i idx _ cc' w hf
      split at h
      · rename_i hc9
        cases h
        rw [List.length_append, List.length_singleton] at hc1
        have hcw : Cond.classLink (dxR (dxCi k)) idx (dxCl cc').1 ∈ dxTb := List.mem_of_getElem? (dxCw_all _ (dx_find hf))
        refine va_new hx hb hts (dxCl_uw hc9) (dxTyp cc') (dxCl_ty hc9) hown (hts _ hcw) (hts _ (dxCl_in hc9).1) (hts _ (dxCl_in hc9).2) hK hP (dxWc_D b st cy H) hS hA (dxCl_at hc9) (fs := ((List.range (dxCl cc').2.2).map (fun j => dxDef (dxTyp cc' j))).map (dxV b st)) (fun j hj => ?_) (by omega) (by omega) hd (fun q H1 hP1 hD1 hS1 => ?_)
        · unfold vp_V
          rw [List.map_map, List.getD_eq_getElem?_getD, List.getElem?_map, List.getElem?_range hj]
          show _ = dxV b st (dxDef (dxTyp cc' j))
          have hq := dxCl_df hc9 j hj
          rw [← hq]
          unfold dxDef
          cases dxTyp cc' j <;> rfl
        · refine dx_size fun hz => ?_
          have e1 := dx_new_at hP1 hD1 (by omega)
          subst e1
          have k1 := kk H1 locs (by rw [List.length_append]; omega) (by omega) (by rw [dxWc_app]; exact hP1) hS1
          rw [List.length_append, List.length_singleton, show H.length + 1 - n0 = H.length - n0 + 1 by omega, show z + (dxCl cc').2.2 - z0 = z - z0 + (dxCl cc').2.2 by omega] at k1
          exact k1
      · cases h
    · cases h
  · exact dxNwA_ok (atype := .int) (ty := .int) hx hb hts hK hP hS rfl dxW_arr.1 rfl (fun _ _ => rfl) (by decide) hs0 hn0 hz0 hc1 hc2 hd h kk
  · exact dxNwA_ok (atype := .boolean) (ty := .boolean) hx hb hts hK hP hS rfl dxW_arr.2 rfl (fun _ _ => rfl) (by decide) hs0 hn0 hz0 hc1 hc2 hd h kk
  · split at h
    · rename_i idx _ w hf
      split at h
      · rename_i x r
        split at h
        · rename_i hc
          cases h
          rw [List.length_append, List.length_singleton] at hc1
          have hcw : Cond.classLink (dxR (dxCi k)) idx RX3 ∈ dxTb := List.mem_of_getElem? (dxCw_all _ (dx_find hf))
          refine va_newq hx hb hown (hts _ hcw) ho hK hP (dxWc_D b st cy H) hS hA (n := x) hc.1 rfl ?_ (by omega) (by omega) hd (fun q cA H1 hK1 hP1 hD1 hS1 => ?_)
          · omega
          · refine dx_size fun hz => ?_
            have e1 := dx_new_at hP1 hD1 (by omega)
            have e2 : cA = cy 2 := dx_cy (t := 2) rfl hK1
            subst e1
            subst e2
            have k1 := kk H1 locs (by rw [List.length_append]; omega) (by omega) (by rw [dxWc_app]; exact hP1) hS1
            rw [List.length_append, List.length_singleton, show H.length + 1 - n0 = H.length - n0 + 1 by omega, show z + x.toNatClampNeg - z0 = z - z0 + x.toNatClampNeg by omega] at k1
            exact k1
        · cases h
      · cases h
    · cases h
  · cases h
theorem dxW8_ok (h : dxW8 S = true) : ((S.map (dxV b st)).map fun v => v.category).sum ≤ 8 := by
  rw [dxV_sum]
  unfold dxW8 at h
  exact of_decide_eq_true h
theorem dxBi_ok (hx : p.tables.exec = Jvm.exec) (hb : c.code = cc) (hml : c.maxLocals = ls.size) (hown : s.vm.findClass (dxR (dxCi k)) = some m.cls) (hts : ∀ w ∈ dxTb, w.before args s = true) (hK : va_K D vwCl (dxTy cy) s) (hP : va_P D vwCl (dxWc b st cy H) Hp) (hS : va_S (fun q => b ≤ q) s.heap Hp locs)
    (hfr : dxFr k ≤ R.frames) (hlo : dxLo k ≤ R.locals) (hcl : cells ≤ R.cells) (hsl : slots ≤ R.slots)
    (hd : decode cc pc = .ok (i, n)) (h : dxBi k i n S H = some (S', H'))
    (kk : ∀ (Hp' : Heap) (locs' : List Loc), H'.length = H.length → va_P D vwCl (dxWc b st cy H') Hp' → va_S (fun q => b ≤ q) s.heap Hp' locs' → W p l e R s m args below meth c Hp' locs' cells slots Q (F0 m (pc + n) ls (S'.map (dxV b st)))) : W p l e R s m args below meth c Hp locs cells slots Q (F0 m pc ls (S.map (dxV b st))) := by
  have k0 : H' = H → W p l e R s m args below meth c Hp locs cells slots Q (F0 m (pc + n) ls (S'.map (dxV b st))) := fun q => kk Hp locs (by rw [q]) (by rw [q]; exact hP) hS
  unfold dxBi at h
  split at h
  · split at h
    · rename_i idx w hf
      split at h
      · rename_i a r
        split at h
        · rename_i hc
          obtain ⟨hw, h1, h2⟩ := hc
          cases h
          obtain ⟨w1, w2, w3, w4, w5⟩ := w
          have hsum := dxW8_ok (b := b) (st := st) hw
          refine W.objInit hx hb hown (hts _ (dxLk_w hf (List.mem_cons_self))) (hts _ dxW_obj.1) (hts _ dxW_obj.2) rfl (by rw [hml]) (a := b + a) (rest := S'.map (dxV b st)) rfl hd (by omega) (by show 2 * 0 + _ + 12 ≤ _; omega) (k0 rfl)
        · cases h
      · cases h
    · cases h
  · split at h
    · rename_i hc
      split at h
      · rename_i w hf
        split at h
        · split at h
          · rename_i hw
            cases h
            obtain ⟨w1, w2, w3, w4, w5⟩ := w
            have hsum := dxW8_ok (b := b) (st := st) hw
            exact va_mabs hx hb hml hown (hts _ (dxLk_w hf (List.mem_cons_self))) (hts _ dxW_math.1) (hts _ dxW_math.2.2.2.1) (hts _ dxW_math.2.2.2.2.1) (by omega) (by omega) hcl hsl hd (k0 rfl)
          · cases h
        · cases h
      · rename_i w hf
        split at h
        · split at h
          · rename_i hw
            cases h
            obtain ⟨w1, w2, w3, w4, w5⟩ := w
            have hsum := dxW8_ok (b := b) (st := st) hw
            exact va_mmin hx hb hml hown (hts _ (dxLk_w hf (List.mem_cons_self))) (hts _ dxW_math.2.1) (hts _ dxW_math.2.2.2.1) (hts _ dxW_math.2.2.2.2.2.1) (by omega) (by omega) hcl hsl hd (k0 rfl)
          · cases h
        · cases h
      · rename_i w hf
        split at h
        · split at h
          · rename_i hw
            cases h
            obtain ⟨w1, w2, w3, w4, w5⟩ := w
            have hsum := dxW8_ok (b := b) (st := st) hw
            exact va_mmax hx hb hml hown (hts _ (dxLk_w hf (List.mem_cons_self))) (hts _ dxW_math.2.2.1) (hts _ dxW_math.2.2.2.1) (hts _ dxW_math.2.2.2.2.2.2) (by omega) (by omega) hcl hsl hd (k0 rfl)
          · cases h
        · cases h
      · rename_i w hf
        split at h
        · rename_i h26
          unfold dxCpy at h
          split at h
          · rename_i x dp a sp a0 r
            split at h
            · rename_i n0' f n1' g ha0 ha
              split at h
              · rename_i hq
                obtain ⟨hw, q1, q2, q3, q4, q5⟩ := hq
                cases h
                obtain ⟨w1, w2, w3, w4, w5⟩ := w
                have hsum := dxW8_ok (b := b) (st := st) hw
                refine va_copyi hx hb hml hown (hts _ (dxLk_w hf (List.mem_cons_self))) (hts _ dxW_copy.1) (hts _ dxW_copy.2.1) (hts _ dxW_copy.2.2) hK hP (dxWc_D b st cy H) hS a0 a 0 0 (dxWc_get ha0) (dxWc_get ha) rfl rfl rfl q1 q2 q3 q4 q5 (fun _ _ => rfl) (by omega) ?_ hd (fun Hp' locs' g1 _ g3 => kk Hp' locs' (by rw [List.length_set]) (by rw [dxWc_set]; exact g1) g3)
                have : nativeFrameWords "java/lang/System" "arraycopy" 5 = 7 := by decide +kernel
                rw [this]
                omega
              · cases h
            · cases h
          · cases h
        · cases h
      · cases h
    · cases h
  · cases h
end DX3
