/-! THE CLAIM OUT OF ONE WALK OF THE LAW'S BODY. Your part is whole_start (and what it stands on); all else here is the same for every law, but numbers. -/
def R_law : String := "MilkTruceLaw"
def lw_P (b : Addr) (xs : List Int32) (args : Array Value) (s : State) : Prop := args = #[.ref b] ∧ s.IntsAt b xs ∧ xs.length ≤ 320 ∧ (Jvm.Cond.and given_1 narrow_1).before args s = true
def lw_Q (_ : Array Value) (s : State) (o : Outcome) (t : State) : Prop := o = .returned (some (.int 1)) ∧ Framed s o t [] 600000 7302250
def lw_Z (below : List Frame) (a : Array Value) (s : State) : State → Prop := fun t => ∃ o, t.status = .running ∧ Ended t below o ∧ lw_Q a s o t
/-- the law's own end, with 1 on the stack, nothing written that was there before, its room as the claim has it -/
theorem lw_ret {p : Program} {l : Launch} {e : Env} {s : State} {m : MethodId} {below : List Frame} {meth : Method} {c : Code} {b : Nat} (hx : p.tables.exec = Jvm.exec) (hb : c.code = code) (hr : meth.sig.returnType = ret) (hlocks : meth.locks = false) {pc : Nat} {H : Heap} {ls : Array Slot} (hdg : decode code pc = .ok (.ireturn, 1)) : W p l e room_1 s m #[Value.ref b] below meth c H [] 600000 7302250 (lw_Z below #[Value.ref b] s) (F0 m pc ls [.int 1]) := by
  intro T hT X
  obtain ⟨fs, hret, hrun, hended, hW, hframe⟩ := X.leave (v := some (.int 1)) (hlocks := hlocks) (fun h => by rw [hr] at h; cases h)
  have hmeth' : T.vm.method? m = some meth := X.method'
  refine ⟨T.setFrames fs, ?_, .returned (some (.int 1)), hrun, hended, rfl, ⟨_, rfl⟩, hW, hframe⟩
  jvm_step X.here [X.here.top, hx, hb, hdg, hmeth', hr, ret, narrow_b1]
  (try refine ⟨rfl, ?_⟩); (try refine ⟨rfl, ?_⟩)
  first | (intro acts; rw [hret _ acts rfl rfl rfl]) | rw [hret _ _ rfl rfl rfl]
  exact Steps.refl _
/-- what holds at the law's entry: the machine, the code, the tables' words (any of lw_tbl by 'hts w (by decide +kernel)'), the script of L ints xs at the cell b, what the Statement gives of the start (any of its parts by flat_of_before) -/
def lw_At (p : Program) (s : State) (m : MethodId) (meth : Method) (c : Code) (b L : Nat) (xs : Nat → Int32) : Prop :=
  p.tables.exec = Jvm.exec ∧ c.code = code ∧ meth.sig.returnType = ret ∧ c.maxLocals = 4 ∧ s.vm.findClass R_law = some m.cls ∧ (∀ w ∈ lw_tbl, w.before #[Value.ref b] s = true) ∧ va_X b L xs s s.heap ∧ b < s.heap.size ∧ meth.locks = false ∧ (Jvm.Cond.and given_1 narrow_1).before #[Value.ref b] s = true
/-- the tables: the class's static arrays, the script -/
def dxTbl (L : Nat) (xs : Nat → Int32) : dxT := fun j => match j with
  | 0 => (2, fun q => [0, 1].getD q 0)
  | 1 => (2, fun q => [9, 9].getD q 0)
  | 2 => (4, fun q => [0, 0, 0, 0].getD q 0)
  | 3 => (4, fun q => [9, 1, 9, 3].getD q 0)
  | _ => (L, xs)
theorem dxB_law : dxB 173 = code := rfl
/-- WHAT IS LEFT: the law's run in the deep interpreter -/
def dxGo : Prop := ∀ (L : Nat) (xs : Nat → Int32), L ≤ 320 → ∃ (f : Nat) (H' : dxH) (z' : Nat), dxRun (dxTbl L xs) f 173 0 (dxEnt 173 [.float 4]) [] [] 0 = some (some (.int 1), H', z') ∧ H'.length ≤ 600000 ∧ z' ≤ 7302250
theorem dx_tab {args : Array Value} {s : State} {n : String} {N : Nat} {f : Nat → Int32} {A : Nat → Prop} (hN : N < 2 ^ 31) (harr : (Cond.arrayOf (.static RX4 n "[I") .int).before args s = true) (hlen : (Cond.eq (.length (.static RX4 n "[I")) (.int (Int32.ofNat N))).before args s = true) (hel : ∀ j : Nat, j < N → (Cond.eq (.elem (.static RX4 n "[I") (.int (Int32.ofNat j))) (.int (f j))).before args s = true) (hl : (Cond.laysStatic RX4 n "[I").before args s = true) (hini : (Cond.initialized RX4).before args s = true) (hA : ∀ a : Nat, a < s.heap.size → ¬ A a) : ∃ t : Nat, va_Z RX4 n "[I" (.ref t) A s s.heap ∧ va_T .int t N (fun j => .int (f j)) A s s.heap := by
  obtain ⟨t, h1, h2⟩ := va_Tof (f := fun j => .int (f j)) hN harr (va_eqt hlen) (fun j hj => va_eqt (hel j hj)) hA
  exact ⟨t, va_Zref hl hini h1 hA, h2⟩
set_option maxRecDepth 100000 in
theorem dx_whole (go : dxGo) {p : Program} {e : Env} {s : State} {m : MethodId} {below : List Frame} {meth : Method} {c : Code} (l : Launch) {b L : Nat} {xs : Nat → Int32} (hL : L ≤ 320) (C0 : lw_At p s m meth c b L xs) : W p l e room_1 s m #[Value.ref b] below meth c s.heap [] 0 0 (lw_Z below #[Value.ref b] s) (entryFrame m ([Value.ref b] : List Value).toArray 4) := by
  obtain ⟨hx, hb, hr0, hml, hown, hts, hX, hbl, hlocks, hgv⟩ := id C0
  have hA : ∀ a : Nat, a < s.heap.size → ¬ s.heap.size ≤ a := fun a h => by omega
  have hf := flat_of_before _ hgv
  have hin4 : (Cond.initialized RX4).before #[Value.ref b] s = true := hts _ (by decide +kernel)
  obtain ⟨t0, hZ0, hT0⟩ := dx_tab (n := "CLOVER_LEAST") (N := 2) (f := fun q => [0, 1].getD q 0) (by decide) (hf _ (by decide +kernel)) (hf _ (by decide +kernel)) (fun j hj => by rcases (show j = 0 ∨ j = 1 by omega) with rfl | rfl <;> exact hf _ (by decide +kernel)) (hts _ (by decide +kernel)) hin4 hA
  obtain ⟨t1, hZ1, hT1⟩ := dx_tab (n := "CLOVER_MOST") (N := 2) (f := fun q => [9, 9].getD q 0) (by decide) (hf _ (by decide +kernel)) (hf _ (by decide +kernel)) (fun j hj => by rcases (show j = 0 ∨ j = 1 by omega) with rfl | rfl <;> exact hf _ (by decide +kernel)) (hts _ (by decide +kernel)) hin4 hA
  obtain ⟨t2, hZ2, hT2⟩ := dx_tab (n := "COW_LEAST") (N := 4) (f := fun q => [0, 0, 0, 0].getD q 0) (by decide) (hf _ (by decide +kernel)) (hf _ (by decide +kernel)) (fun j hj => by rcases (show j = 0 ∨ j = 1 ∨ j = 2 ∨ j = 3 by omega) with rfl | rfl | rfl | rfl <;> exact hf _ (by decide +kernel)) (hts _ (by decide +kernel)) hin4 hA
  obtain ⟨t3, hZ3, hT3⟩ := dx_tab (n := "COW_MOST") (N := 4) (f := fun q => [9, 1, 9, 3].getD q 0) (by decide) (hf _ (by decide +kernel)) (hf _ (by decide +kernel)) (fun j hj => by rcases (show j = 0 ∨ j = 1 ∨ j = 2 ∨ j = 3 by omega) with rfl | rfl | rfl | rfl <;> exact hf _ (by decide +kernel)) (hts _ (by decide +kernel)) hin4 hA
  have hT4 : va_T .int b L (fun q => .int (xs q)) (fun q => s.heap.size ≤ q) s s.heap := by
    obtain ⟨scr, h1, h2, h3, h4, h5⟩ := hX
    exact ⟨scr, h1, h2, h3, by omega, by rw [h4], h5, by omega⟩
  -- the classes
  have hcl : ∀ c : Nat, ∃ q : ClassId × (Nat → Nat), c < 9 → u_Kn s (dxCl c).1 (dxCl c).2.1 (dxCl c).2.2 q.1 q.2 := by
    intro c
    by_cases hc : c < 9
    · obtain ⟨cC, iS, h⟩ := u_known (n := (dxCl c).2.2) hts (fun w hw => (List.mem_filter.mp (dxCl_uw hc w hw)).1) (hts _ (List.mem_filter.mp (dxCl_in hc).1).1)
      exact ⟨(cC, iS), fun _ => h⟩
    · exact ⟨(0, fun _ => 0), fun h => absurd h hc⟩
  obtain ⟨aI, kI, mI, i1, i2, i3⟩ := Cond.arrayClass_spec (hts _ (List.mem_filter.mp dxW_arr.1).1)
  obtain ⟨aZ, kZ, mZ, j1, j2, j3⟩ := Cond.arrayClass_spec (hts _ (List.mem_filter.mp dxW_arr.2).1)
  have hAO : va_AO RX3 s := va_AO.of (hts (.arrayOver (.object RX3)) (by decide +kernel))
  obtain ⟨mM, aM, kM, m1, -, m2, m3, m4⟩ := Cond.arrayOver_spec hAO
  have hK : va_K (fun c => (Classical.choose (hcl c)).1, fun c => (Classical.choose (hcl c)).2) vwCl (dxTy (fun t => if t = 0 then aI else if t = 1 then aZ else aM)) s := by
    refine ⟨fun c q hq => ?_, fun k q hq => ?_⟩
    · have hc : c < 9 := (List.getElem?_eq_some_iff.mp hq).1
      have h1 := Classical.choose_spec (hcl c) hc
      have h2 := dxCl_at hc
      rw [hq] at h2
      cases h2
      exact h1
    · match k, hq with
      | 0, hq => cases hq; exact ⟨fun n z => ⟨fun k h => (by cases h), kI, i2, mI, i3⟩, i1⟩
      | 1, hq => cases hq; exact ⟨fun n z => ⟨fun k h => (by cases h), kZ, j2, mZ, j3⟩, j1⟩
      | 2, hq => cases hq; exact ⟨fun n z => ⟨fun k h => (by cases h), kM, m2, mM, m3⟩, kM, mM, m2, m3, m1, m4⟩
      | k + 3, hq => cases hq
  have hFx : dxFx s.heap.size (fun j => if j = 0 then t0 else if j = 1 then t1 else if j = 2 then t2 else if j = 3 then t3 else b) (fun t => if t = 0 then aI else if t = 1 then aZ else aM) (fun c => (Classical.choose (hcl c)).1, fun c => (Classical.choose (hcl c)).2) (dxTbl L xs) s := by
    refine ⟨hK, fun j hj => ?_, fun j hj => ?_, hAO, fun q hq hk => va_Nw.of rfl (hts _ (List.mem_of_getElem? (dxNst_all q hq hk)))⟩
    · rcases (show j = 0 ∨ j = 1 ∨ j = 2 ∨ j = 3 ∨ j = 4 by omega) with rfl | rfl | rfl | rfl | rfl
      · exact hT0
      · exact hT1
      · exact hT2
      · exact hT3
      · exact hT4
    · rcases (show j = 0 ∨ j = 1 ∨ j = 2 ∨ j = 3 by omega) with rfl | rfl | rfl | rfl
      · exact hZ0
      · exact hZ1
      · exact hZ2
      · exact hZ3
  obtain ⟨f, H', z', hrun, hcells, hslots⟩ := go L xs hL
  have hl := lv_entry ([.ref b]) (n := 4) (Nat.le_of_ble_eq_true rfl)
  rw [lg_entry_eq]
  generalize (lg_sl ([.ref b]) ++ List.replicate (4 - (lg_sl ([.ref b])).length) Slot.unset).toArray = ls at hl ⊢
  have hls : dxLs s.heap.size (fun j => if j = 0 then t0 else if j = 1 then t1 else if j = 2 then t2 else if j = 3 then t3 else b) ls (dxMl 173) (dxEnt 173 [.float 4]) := dxEnt_ls (k := 173) (vs := [.float 4]) hl (by decide +kernel)
  have hcode : dxB 173 = code := dxB_law
  have k1 := dx_sound (dxTbl L xs) l f s.heap.size (fun j => if j = 0 then t0 else if j = 1 then t1 else if j = 2 then t2 else if j = 3 then t3 else b) (fun t => if t = 0 then aI else if t = 1 then aZ else aM) (fun c => (Classical.choose (hcl c)).1, fun c => (Classical.choose (hcl c)).2) 173 0 (dxEnt 173 [.float 4]) [] [] 0 (some (.int 1)) H' z' hrun p e room_1 s m #[Value.ref b] below meth c s.heap [] (lw_Z below #[Value.ref b] s) ls 0 0
    ⟨hx, hb.trans hcode.symm, hml.trans (by decide +kernel), hown, fun h => absurd h (by decide +kernel), fun w hw => hts w (List.mem_filter.mp hw).1, hFx⟩ rfl (Nat.le_refl _) (Nat.le_refl _) hcells hslots (by decide +kernel) (by decide +kernel) (fun k q h => by simp [dxWc] at h) va_S.rf hls
    (fun Hp' locs' ls' pc' i n S' hd hr hP' hS' => by
      refine va_forget hS'.2.2 (W.widen (k := 600000) (n := 7302250) hcells hslots ?_)
      unfold dxRet at hr
      split at hr
      · split at hr
        · split at hr
          · cases hr
            exact lw_ret hx hb hr0 hlocks (hcode ▸ hd)
          · cases hr
        · cases hr
      · repeat' split at hr
        all_goals cases hr
      · repeat' split at hr
        all_goals cases hr
      · repeat' split at hr
        all_goals cases hr
      · cases hr)
  exact k1
