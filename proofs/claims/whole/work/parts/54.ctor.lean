/-! the start: the constructors run  -/
theorem ezs_put {tb : dxT} {k pc : Nat} {L : dxL} {S : List Value} {H : dxH} {z : Nat} {Q : Option Value → dxH → Nat → Prop} {ci idx c j w a : Nat} {fs fs' : List Value} {v : Value} (hI : dxI k pc = some (.putfield idx, 3)) (hc : dxCi k = ci) (hf : dxF ci idx = some (c, j, w)) (ho : H[a]? = some (.inr (c, fs))) (hg : j < fs.length ∧ dxFit (dxTyp c j) v = true ∧ (((dxCl c).2.1 j).2.2.2 = false ∨ ((dxY k).name = "<init>" ∧ c = dxCi k))) (hs : fs.set j v = fs') (kk : ∀ H1, H1 = H.set a (.inr (c, fs')) → Ez tb k (pc + 3) L S H1 z Q) : Ez tb k pc L (v :: .ref a :: S) H z Q := ez_put hI hc hf ho hg hs (kk _ rfl)
theorem ezs_new {tb : dxT} {k pc : Nat} {L : dxL} {S : List Value} {H : dxH} {z : Nat} {Q : Option Value → dxH → Nat → Prop} {ci idx c w N m : Nat} {fs : List Value} (hI : dxI k pc = some (.new idx, 3)) (hc : dxCi k = ci) (hl : dxC ci idx = some (c, w)) (h9 : c < 9) (hf : (List.range (dxCl c).2.2).map (fun j => dxDef (dxTyp c j)) = fs) (hm : (dxCl c).2.2 = m) (hn : H.length = N) (kk : ∀ H1, H1 = H ++ [.inr (c, fs)] → Ez tb k (pc + 3) L (.ref N :: S) H1 (z + m) Q) : Ez tb k pc L S H z Q := ez_new hI hc hl h9 hf hn (by rw [hm]; exact kk)
theorem ez_vret {tb : dxT} {k pc : Nat} {L : dxL} {H : dxH} {z : Nat} {Q : Option Value → dxH → Nat → Prop} (hI : dxI k pc = some (.return_, 1)) (hr : dxRt k = none) (hq : Q none H z) : Ez tb k pc L [] H z Q := ez_ret hI (by simp only [dxRet]; rw [if_pos hr]) hq
/-- a fresh meadow of the herd h -/
def MdZ (H : dxH) (a h : Nat) : Prop := H[a]? = some (.inr (3, [.ref h, .ref (a + 1), .ref (a + 2), .ref (a + 3), .ref (a + 4), .int 0, .int 0, .int 0, .int 0])) ∧ H[a + 1]? = some (.inl (0, 10, .inl (fun _ => 0))) ∧ H[a + 2]? = some (.inl (0, 6, .inl (fun _ => 0))) ∧ H[a + 3]? = some (.inl (0, 6, .inl (fun _ => 0))) ∧ H[a + 4]? = some (.inl (0, 2, .inl (fun _ => 0)))
theorem MdZ.fr {H H' : dxH} {a h N : Nat} (hM : MdZ H a h) (hf : ∀ j, j < N → H'[j]? = H[j]?) (ha : a + 4 < N) : MdZ H' a h := by
  obtain ⟨h1, h2, h3, h4, h5⟩ := hM
  exact ⟨(hf _ (by omega)).trans h1, (hf _ (by omega)).trans h2, (hf _ (by omega)).trans h3, (hf _ (by omega)).trans h4, (hf _ (by omega)).trans h5⟩
theorem z5 {tb : dxT} {H : dxH} {z p : Nat} (hn : H.length = p + 1) (o0 : H[p]? = some (.inr (1, [.null, .int 0]))) : Ez tb 5 0 (dxEnt 5 [.ref p]) [] H z (fun r H' z' => r = none ∧ H'.length = p + 2 ∧ z' = z + 26 ∧ (∀ j, j < p → H'[j]? = H[j]?) ∧ H'[p]? = some (.inr (1, [.ref (p + 1), .int 0])) ∧ H'[p + 1]? = some (.inl (0, 26, .inl (fun _ => 0)))) := by
  have fr : ∀ j, j < p → H[j]? = H[j]? := fun _ _ => rfl
  show Ez tb 5 0 [some (.ref p)] [] H z _
  refine ez_aload_n i5_0 rfl ?_
  refine ez_obj i5_1 ci5 lk1_3 (by decide +kernel) rfl ?_
  refine ez_aload_n i5_4 rfl ?_
  refine ez_bipush (v := nI 26) i5_5 (by decide) ?_
  refine ez_nwI i5_7 (by omega) hn (fun H1 hH1 => ?_)
  have o0 : H1[p]? = some (.inr (1, [.null, .int 0])) := by rw [hH1]; exact app_l o0
  have fr : ∀ j, j < p → H1[j]? = H[j]? := fun j hj => (show H1[j]? = H[j]? by rw [hH1, List.getElem?_append_left (by omega)]).trans (fr j hj)
  have o1 : H1[p + 1]? = some (.inl (0, 26, .inl (fun _ => 0))) := by rw [hH1]; exact app_n hn
  have hn : H1.length = p + 2 := by rw [hH1, List.length_append, hn]; rfl
  refine ezs_put (fs' := [.ref (p + 1), .int 0]) i5_9 ci5 fl1_9 o0 (by first | exact ⟨Nat.le_of_ble_eq_true rfl, rfl, Or.inl rfl⟩ | exact ⟨Nat.le_of_ble_eq_true rfl, rfl, Or.inr ⟨by decide +kernel, by decide +kernel⟩⟩) rfl (fun H2 hH2 => ?_)
  have o0 : H2[p]? = some (.inr (1, [.ref (p + 1), .int 0])) := by rw [hH2]; exact set_self o0
  have o1 : H2[p + 1]? = some (.inl (0, 26, .inl (fun _ => 0))) := by rw [hH2]; exact set_ne o1 (by omega)
  have fr : ∀ j, j < p → H2[j]? = H[j]? := fun j hj => (show H2[j]? = H1[j]? by rw [hH2, List.getElem?_set_ne (by omega)]).trans (fr j hj)
  have hn : H2.length = p + 2 := by rw [hH2, List.length_set]; exact hn
  refine ez_vret i5_12 (by decide +kernel) ?_
  exact ⟨rfl, hn, rfl, fr, o0, o1⟩
theorem z11 {tb : dxT} {H : dxH} {z p : Nat} (hn : H.length = p + 1) (o0 : H[p]? = some (.inr (2, [.null, .null, .int 0]))) : Ez tb 11 0 (dxEnt 11 [.ref p]) [] H z (fun r H' z' => r = none ∧ H'.length = p + 3 ∧ z' = z + 12 ∧ (∀ j, j < p → H'[j]? = H[j]?) ∧ H'[p]? = some (.inr (2, [.ref (p + 1), .ref (p + 2), .int 0])) ∧ H'[p + 1]? = some (.inl (0, 6, .inl (fun _ => 0))) ∧ H'[p + 2]? = some (.inl (0, 6, .inl (fun _ => 0)))) := by
  have fr : ∀ j, j < p → H[j]? = H[j]? := fun _ _ => rfl
  show Ez tb 11 0 [some (.ref p)] [] H z _
  refine ez_aload_n i11_0 rfl ?_
  refine ez_obj i11_1 ci11 lk2_3 (by decide +kernel) rfl ?_
  refine ez_aload_n i11_4 rfl ?_
  refine ez_bipush (v := nI 6) i11_5 (by decide) ?_
  refine ez_nwI i11_7 (by omega) hn (fun H1 hH1 => ?_)
  have o0 : H1[p]? = some (.inr (2, [.null, .null, .int 0])) := by rw [hH1]; exact app_l o0
  have fr : ∀ j, j < p → H1[j]? = H[j]? := fun j hj => (show H1[j]? = H[j]? by rw [hH1, List.getElem?_append_left (by omega)]).trans (fr j hj)
  have o1 : H1[p + 1]? = some (.inl (0, 6, .inl (fun _ => 0))) := by rw [hH1]; exact app_n hn
  have hn : H1.length = p + 2 := by rw [hH1, List.length_append, hn]; rfl
  refine ezs_put (fs' := [.ref (p + 1), .null, .int 0]) i11_9 ci11 fl2_9 o0 (by first | exact ⟨Nat.le_of_ble_eq_true rfl, rfl, Or.inl rfl⟩ | exact ⟨Nat.le_of_ble_eq_true rfl, rfl, Or.inr ⟨by decide +kernel, by decide +kernel⟩⟩) rfl (fun H2 hH2 => ?_)
  have o0 : H2[p]? = some (.inr (2, [.ref (p + 1), .null, .int 0])) := by rw [hH2]; exact set_self o0
  have o1 : H2[p + 1]? = some (.inl (0, 6, .inl (fun _ => 0))) := by rw [hH2]; exact set_ne o1 (by omega)
  have fr : ∀ j, j < p → H2[j]? = H[j]? := fun j hj => (show H2[j]? = H1[j]? by rw [hH2, List.getElem?_set_ne (by omega)]).trans (fr j hj)
  have hn : H2.length = p + 2 := by rw [hH2, List.length_set]; exact hn
  refine ez_aload_n i11_12 rfl ?_
  refine ez_bipush (v := nI 6) i11_13 (by decide) ?_
  refine ez_nwI i11_15 (by omega) hn (fun H3 hH3 => ?_)
  have o0 : H3[p]? = some (.inr (2, [.ref (p + 1), .null, .int 0])) := by rw [hH3]; exact app_l o0
  have o1 : H3[p + 1]? = some (.inl (0, 6, .inl (fun _ => 0))) := by rw [hH3]; exact app_l o1
  have fr : ∀ j, j < p → H3[j]? = H[j]? := fun j hj => (show H3[j]? = H2[j]? by rw [hH3, List.getElem?_append_left (by omega)]).trans (fr j hj)
  have o2 : H3[p + 2]? = some (.inl (0, 6, .inl (fun _ => 0))) := by rw [hH3]; exact app_n hn
  have hn : H3.length = p + 3 := by rw [hH3, List.length_append, hn]; rfl
  refine ezs_put (fs' := [.ref (p + 1), .ref (p + 2), .int 0]) i11_17 ci11 fl2_15 o0 (by first | exact ⟨Nat.le_of_ble_eq_true rfl, rfl, Or.inl rfl⟩ | exact ⟨Nat.le_of_ble_eq_true rfl, rfl, Or.inr ⟨by decide +kernel, by decide +kernel⟩⟩) rfl (fun H4 hH4 => ?_)
  have o0 : H4[p]? = some (.inr (2, [.ref (p + 1), .ref (p + 2), .int 0])) := by rw [hH4]; exact set_self o0
  have o1 : H4[p + 1]? = some (.inl (0, 6, .inl (fun _ => 0))) := by rw [hH4]; exact set_ne o1 (by omega)
  have o2 : H4[p + 2]? = some (.inl (0, 6, .inl (fun _ => 0))) := by rw [hH4]; exact set_ne o2 (by omega)
  have fr : ∀ j, j < p → H4[j]? = H[j]? := fun j hj => (show H4[j]? = H3[j]? by rw [hH4, List.getElem?_set_ne (by omega)]).trans (fr j hj)
  have hn : H4.length = p + 3 := by rw [hH4, List.length_set]; exact hn
  refine ez_vret i11_20 (by decide +kernel) ?_
  exact ⟨rfl, hn, rfl, fr, o0, o1, o2⟩
theorem z18 {tb : dxT} {H : dxH} {z p : Nat} {h : Nat} (hn : H.length = p + 1) (o0 : H[p]? = some (.inr (3, [.null, .null, .null, .null, .null, .int 0, .int 0, .int 0, .int 0]))) : Ez tb 18 0 (dxEnt 18 [.ref p, .ref h]) [] H z (fun r H' z' => r = none ∧ H'.length = p + 5 ∧ z' = z + 24 ∧ (∀ j, j < p → H'[j]? = H[j]?) ∧ MdZ H' p h) := by
  have fr : ∀ j, j < p → H[j]? = H[j]? := fun _ _ => rfl
  show Ez tb 18 0 [some (.ref p), some (.ref h)] [] H z _
  refine ez_aload_n i18_0 rfl ?_
  refine ez_obj i18_1 ci18 lk3_3 (by decide +kernel) rfl ?_
  refine ez_aload_n i18_4 rfl ?_
  refine ez_bipush (v := nI 10) i18_5 (by decide) ?_
  refine ez_nwI i18_7 (by omega) hn (fun H1 hH1 => ?_)
  have o0 : H1[p]? = some (.inr (3, [.null, .null, .null, .null, .null, .int 0, .int 0, .int 0, .int 0])) := by rw [hH1]; exact app_l o0
  have fr : ∀ j, j < p → H1[j]? = H[j]? := fun j hj => (show H1[j]? = H[j]? by rw [hH1, List.getElem?_append_left (by omega)]).trans (fr j hj)
  have o1 : H1[p + 1]? = some (.inl (0, 10, .inl (fun _ => 0))) := by rw [hH1]; exact app_n hn
  have hn : H1.length = p + 2 := by rw [hH1, List.length_append, hn]; rfl
  refine ezs_put (fs' := [.null, .ref (p + 1), .null, .null, .null, .int 0, .int 0, .int 0, .int 0]) i18_9 ci18 fl3_9 o0 (by first | exact ⟨Nat.le_of_ble_eq_true rfl, rfl, Or.inl rfl⟩ | exact ⟨Nat.le_of_ble_eq_true rfl, rfl, Or.inr ⟨by decide +kernel, by decide +kernel⟩⟩) rfl (fun H2 hH2 => ?_)
  have o0 : H2[p]? = some (.inr (3, [.null, .ref (p + 1), .null, .null, .null, .int 0, .int 0, .int 0, .int 0])) := by rw [hH2]; exact set_self o0
  have o1 : H2[p + 1]? = some (.inl (0, 10, .inl (fun _ => 0))) := by rw [hH2]; exact set_ne o1 (by omega)
  have fr : ∀ j, j < p → H2[j]? = H[j]? := fun j hj => (show H2[j]? = H1[j]? by rw [hH2, List.getElem?_set_ne (by omega)]).trans (fr j hj)
  have hn : H2.length = p + 2 := by rw [hH2, List.length_set]; exact hn
  refine ez_aload_n i18_12 rfl ?_
  refine ez_bipush (v := nI 6) i18_13 (by decide) ?_
  refine ez_nwI i18_15 (by omega) hn (fun H3 hH3 => ?_)
  have o0 : H3[p]? = some (.inr (3, [.null, .ref (p + 1), .null, .null, .null, .int 0, .int 0, .int 0, .int 0])) := by rw [hH3]; exact app_l o0
  have o1 : H3[p + 1]? = some (.inl (0, 10, .inl (fun _ => 0))) := by rw [hH3]; exact app_l o1
  have fr : ∀ j, j < p → H3[j]? = H[j]? := fun j hj => (show H3[j]? = H2[j]? by rw [hH3, List.getElem?_append_left (by omega)]).trans (fr j hj)
  have o2 : H3[p + 2]? = some (.inl (0, 6, .inl (fun _ => 0))) := by rw [hH3]; exact app_n hn
  have hn : H3.length = p + 3 := by rw [hH3, List.length_append, hn]; rfl
  refine ezs_put (fs' := [.null, .ref (p + 1), .ref (p + 2), .null, .null, .int 0, .int 0, .int 0, .int 0]) i18_17 ci18 fl3_15 o0 (by first | exact ⟨Nat.le_of_ble_eq_true rfl, rfl, Or.inl rfl⟩ | exact ⟨Nat.le_of_ble_eq_true rfl, rfl, Or.inr ⟨by decide +kernel, by decide +kernel⟩⟩) rfl (fun H4 hH4 => ?_)
  have o0 : H4[p]? = some (.inr (3, [.null, .ref (p + 1), .ref (p + 2), .null, .null, .int 0, .int 0, .int 0, .int 0])) := by rw [hH4]; exact set_self o0
  have o1 : H4[p + 1]? = some (.inl (0, 10, .inl (fun _ => 0))) := by rw [hH4]; exact set_ne o1 (by omega)
  have o2 : H4[p + 2]? = some (.inl (0, 6, .inl (fun _ => 0))) := by rw [hH4]; exact set_ne o2 (by omega)
  have fr : ∀ j, j < p → H4[j]? = H[j]? := fun j hj => (show H4[j]? = H3[j]? by rw [hH4, List.getElem?_set_ne (by omega)]).trans (fr j hj)
  have hn : H4.length = p + 3 := by rw [hH4, List.length_set]; exact hn
  refine ez_aload_n i18_20 rfl ?_
  refine ez_bipush (v := nI 6) i18_21 (by decide) ?_
  refine ez_nwI i18_23 (by omega) hn (fun H5 hH5 => ?_)
  have o0 : H5[p]? = some (.inr (3, [.null, .ref (p + 1), .ref (p + 2), .null, .null, .int 0, .int 0, .int 0, .int 0])) := by rw [hH5]; exact app_l o0
  have o1 : H5[p + 1]? = some (.inl (0, 10, .inl (fun _ => 0))) := by rw [hH5]; exact app_l o1
  have o2 : H5[p + 2]? = some (.inl (0, 6, .inl (fun _ => 0))) := by rw [hH5]; exact app_l o2
  have fr : ∀ j, j < p → H5[j]? = H[j]? := fun j hj => (show H5[j]? = H4[j]? by rw [hH5, List.getElem?_append_left (by omega)]).trans (fr j hj)
  have o3 : H5[p + 3]? = some (.inl (0, 6, .inl (fun _ => 0))) := by rw [hH5]; exact app_n hn
  have hn : H5.length = p + 4 := by rw [hH5, List.length_append, hn]; rfl
  refine ezs_put (fs' := [.null, .ref (p + 1), .ref (p + 2), .ref (p + 3), .null, .int 0, .int 0, .int 0, .int 0]) i18_25 ci18 fl3_18 o0 (by first | exact ⟨Nat.le_of_ble_eq_true rfl, rfl, Or.inl rfl⟩ | exact ⟨Nat.le_of_ble_eq_true rfl, rfl, Or.inr ⟨by decide +kernel, by decide +kernel⟩⟩) rfl (fun H6 hH6 => ?_)
  have o0 : H6[p]? = some (.inr (3, [.null, .ref (p + 1), .ref (p + 2), .ref (p + 3), .null, .int 0, .int 0, .int 0, .int 0])) := by rw [hH6]; exact set_self o0
  have o1 : H6[p + 1]? = some (.inl (0, 10, .inl (fun _ => 0))) := by rw [hH6]; exact set_ne o1 (by omega)
  have o2 : H6[p + 2]? = some (.inl (0, 6, .inl (fun _ => 0))) := by rw [hH6]; exact set_ne o2 (by omega)
  have o3 : H6[p + 3]? = some (.inl (0, 6, .inl (fun _ => 0))) := by rw [hH6]; exact set_ne o3 (by omega)
  have fr : ∀ j, j < p → H6[j]? = H[j]? := fun j hj => (show H6[j]? = H5[j]? by rw [hH6, List.getElem?_set_ne (by omega)]).trans (fr j hj)
  have hn : H6.length = p + 4 := by rw [hH6, List.length_set]; exact hn
  refine ez_aload_n i18_28 rfl ?_
  refine ez_iconst (v := nI 2) i18_29 (by decide) ?_
  refine ez_nwI i18_30 (by omega) hn (fun H7 hH7 => ?_)
  have o0 : H7[p]? = some (.inr (3, [.null, .ref (p + 1), .ref (p + 2), .ref (p + 3), .null, .int 0, .int 0, .int 0, .int 0])) := by rw [hH7]; exact app_l o0
  have o1 : H7[p + 1]? = some (.inl (0, 10, .inl (fun _ => 0))) := by rw [hH7]; exact app_l o1
  have o2 : H7[p + 2]? = some (.inl (0, 6, .inl (fun _ => 0))) := by rw [hH7]; exact app_l o2
  have o3 : H7[p + 3]? = some (.inl (0, 6, .inl (fun _ => 0))) := by rw [hH7]; exact app_l o3
  have fr : ∀ j, j < p → H7[j]? = H[j]? := fun j hj => (show H7[j]? = H6[j]? by rw [hH7, List.getElem?_append_left (by omega)]).trans (fr j hj)
  have o4 : H7[p + 4]? = some (.inl (0, 2, .inl (fun _ => 0))) := by rw [hH7]; exact app_n hn
  have hn : H7.length = p + 5 := by rw [hH7, List.length_append, hn]; rfl
  refine ezs_put (fs' := [.null, .ref (p + 1), .ref (p + 2), .ref (p + 3), .ref (p + 4), .int 0, .int 0, .int 0, .int 0]) i18_32 ci18 fl3_21 o0 (by first | exact ⟨Nat.le_of_ble_eq_true rfl, rfl, Or.inl rfl⟩ | exact ⟨Nat.le_of_ble_eq_true rfl, rfl, Or.inr ⟨by decide +kernel, by decide +kernel⟩⟩) rfl (fun H8 hH8 => ?_)
  have o0 : H8[p]? = some (.inr (3, [.null, .ref (p + 1), .ref (p + 2), .ref (p + 3), .ref (p + 4), .int 0, .int 0, .int 0, .int 0])) := by rw [hH8]; exact set_self o0
  have o1 : H8[p + 1]? = some (.inl (0, 10, .inl (fun _ => 0))) := by rw [hH8]; exact set_ne o1 (by omega)
  have o2 : H8[p + 2]? = some (.inl (0, 6, .inl (fun _ => 0))) := by rw [hH8]; exact set_ne o2 (by omega)
  have o3 : H8[p + 3]? = some (.inl (0, 6, .inl (fun _ => 0))) := by rw [hH8]; exact set_ne o3 (by omega)
  have o4 : H8[p + 4]? = some (.inl (0, 2, .inl (fun _ => 0))) := by rw [hH8]; exact set_ne o4 (by omega)
  have fr : ∀ j, j < p → H8[j]? = H[j]? := fun j hj => (show H8[j]? = H7[j]? by rw [hH8, List.getElem?_set_ne (by omega)]).trans (fr j hj)
  have hn : H8.length = p + 5 := by rw [hH8, List.length_set]; exact hn
  refine ez_aload_n i18_35 rfl ?_
  refine ez_aload_n i18_36 rfl ?_
  refine ezs_put (fs' := [.ref h, .ref (p + 1), .ref (p + 2), .ref (p + 3), .ref (p + 4), .int 0, .int 0, .int 0, .int 0]) i18_37 ci18 fl3_24 o0 (by first | exact ⟨Nat.le_of_ble_eq_true rfl, rfl, Or.inl rfl⟩ | exact ⟨Nat.le_of_ble_eq_true rfl, rfl, Or.inr ⟨by decide +kernel, by decide +kernel⟩⟩) rfl (fun H9 hH9 => ?_)
  have o0 : H9[p]? = some (.inr (3, [.ref h, .ref (p + 1), .ref (p + 2), .ref (p + 3), .ref (p + 4), .int 0, .int 0, .int 0, .int 0])) := by rw [hH9]; exact set_self o0
  have o1 : H9[p + 1]? = some (.inl (0, 10, .inl (fun _ => 0))) := by rw [hH9]; exact set_ne o1 (by omega)
  have o2 : H9[p + 2]? = some (.inl (0, 6, .inl (fun _ => 0))) := by rw [hH9]; exact set_ne o2 (by omega)
  have o3 : H9[p + 3]? = some (.inl (0, 6, .inl (fun _ => 0))) := by rw [hH9]; exact set_ne o3 (by omega)
  have o4 : H9[p + 4]? = some (.inl (0, 2, .inl (fun _ => 0))) := by rw [hH9]; exact set_ne o4 (by omega)
  have fr : ∀ j, j < p → H9[j]? = H[j]? := fun j hj => (show H9[j]? = H8[j]? by rw [hH9, List.getElem?_set_ne (by omega)]).trans (fr j hj)
  have hn : H9.length = p + 5 := by rw [hH9, List.length_set]; exact hn
  refine ez_vret i18_40 (by decide +kernel) ?_
  exact ⟨rfl, hn, rfl, fr, o0, o1, o2, o3, o4⟩
theorem z48 {tb : dxT} {H : dxH} {z p : Nat} (hn : H.length = p + 1) (o0 : H[p]? = some (.inr (4, [.null, .int 0]))) : Ez tb 48 0 (dxEnt 48 [.ref p]) [] H z (fun r H' z' => r = none ∧ H'.length = p + 2 ∧ z' = z + 64 ∧ (∀ j, j < p → H'[j]? = H[j]?) ∧ H'[p]? = some (.inr (4, [.ref (p + 1), .int 0])) ∧ H'[p + 1]? = some (.inl (0, 64, .inl (fun _ => 0)))) := by
  have fr : ∀ j, j < p → H[j]? = H[j]? := fun _ _ => rfl
  show Ez tb 48 0 [some (.ref p)] [] H z _
  refine ez_aload_n i48_0 rfl ?_
  refine ez_obj i48_1 ci48 lk4_3 (by decide +kernel) rfl ?_
  refine ez_aload_n i48_4 rfl ?_
  refine ez_bipush (v := nI 64) i48_5 (by decide) ?_
  refine ez_nwI i48_7 (by omega) hn (fun H1 hH1 => ?_)
  have o0 : H1[p]? = some (.inr (4, [.null, .int 0])) := by rw [hH1]; exact app_l o0
  have fr : ∀ j, j < p → H1[j]? = H[j]? := fun j hj => (show H1[j]? = H[j]? by rw [hH1, List.getElem?_append_left (by omega)]).trans (fr j hj)
  have o1 : H1[p + 1]? = some (.inl (0, 64, .inl (fun _ => 0))) := by rw [hH1]; exact app_n hn
  have hn : H1.length = p + 2 := by rw [hH1, List.length_append, hn]; rfl
  refine ezs_put (fs' := [.ref (p + 1), .int 0]) i48_9 ci48 fl4_9 o0 (by first | exact ⟨Nat.le_of_ble_eq_true rfl, rfl, Or.inl rfl⟩ | exact ⟨Nat.le_of_ble_eq_true rfl, rfl, Or.inr ⟨by decide +kernel, by decide +kernel⟩⟩) rfl (fun H2 hH2 => ?_)
  have o0 : H2[p]? = some (.inr (4, [.ref (p + 1), .int 0])) := by rw [hH2]; exact set_self o0
  have o1 : H2[p + 1]? = some (.inl (0, 64, .inl (fun _ => 0))) := by rw [hH2]; exact set_ne o1 (by omega)
  have fr : ∀ j, j < p → H2[j]? = H[j]? := fun j hj => (show H2[j]? = H1[j]? by rw [hH2, List.getElem?_set_ne (by omega)]).trans (fr j hj)
  have hn : H2.length = p + 2 := by rw [hH2, List.length_set]; exact hn
  refine ez_vret i48_12 (by decide +kernel) ?_
  exact ⟨rfl, hn, rfl, fr, o0, o1⟩
theorem z61 {tb : dxT} {H : dxH} {z p : Nat} (hn : H.length = p + 1) (o0 : H[p]? = some (.inr (6, [.null, .null, .null, .int 0]))) : Ez tb 61 0 (dxEnt 61 [.ref p]) [] H z (fun r H' z' => r = none ∧ H'.length = p + 4 ∧ z' = z + 18 ∧ (∀ j, j < p → H'[j]? = H[j]?) ∧ H'[p]? = some (.inr (6, [.ref (p + 1), .ref (p + 2), .ref (p + 3), .int 0])) ∧ H'[p + 1]? = some (.inl (0, 6, .inl (fun _ => 0))) ∧ H'[p + 2]? = some (.inl (0, 6, .inl (fun _ => 0))) ∧ H'[p + 3]? = some (.inl (1, 6, .inl (fun _ => 0)))) := by
  have fr : ∀ j, j < p → H[j]? = H[j]? := fun _ _ => rfl
  show Ez tb 61 0 [some (.ref p)] [] H z _
  refine ez_aload_n i61_0 rfl ?_
  refine ez_obj i61_1 ci61 lk6_3 (by decide +kernel) rfl ?_
  refine ez_aload_n i61_4 rfl ?_
  refine ez_bipush (v := nI 6) i61_5 (by decide) ?_
  refine ez_nwI i61_7 (by omega) hn (fun H1 hH1 => ?_)
  have o0 : H1[p]? = some (.inr (6, [.null, .null, .null, .int 0])) := by rw [hH1]; exact app_l o0
  have fr : ∀ j, j < p → H1[j]? = H[j]? := fun j hj => (show H1[j]? = H[j]? by rw [hH1, List.getElem?_append_left (by omega)]).trans (fr j hj)
  have o1 : H1[p + 1]? = some (.inl (0, 6, .inl (fun _ => 0))) := by rw [hH1]; exact app_n hn
  have hn : H1.length = p + 2 := by rw [hH1, List.length_append, hn]; rfl
  refine ezs_put (fs' := [.ref (p + 1), .null, .null, .int 0]) i61_9 ci61 fl6_9 o0 (by first | exact ⟨Nat.le_of_ble_eq_true rfl, rfl, Or.inl rfl⟩ | exact ⟨Nat.le_of_ble_eq_true rfl, rfl, Or.inr ⟨by decide +kernel, by decide +kernel⟩⟩) rfl (fun H2 hH2 => ?_)
  have o0 : H2[p]? = some (.inr (6, [.ref (p + 1), .null, .null, .int 0])) := by rw [hH2]; exact set_self o0
  have o1 : H2[p + 1]? = some (.inl (0, 6, .inl (fun _ => 0))) := by rw [hH2]; exact set_ne o1 (by omega)
  have fr : ∀ j, j < p → H2[j]? = H[j]? := fun j hj => (show H2[j]? = H1[j]? by rw [hH2, List.getElem?_set_ne (by omega)]).trans (fr j hj)
  have hn : H2.length = p + 2 := by rw [hH2, List.length_set]; exact hn
  refine ez_aload_n i61_12 rfl ?_
  refine ez_bipush (v := nI 6) i61_13 (by decide) ?_
  refine ez_nwI i61_15 (by omega) hn (fun H3 hH3 => ?_)
  have o0 : H3[p]? = some (.inr (6, [.ref (p + 1), .null, .null, .int 0])) := by rw [hH3]; exact app_l o0
  have o1 : H3[p + 1]? = some (.inl (0, 6, .inl (fun _ => 0))) := by rw [hH3]; exact app_l o1
  have fr : ∀ j, j < p → H3[j]? = H[j]? := fun j hj => (show H3[j]? = H2[j]? by rw [hH3, List.getElem?_append_left (by omega)]).trans (fr j hj)
  have o2 : H3[p + 2]? = some (.inl (0, 6, .inl (fun _ => 0))) := by rw [hH3]; exact app_n hn
  have hn : H3.length = p + 3 := by rw [hH3, List.length_append, hn]; rfl
  refine ezs_put (fs' := [.ref (p + 1), .ref (p + 2), .null, .int 0]) i61_17 ci61 fl6_15 o0 (by first | exact ⟨Nat.le_of_ble_eq_true rfl, rfl, Or.inl rfl⟩ | exact ⟨Nat.le_of_ble_eq_true rfl, rfl, Or.inr ⟨by decide +kernel, by decide +kernel⟩⟩) rfl (fun H4 hH4 => ?_)
  have o0 : H4[p]? = some (.inr (6, [.ref (p + 1), .ref (p + 2), .null, .int 0])) := by rw [hH4]; exact set_self o0
  have o1 : H4[p + 1]? = some (.inl (0, 6, .inl (fun _ => 0))) := by rw [hH4]; exact set_ne o1 (by omega)
  have o2 : H4[p + 2]? = some (.inl (0, 6, .inl (fun _ => 0))) := by rw [hH4]; exact set_ne o2 (by omega)
  have fr : ∀ j, j < p → H4[j]? = H[j]? := fun j hj => (show H4[j]? = H3[j]? by rw [hH4, List.getElem?_set_ne (by omega)]).trans (fr j hj)
  have hn : H4.length = p + 3 := by rw [hH4, List.length_set]; exact hn
  refine ez_aload_n i61_20 rfl ?_
  refine ez_bipush (v := nI 6) i61_21 (by decide) ?_
  refine ez_nwZ i61_23 (by omega) hn (fun H5 hH5 => ?_)
  have o0 : H5[p]? = some (.inr (6, [.ref (p + 1), .ref (p + 2), .null, .int 0])) := by rw [hH5]; exact app_l o0
  have o1 : H5[p + 1]? = some (.inl (0, 6, .inl (fun _ => 0))) := by rw [hH5]; exact app_l o1
  have o2 : H5[p + 2]? = some (.inl (0, 6, .inl (fun _ => 0))) := by rw [hH5]; exact app_l o2
  have fr : ∀ j, j < p → H5[j]? = H[j]? := fun j hj => (show H5[j]? = H4[j]? by rw [hH5, List.getElem?_append_left (by omega)]).trans (fr j hj)
  have o3 : H5[p + 3]? = some (.inl (1, 6, .inl (fun _ => 0))) := by rw [hH5]; exact app_n hn
  have hn : H5.length = p + 4 := by rw [hH5, List.length_append, hn]; rfl
  refine ezs_put (fs' := [.ref (p + 1), .ref (p + 2), .ref (p + 3), .int 0]) i61_25 ci61 fl6_18 o0 (by first | exact ⟨Nat.le_of_ble_eq_true rfl, rfl, Or.inl rfl⟩ | exact ⟨Nat.le_of_ble_eq_true rfl, rfl, Or.inr ⟨by decide +kernel, by decide +kernel⟩⟩) rfl (fun H6 hH6 => ?_)
  have o0 : H6[p]? = some (.inr (6, [.ref (p + 1), .ref (p + 2), .ref (p + 3), .int 0])) := by rw [hH6]; exact set_self o0
  have o1 : H6[p + 1]? = some (.inl (0, 6, .inl (fun _ => 0))) := by rw [hH6]; exact set_ne o1 (by omega)
  have o2 : H6[p + 2]? = some (.inl (0, 6, .inl (fun _ => 0))) := by rw [hH6]; exact set_ne o2 (by omega)
  have o3 : H6[p + 3]? = some (.inl (1, 6, .inl (fun _ => 0))) := by rw [hH6]; exact set_ne o3 (by omega)
  have fr : ∀ j, j < p → H6[j]? = H[j]? := fun j hj => (show H6[j]? = H5[j]? by rw [hH6, List.getElem?_set_ne (by omega)]).trans (fr j hj)
  have hn : H6.length = p + 4 := by rw [hH6, List.length_set]; exact hn
  refine ez_vret i61_28 (by decide +kernel) ?_
  exact ⟨rfl, hn, rfl, fr, o0, o1, o2, o3⟩
theorem MdZ.rg {H H' : dxH} {a h : Nat} (hM : MdZ H a h) (hf : ∀ j, a ≤ j → j ≤ a + 4 → H'[j]? = H[j]?) : MdZ H' a h := by
  obtain ⟨h1, h2, h3, h4, h5⟩ := hM
  exact ⟨(hf _ (by omega) (by omega)).trans h1, (hf _ (by omega) (by omega)).trans h2, (hf _ (by omega) (by omega)).trans h3, (hf _ (by omega) (by omega)).trans h4, (hf _ (by omega) (by omega)).trans h5⟩
/-- a fresh shelf of m meadows -/
def ShZ (H : dxH) (p m h : Nat) : Prop := H[p]? = some (.inr (5, [.ref (p + 1)])) ∧ (∃ f : Nat → Option Nat, H[p + 1]? = some (.inl (2, m, .inr (.inr (.inr (.inr f))))) ∧ ∀ j, j < m → f j = some (p + 2 + 5 * j)) ∧ ∀ j, j < m → MdZ H (p + 2 + 5 * j) h
theorem ShZ.rg {H H' : dxH} {p m h : Nat} (hS : ShZ H p m h) (hf : ∀ j, p ≤ j → j < p + 2 + 5 * m → H'[j]? = H[j]?) : ShZ H' p m h := by
  obtain ⟨h1, ⟨f, h2, h3⟩, h4⟩ := hS
  by_cases h0 : m = 0
  · subst h0
    exact ⟨(hf _ (by omega) (by omega)).trans h1, ⟨f, (hf _ (by omega) (by omega)).trans h2, h3⟩, fun j hj => absurd hj (Nat.not_lt_zero _)⟩
  · exact ⟨(hf _ (by omega) (by omega)).trans h1, ⟨f, (hf _ (by omega) (by omega)).trans h2, h3⟩, fun j hj => (h4 j hj).rg (fun i a b => hf _ (by omega) (by omega))⟩
theorem z57l {tb : dxT} {p m h : Nat} (hm : m ≤ 100) : ∀ (d i : Nat) (H : dxH) (z : Nat) (f : Nat → Option Nat), i + d = m → H.length = p + 2 + 5 * i → H[p]? = some (.inr (5, [.ref (p + 1)])) → H[p + 1]? = some (.inl (2, m, .inr (.inr (.inr (.inr f))))) → (∀ j, j < i → f j = some (p + 2 + 5 * j)) → (∀ j, j < i → MdZ H (p + 2 + 5 * j) h) → Ez tb 57 18 [some (.ref p), some (.int (nI m)), some (.ref h), some (.int (nI i))] [] H z (fun r H' z' => r = none ∧ H'.length = p + 2 + 5 * m ∧ z' = z + 33 * d ∧ (∀ j, j < p → H'[j]? = H[j]?) ∧ ShZ H' p m h)
  | 0, i, H, z, f, hi, hn, o0, o1, hf, hM => by
    obtain rfl : i = m := by omega
    refine ez_iload_n i57_18 rfl ?_
    refine ez_aload_n i57_19 rfl ?_
    refine ez_get i57_20 ci57 fl5_15 o0 rfl ?_
    refine ez_alen i57_23 o1 (by decide) ?_
    refine ez_icmp_ge (t := 47) i57_24 (by decide) (fun q => ?_) (fun q => by exfalso; exact q (Int32.le_refl _))
    refine ez_vret i57_47 (by decide +kernel) ?_
    exact ⟨rfl, hn, rfl, fun j hj => rfl, o0, ⟨f, o1, hf⟩, hM⟩
  | d + 1, i, H, z, f, hi, hn, o0, o1, hf, hM => by
    refine ez_iload_n i57_18 rfl ?_
    refine ez_aload_n i57_19 rfl ?_
    refine ez_get i57_20 ci57 fl5_15 o0 rfl ?_
    refine ez_alen i57_23 o1 (by decide) ?_
    refine ez_icmp_ge (t := 47) i57_24 (by decide) (fun q => by exfalso; have := (nI_leI (by omega) (by omega)).mp q; omega) (fun q => ?_)
    refine ez_aload_n i57_27 rfl ?_
    refine ez_get i57_28 ci57 fl5_15 o0 rfl ?_
    refine ez_iload_n i57_31 rfl ?_
    refine ezs_new (c := 3) (w := 135) (fs := [.null, .null, .null, .null, .null, .int 0, .int 0, .int 0, .int 0]) (m := 9) i57_32 ci57 (by decide +kernel) (by decide) (by first | rfl | decide +kernel) (by decide +kernel) hn (fun H1 hH1 => ?_)
    have oN : H1[p + 2 + 5 * i]? = some (.inr (3, [.null, .null, .null, .null, .null, .int 0, .int 0, .int 0, .int 0])) := by rw [hH1]; exact app_n hn
    have f1 : ∀ j, j < p + 2 + 5 * i → H1[j]? = H[j]? := fun j hj => by rw [hH1, List.getElem?_append_left (by omega)]
    have hn1 : H1.length = p + 2 + 5 * i + 1 := by rw [hH1, List.length_append, hn]; rfl
    refine ez_dup i57_35 rfl ?_
    refine ez_aload_n i57_36 rfl ?_
    refine ez_call (y := 18) (na := 2) i57_37 rfl (by decide +kernel) ⟨Nat.le_of_ble_eq_true rfl, Nat.le_of_ble_eq_true rfl, rfl, rfl, by decide +kernel⟩ (z18 (p := p + 2 + 5 * i) (h := h) hn1 oN) (fun r H2 zz hq => ?_)
    obtain ⟨rfl, hn2, rfl, f2, hMd⟩ := hq
    have o1b : H2[p + 1]? = some (.inl (2, m, .inr (.inr (.inr (.inr f))))) := (f2 _ (by omega)).trans ((f1 _ (by omega)).trans o1)
    have o0b : H2[p]? = some (.inr (5, [.ref (p + 1)])) := (f2 _ (by omega)).trans ((f1 _ (by omega)).trans o0)
    refine ez_ast i57_40 o1b hMd.1 (by omega) (fun H3 hH3 => ?_)
    refine ez_iinc (d := 1) (v := nI (i + 1)) (L' := [some (.ref p), some (.int (nI m)), some (.ref h), some (.int (nI (i + 1)))]) i57_41 rfl rfl (by rw [show Int32.ofInt 1 = nI 1 from rfl, nI_add]) rfl ?_
    refine ez_goto (t := 18) i57_44 (by decide) ?_
    have f3 : ∀ j, j ≠ p + 1 → H3[j]? = H2[j]? := fun j hj => by rw [hH3, List.getElem?_set_ne (fun q => hj q.symm)]
    refine (z57l hm d (i + 1) H3 _ (va_up f i (some (p + 2 + 5 * i))) (by omega) (by rw [hH3, List.length_set, hn2]; omega) ((f3 _ (by omega)).trans o0b) (by rw [hH3]; exact set_self o1b) (fun j hj => ?_) (fun j hj => ?_)).post (fun r H' z' hq => ?_)
    · by_cases e : j = i
      · subst e; exact va_up_self _ _ _
      · rw [va_up_ne _ _ e]; exact hf j (by omega)
    · by_cases e : j = i
      · subst e; exact hMd.rg (fun k a b => f3 _ (by omega))
      · exact (hM j (by omega)).rg (fun k a b => (f3 _ (by omega)).trans ((f2 _ (by omega)).trans (f1 _ (by omega))))
    · obtain ⟨e1, e2, e3, e4, e5⟩ := hq
      exact ⟨e1, e2, by omega, fun j hj => (e4 j hj).trans ((f3 _ (by omega)).trans ((f2 _ (by omega)).trans (f1 _ (by omega)))), e5⟩
theorem z57 {tb : dxT} {H : dxH} {z p : Nat} {m h : Nat} (hm : m ≤ 100) (hn : H.length = p + 1) (o0 : H[p]? = some (.inr (5, [.null]))) : Ez tb 57 0 (dxEnt 57 [.ref p, .int (nI m), .ref h]) [] H z (fun r H' z' => r = none ∧ H'.length = p + 2 + 5 * m ∧ z' = z + (m + 33 * m) ∧ (∀ j, j < p → H'[j]? = H[j]?) ∧ ShZ H' p m h) := by
  have fr : ∀ j, j < p → H[j]? = H[j]? := fun _ _ => rfl
  show Ez tb 57 0 [some (.ref p), some (.int (nI m)), some (.ref h), none] [] H z _
  refine ez_aload_n i57_0 rfl ?_
  refine ez_obj i57_1 ci57 lk5_1 (by decide +kernel) rfl ?_
  refine ez_aload_n i57_4 rfl ?_
  refine ez_iload_n i57_5 rfl ?_
  refine ez_iconst (v := nI 0) i57_6 (by decide) ?_
  refine ez_max i57_7 ci57 lk5_7 (by decide +kernel) rfl ?_
  rw [if_neg (show ¬ nI m < nI 0 from nI_pos (by omega))]
  refine ez_nwQ (w := 135) i57_10 ci57 (by decide +kernel) (by omega) hn (fun H1 hH1 => ?_)
  have o0 : H1[p]? = some (.inr (5, [.null])) := by rw [hH1]; exact app_l o0
  have fr : ∀ j, j < p → H1[j]? = H[j]? := fun j hj => (show H1[j]? = H[j]? by rw [hH1, List.getElem?_append_left (by omega)]).trans (fr j hj)
  have o1 : H1[p + 1]? = some (.inl (2, m, .inr (.inr (.inr (.inr (fun _ => none)))))) := by rw [hH1]; exact app_n hn
  have hn : H1.length = p + 2 := by rw [hH1, List.length_append, hn]; rfl
  refine ezs_put (fs' := [.ref (p + 1)]) i57_13 ci57 fl5_15 o0 (by first | exact ⟨Nat.le_of_ble_eq_true rfl, rfl, Or.inl rfl⟩ | exact ⟨Nat.le_of_ble_eq_true rfl, rfl, Or.inr ⟨by decide +kernel, by decide +kernel⟩⟩) rfl (fun H2 hH2 => ?_)
  have o0 : H2[p]? = some (.inr (5, [.ref (p + 1)])) := by rw [hH2]; exact set_self o0
  have o1 : H2[p + 1]? = some (.inl (2, m, .inr (.inr (.inr (.inr (fun _ => none)))))) := by rw [hH2]; exact set_ne o1 (by omega)
  have fr : ∀ j, j < p → H2[j]? = H[j]? := fun j hj => (show H2[j]? = H1[j]? by rw [hH2, List.getElem?_set_ne (by omega)]).trans (fr j hj)
  have hn : H2.length = p + 2 := by rw [hH2, List.length_set]; exact hn
  refine ez_iconst (v := nI 0) i57_16 (by decide) ?_
  refine ez_istore_n (L' := [some (.ref p), some (.int (nI m)), some (.ref h), some (.int (nI 0))]) i57_17 ⟨Nat.le_of_ble_eq_true rfl, rfl⟩ rfl ?_
  refine (z57l hm m 0 _ _ _ (by omega) (by rw [hn]) o0 o1 (fun j hj => absurd hj (Nat.not_lt_zero _)) (fun j hj => absurd hj (Nat.not_lt_zero _))).post (fun r H' z' hq => ?_)
  obtain ⟨e1, e2, e3, e4, e5⟩ := hq
  exact ⟨e1, e2, by omega, fun j hj => (e4 j hj).trans (fr j hj), e5⟩
theorem z0 {tb : dxT} {H : dxH} {z p : Nat} {h : Nat} (hn : H.length = p + 1) (o0 : H[p]? = some (.inr (0, [.null, .int 0, .int 0]))) : Ez tb 0 0 (dxEnt 0 [.ref p, .ref h]) [] H z (fun r H' z' => r = none ∧ H'.length = p + 73 ∧ z' = z + 477 ∧ (∀ j, j < p → H'[j]? = H[j]?) ∧ H'[p]? = some (.inr (0, [.ref (p + 1), .int 0, .int 0])) ∧ ShZ H' (p + 1) 14 h) := by
  have fr : ∀ j, j < p → H[j]? = H[j]? := fun _ _ => rfl
  show Ez tb 0 0 [some (.ref p), some (.ref h)] [] H z _
  refine ez_aload_n i0_0 rfl ?_
  refine ez_obj i0_1 ci0 lk0_3 (by decide +kernel) rfl ?_
  refine ez_aload_n i0_4 rfl ?_
  refine ezs_new (c := 5) (w := 126) (fs := [.null]) (m := 1) i0_5 ci0 (by decide +kernel) (by decide) (by first | rfl | decide +kernel) (by decide +kernel) hn (fun H1 hH1 => ?_)
  have o0 : H1[p]? = some (.inr (0, [.null, .int 0, .int 0])) := by rw [hH1]; exact app_l o0
  have fr : ∀ j, j < p → H1[j]? = H[j]? := fun j hj => (show H1[j]? = H[j]? by rw [hH1, List.getElem?_append_left (by omega)]).trans (fr j hj)
  have o1 : H1[p + 1]? = some (.inr (5, [.null])) := by rw [hH1]; exact app_n hn
  have hn : H1.length = p + 2 := by rw [hH1, List.length_append, hn]; rfl
  refine ez_dup i0_8 rfl ?_
  refine ez_bipush (v := nI 14) i0_9 (by decide) ?_
  refine ez_aload_n i0_11 rfl ?_
  refine ez_call (y := 57) (na := 3) i0_12 rfl (by decide +kernel) ⟨Nat.le_of_ble_eq_true rfl, Nat.le_of_ble_eq_true rfl, rfl, rfl, by decide +kernel⟩ (z57 (p := p + 1) (m := 14) (h := h) (by decide) hn o1) (fun r H2 zz hq => ?_)
  obtain ⟨rfl, hn, rfl, fq, sh1⟩ := hq
  have o0 : H2[p]? = some (.inr (0, [.null, .int 0, .int 0])) := (fq _ (by omega)).trans o0
  have fr : ∀ j, j < p → H2[j]? = H[j]? := fun j hj => (fq j (by omega)).trans (fr j hj)
  have hn : H2.length = p + 73 := hn
  show Ez tb 0 15 [some (.ref p), some (.ref h)] [.ref (p + 1), .ref p] H2 _ _
  refine ezs_put (fs' := [.ref (p + 1), .int 0, .int 0]) i0_15 ci0 fl0_14 o0 (by first | exact ⟨Nat.le_of_ble_eq_true rfl, rfl, Or.inl rfl⟩ | exact ⟨Nat.le_of_ble_eq_true rfl, rfl, Or.inr ⟨by decide +kernel, by decide +kernel⟩⟩) rfl (fun H3 hH3 => ?_)
  have o0 : H3[p]? = some (.inr (0, [.ref (p + 1), .int 0, .int 0])) := by rw [hH3]; exact set_self o0
  have sh1 : ShZ H3 (p + 1) 14 h := sh1.rg (fun j h1 h2 => by rw [hH3, List.getElem?_set_ne (by omega)])
  have fr : ∀ j, j < p → H3[j]? = H[j]? := fun j hj => (show H3[j]? = H2[j]? by rw [hH3, List.getElem?_set_ne (by omega)]).trans (fr j hj)
  have hn : H3.length = p + 73 := by rw [hH3, List.length_set]; exact hn
  refine ez_vret i0_18 (by decide +kernel) ?_
  exact ⟨rfl, hn, rfl, fr, o0, sh1⟩
theorem z66 {tb : dxT} {H : dxH} {z : Nat} (hn : H.length = 1) (o0 : H[0]? = some (.inr (7, [.null, .null, .null, .null, .null, .null, .null, .null, .null, .null, .null, .long 0]))) : Ez tb 66 0 (dxEnt 66 [.ref 0]) [] H z (fun r H' z' => r = none ∧ H'.length = 111 ∧ z' ≤ z + 100000 ∧ (∀ j, j < 0 → H'[j]? = H[j]?) ∧ H'[0]? = some (.inr (7, [.ref 1, .ref 3, .ref 6, .ref 11, .ref 16, .ref 89, .ref 101, .ref 102, .ref 106, .ref 108, .ref 110, .long 0])) ∧ H'[1]? = some (.inr (4, [.ref 2, .int 0])) ∧ H'[2]? = some (.inl (0, 64, .inl (fun _ => 0))) ∧ H'[3]? = some (.inr (2, [.ref 4, .ref 5, .int 0])) ∧ H'[4]? = some (.inl (0, 6, .inl (fun _ => 0))) ∧ H'[5]? = some (.inl (0, 6, .inl (fun _ => 0))) ∧ H'[16]? = some (.inr (0, [.ref 17, .int 0, .int 0])) ∧ H'[101]? = some (.inl (1, 2, .inl (fun _ => 0))) ∧ H'[102]? = some (.inr (6, [.ref 103, .ref 104, .ref 105, .int 0])) ∧ H'[103]? = some (.inl (0, 6, .inl (fun _ => 0))) ∧ H'[104]? = some (.inl (0, 6, .inl (fun _ => 0))) ∧ H'[105]? = some (.inl (1, 6, .inl (fun _ => 0))) ∧ H'[106]? = some (.inr (1, [.ref 107, .int 0])) ∧ H'[107]? = some (.inl (0, 26, .inl (fun _ => 0))) ∧ H'[108]? = some (.inr (1, [.ref 109, .int 0])) ∧ H'[109]? = some (.inl (0, 26, .inl (fun _ => 0))) ∧ H'[110]? = some (.inl (0, 176, .inl (fun _ => 0))) ∧ MdZ H' 6 3 ∧ MdZ H' 11 3 ∧ ShZ H' 17 14 3 ∧ ShZ H' 89 2 3) := by
  have fr : ∀ j, j < 0 → H[j]? = H[j]? := fun _ _ => rfl
  show Ez tb 66 0 [some (.ref 0)] [] H z _
  refine ez_aload_n i66_0 rfl ?_
  refine ez_obj i66_1 ci66 lk7_1 (by decide +kernel) rfl ?_
  refine ez_aload_n i66_4 rfl ?_
  refine ezs_new (c := 4) (w := 58) (fs := [.null, .int 0]) (m := 2) i66_5 ci66 (by decide +kernel) (by decide) (by first | rfl | decide +kernel) (by decide +kernel) hn (fun H1 hH1 => ?_)
  have o0 : H1[0]? = some (.inr (7, [.null, .null, .null, .null, .null, .null, .null, .null, .null, .null, .null, .long 0])) := by rw [hH1]; exact app_l o0
  have fr : ∀ j, j < 0 → H1[j]? = H[j]? := fun j hj => (show H1[j]? = H[j]? by rw [hH1, List.getElem?_append_left (by omega)]).trans (fr j hj)
  have o1 : H1[1]? = some (.inr (4, [.null, .int 0])) := by rw [hH1]; exact app_n hn
  have hn : H1.length = 2 := by rw [hH1, List.length_append, hn]; rfl
  refine ez_dup i66_8 rfl ?_
  refine ez_call (y := 48) (na := 1) i66_9 rfl (by decide +kernel) ⟨Nat.le_of_ble_eq_true rfl, Nat.le_of_ble_eq_true rfl, rfl, rfl, by decide +kernel⟩ (z48 (p := 1) hn o1) (fun r H2 zz hq => ?_)
  obtain ⟨rfl, hn, rfl, fq, o1, o2⟩ := hq
  have o0 : H2[0]? = some (.inr (7, [.null, .null, .null, .null, .null, .null, .null, .null, .null, .null, .null, .long 0])) := (fq _ (by omega)).trans o0
  have fr : ∀ j, j < 0 → H2[j]? = H[j]? := fun j hj => (fq j (by omega)).trans (fr j hj)
  have hn : H2.length = 3 := hn
  have o1 : H2[1]? = some (.inr (4, [.ref 2, .int 0])) := o1
  have o2 : H2[2]? = some (.inl (0, 64, .inl (fun _ => 0))) := o2
  show Ez tb 66 12 [some (.ref 0)] [.ref 1, .ref 0] H2 _ _
  refine ezs_put (fs' := [.ref 1, .null, .null, .null, .null, .null, .null, .null, .null, .null, .null, .long 0]) i66_12 ci66 fl7_10 o0 (by first | exact ⟨Nat.le_of_ble_eq_true rfl, rfl, Or.inl rfl⟩ | exact ⟨Nat.le_of_ble_eq_true rfl, rfl, Or.inr ⟨by decide +kernel, by decide +kernel⟩⟩) rfl (fun H3 hH3 => ?_)
  have o0 : H3[0]? = some (.inr (7, [.ref 1, .null, .null, .null, .null, .null, .null, .null, .null, .null, .null, .long 0])) := by rw [hH3]; exact set_self o0
  have o1 : H3[1]? = some (.inr (4, [.ref 2, .int 0])) := by rw [hH3]; exact set_ne o1 (by omega)
  have o2 : H3[2]? = some (.inl (0, 64, .inl (fun _ => 0))) := by rw [hH3]; exact set_ne o2 (by omega)
  have fr : ∀ j, j < 0 → H3[j]? = H[j]? := fun j hj => (show H3[j]? = H2[j]? by rw [hH3, List.getElem?_set_ne (by omega)]).trans (fr j hj)
  have hn : H3.length = 3 := by rw [hH3, List.length_set]; exact hn
  refine ez_aload_n i66_15 rfl ?_
  refine ezs_new (c := 2) (w := 71) (fs := [.null, .null, .int 0]) (m := 3) i66_16 ci66 (by decide +kernel) (by decide) (by first | rfl | decide +kernel) (by decide +kernel) hn (fun H4 hH4 => ?_)
  have o0 : H4[0]? = some (.inr (7, [.ref 1, .null, .null, .null, .null, .null, .null, .null, .null, .null, .null, .long 0])) := by rw [hH4]; exact app_l o0
  have o1 : H4[1]? = some (.inr (4, [.ref 2, .int 0])) := by rw [hH4]; exact app_l o1
  have o2 : H4[2]? = some (.inl (0, 64, .inl (fun _ => 0))) := by rw [hH4]; exact app_l o2
  have fr : ∀ j, j < 0 → H4[j]? = H[j]? := fun j hj => (show H4[j]? = H3[j]? by rw [hH4, List.getElem?_append_left (by omega)]).trans (fr j hj)
  have o3 : H4[3]? = some (.inr (2, [.null, .null, .int 0])) := by rw [hH4]; exact app_n hn
  have hn : H4.length = 4 := by rw [hH4, List.length_append, hn]; rfl
  refine ez_dup i66_19 rfl ?_
  refine ez_call (y := 11) (na := 1) i66_20 rfl (by decide +kernel) ⟨Nat.le_of_ble_eq_true rfl, Nat.le_of_ble_eq_true rfl, rfl, rfl, by decide +kernel⟩ (z11 (p := 3) hn o3) (fun r H5 zz hq => ?_)
  obtain ⟨rfl, hn, rfl, fq, o3, o4, o5⟩ := hq
  have o0 : H5[0]? = some (.inr (7, [.ref 1, .null, .null, .null, .null, .null, .null, .null, .null, .null, .null, .long 0])) := (fq _ (by omega)).trans o0
  have o1 : H5[1]? = some (.inr (4, [.ref 2, .int 0])) := (fq _ (by omega)).trans o1
  have o2 : H5[2]? = some (.inl (0, 64, .inl (fun _ => 0))) := (fq _ (by omega)).trans o2
  have fr : ∀ j, j < 0 → H5[j]? = H[j]? := fun j hj => (fq j (by omega)).trans (fr j hj)
  have hn : H5.length = 6 := hn
  have o3 : H5[3]? = some (.inr (2, [.ref 4, .ref 5, .int 0])) := o3
  have o4 : H5[4]? = some (.inl (0, 6, .inl (fun _ => 0))) := o4
  have o5 : H5[5]? = some (.inl (0, 6, .inl (fun _ => 0))) := o5
  show Ez tb 66 23 [some (.ref 0)] [.ref 3, .ref 0] H5 _ _
  refine ezs_put (fs' := [.ref 1, .ref 3, .null, .null, .null, .null, .null, .null, .null, .null, .null, .long 0]) i66_23 ci66 fl7_19 o0 (by first | exact ⟨Nat.le_of_ble_eq_true rfl, rfl, Or.inl rfl⟩ | exact ⟨Nat.le_of_ble_eq_true rfl, rfl, Or.inr ⟨by decide +kernel, by decide +kernel⟩⟩) rfl (fun H6 hH6 => ?_)
  have o0 : H6[0]? = some (.inr (7, [.ref 1, .ref 3, .null, .null, .null, .null, .null, .null, .null, .null, .null, .long 0])) := by rw [hH6]; exact set_self o0
  have o1 : H6[1]? = some (.inr (4, [.ref 2, .int 0])) := by rw [hH6]; exact set_ne o1 (by omega)
  have o2 : H6[2]? = some (.inl (0, 64, .inl (fun _ => 0))) := by rw [hH6]; exact set_ne o2 (by omega)
  have o3 : H6[3]? = some (.inr (2, [.ref 4, .ref 5, .int 0])) := by rw [hH6]; exact set_ne o3 (by omega)
  have o4 : H6[4]? = some (.inl (0, 6, .inl (fun _ => 0))) := by rw [hH6]; exact set_ne o4 (by omega)
  have o5 : H6[5]? = some (.inl (0, 6, .inl (fun _ => 0))) := by rw [hH6]; exact set_ne o5 (by omega)
  have fr : ∀ j, j < 0 → H6[j]? = H[j]? := fun j hj => (show H6[j]? = H5[j]? by rw [hH6, List.getElem?_set_ne (by omega)]).trans (fr j hj)
  have hn : H6.length = 6 := by rw [hH6, List.length_set]; exact hn
  refine ez_aload_n i66_26 rfl ?_
  refine ezs_new (c := 3) (w := 86) (fs := [.null, .null, .null, .null, .null, .int 0, .int 0, .int 0, .int 0]) (m := 9) i66_27 ci66 (by decide +kernel) (by decide) (by first | rfl | decide +kernel) (by decide +kernel) hn (fun H7 hH7 => ?_)
  have o0 : H7[0]? = some (.inr (7, [.ref 1, .ref 3, .null, .null, .null, .null, .null, .null, .null, .null, .null, .long 0])) := by rw [hH7]; exact app_l o0
  have o1 : H7[1]? = some (.inr (4, [.ref 2, .int 0])) := by rw [hH7]; exact app_l o1
  have o2 : H7[2]? = some (.inl (0, 64, .inl (fun _ => 0))) := by rw [hH7]; exact app_l o2
  have o3 : H7[3]? = some (.inr (2, [.ref 4, .ref 5, .int 0])) := by rw [hH7]; exact app_l o3
  have o4 : H7[4]? = some (.inl (0, 6, .inl (fun _ => 0))) := by rw [hH7]; exact app_l o4
  have o5 : H7[5]? = some (.inl (0, 6, .inl (fun _ => 0))) := by rw [hH7]; exact app_l o5
  have fr : ∀ j, j < 0 → H7[j]? = H[j]? := fun j hj => (show H7[j]? = H6[j]? by rw [hH7, List.getElem?_append_left (by omega)]).trans (fr j hj)
  have o6 : H7[6]? = some (.inr (3, [.null, .null, .null, .null, .null, .int 0, .int 0, .int 0, .int 0])) := by rw [hH7]; exact app_n hn
  have hn : H7.length = 7 := by rw [hH7, List.length_append, hn]; rfl
  refine ez_dup i66_30 rfl ?_
  refine ez_aload_n i66_31 rfl ?_
  refine ez_get i66_32 ci66 fl7_19 o0 rfl ?_
  refine ez_call (y := 18) (na := 2) i66_35 rfl (by decide +kernel) ⟨Nat.le_of_ble_eq_true rfl, Nat.le_of_ble_eq_true rfl, rfl, rfl, by decide +kernel⟩ (z18 (p := 6) (h := 3) hn o6) (fun r H8 zz hq => ?_)
  obtain ⟨rfl, hn, rfl, fq, md6⟩ := hq
  have o0 : H8[0]? = some (.inr (7, [.ref 1, .ref 3, .null, .null, .null, .null, .null, .null, .null, .null, .null, .long 0])) := (fq _ (by omega)).trans o0
  have o1 : H8[1]? = some (.inr (4, [.ref 2, .int 0])) := (fq _ (by omega)).trans o1
  have o2 : H8[2]? = some (.inl (0, 64, .inl (fun _ => 0))) := (fq _ (by omega)).trans o2
  have o3 : H8[3]? = some (.inr (2, [.ref 4, .ref 5, .int 0])) := (fq _ (by omega)).trans o3
  have o4 : H8[4]? = some (.inl (0, 6, .inl (fun _ => 0))) := (fq _ (by omega)).trans o4
  have o5 : H8[5]? = some (.inl (0, 6, .inl (fun _ => 0))) := (fq _ (by omega)).trans o5
  have fr : ∀ j, j < 0 → H8[j]? = H[j]? := fun j hj => (fq j (by omega)).trans (fr j hj)
  have hn : H8.length = 11 := hn
  show Ez tb 66 38 [some (.ref 0)] [.ref 6, .ref 0] H8 _ _
  refine ezs_put (fs' := [.ref 1, .ref 3, .ref 6, .null, .null, .null, .null, .null, .null, .null, .null, .long 0]) i66_38 ci66 fl7_28 o0 (by first | exact ⟨Nat.le_of_ble_eq_true rfl, rfl, Or.inl rfl⟩ | exact ⟨Nat.le_of_ble_eq_true rfl, rfl, Or.inr ⟨by decide +kernel, by decide +kernel⟩⟩) rfl (fun H9 hH9 => ?_)
  have o0 : H9[0]? = some (.inr (7, [.ref 1, .ref 3, .ref 6, .null, .null, .null, .null, .null, .null, .null, .null, .long 0])) := by rw [hH9]; exact set_self o0
  have o1 : H9[1]? = some (.inr (4, [.ref 2, .int 0])) := by rw [hH9]; exact set_ne o1 (by omega)
  have o2 : H9[2]? = some (.inl (0, 64, .inl (fun _ => 0))) := by rw [hH9]; exact set_ne o2 (by omega)
  have o3 : H9[3]? = some (.inr (2, [.ref 4, .ref 5, .int 0])) := by rw [hH9]; exact set_ne o3 (by omega)
  have o4 : H9[4]? = some (.inl (0, 6, .inl (fun _ => 0))) := by rw [hH9]; exact set_ne o4 (by omega)
  have o5 : H9[5]? = some (.inl (0, 6, .inl (fun _ => 0))) := by rw [hH9]; exact set_ne o5 (by omega)
  have md6 : MdZ H9 6 3 := md6.rg (fun j h1 h2 => by rw [hH9, List.getElem?_set_ne (by omega)])
  have fr : ∀ j, j < 0 → H9[j]? = H[j]? := fun j hj => (show H9[j]? = H8[j]? by rw [hH9, List.getElem?_set_ne (by omega)]).trans (fr j hj)
  have hn : H9.length = 11 := by rw [hH9, List.length_set]; exact hn
  refine ez_aload_n i66_41 rfl ?_
  refine ezs_new (c := 3) (w := 86) (fs := [.null, .null, .null, .null, .null, .int 0, .int 0, .int 0, .int 0]) (m := 9) i66_42 ci66 (by decide +kernel) (by decide) (by first | rfl | decide +kernel) (by decide +kernel) hn (fun H10 hH10 => ?_)
  have o0 : H10[0]? = some (.inr (7, [.ref 1, .ref 3, .ref 6, .null, .null, .null, .null, .null, .null, .null, .null, .long 0])) := by rw [hH10]; exact app_l o0
  have o1 : H10[1]? = some (.inr (4, [.ref 2, .int 0])) := by rw [hH10]; exact app_l o1
  have o2 : H10[2]? = some (.inl (0, 64, .inl (fun _ => 0))) := by rw [hH10]; exact app_l o2
  have o3 : H10[3]? = some (.inr (2, [.ref 4, .ref 5, .int 0])) := by rw [hH10]; exact app_l o3
  have o4 : H10[4]? = some (.inl (0, 6, .inl (fun _ => 0))) := by rw [hH10]; exact app_l o4
  have o5 : H10[5]? = some (.inl (0, 6, .inl (fun _ => 0))) := by rw [hH10]; exact app_l o5
  have md6 : MdZ H10 6 3 := md6.rg (fun j h1 h2 => by rw [hH10, List.getElem?_append_left (by omega)])
  have fr : ∀ j, j < 0 → H10[j]? = H[j]? := fun j hj => (show H10[j]? = H9[j]? by rw [hH10, List.getElem?_append_left (by omega)]).trans (fr j hj)
  have o11 : H10[11]? = some (.inr (3, [.null, .null, .null, .null, .null, .int 0, .int 0, .int 0, .int 0])) := by rw [hH10]; exact app_n hn
  have hn : H10.length = 12 := by rw [hH10, List.length_append, hn]; rfl
  refine ez_dup i66_45 rfl ?_
  refine ez_aload_n i66_46 rfl ?_
  refine ez_get i66_47 ci66 fl7_19 o0 rfl ?_
  refine ez_call (y := 18) (na := 2) i66_50 rfl (by decide +kernel) ⟨Nat.le_of_ble_eq_true rfl, Nat.le_of_ble_eq_true rfl, rfl, rfl, by decide +kernel⟩ (z18 (p := 11) (h := 3) hn o11) (fun r H11 zz hq => ?_)
  obtain ⟨rfl, hn, rfl, fq, md11⟩ := hq
  have o0 : H11[0]? = some (.inr (7, [.ref 1, .ref 3, .ref 6, .null, .null, .null, .null, .null, .null, .null, .null, .long 0])) := (fq _ (by omega)).trans o0
  have o1 : H11[1]? = some (.inr (4, [.ref 2, .int 0])) := (fq _ (by omega)).trans o1
  have o2 : H11[2]? = some (.inl (0, 64, .inl (fun _ => 0))) := (fq _ (by omega)).trans o2
  have o3 : H11[3]? = some (.inr (2, [.ref 4, .ref 5, .int 0])) := (fq _ (by omega)).trans o3
  have o4 : H11[4]? = some (.inl (0, 6, .inl (fun _ => 0))) := (fq _ (by omega)).trans o4
  have o5 : H11[5]? = some (.inl (0, 6, .inl (fun _ => 0))) := (fq _ (by omega)).trans o5
  have md6 : MdZ H11 6 3 := md6.rg (fun j h1 h2 => fq _ (by omega))
  have fr : ∀ j, j < 0 → H11[j]? = H[j]? := fun j hj => (fq j (by omega)).trans (fr j hj)
  have hn : H11.length = 16 := hn
  show Ez tb 66 53 [some (.ref 0)] [.ref 11, .ref 0] H11 _ _
  refine ezs_put (fs' := [.ref 1, .ref 3, .ref 6, .ref 11, .null, .null, .null, .null, .null, .null, .null, .long 0]) i66_53 ci66 fl7_32 o0 (by first | exact ⟨Nat.le_of_ble_eq_true rfl, rfl, Or.inl rfl⟩ | exact ⟨Nat.le_of_ble_eq_true rfl, rfl, Or.inr ⟨by decide +kernel, by decide +kernel⟩⟩) rfl (fun H12 hH12 => ?_)
  have o0 : H12[0]? = some (.inr (7, [.ref 1, .ref 3, .ref 6, .ref 11, .null, .null, .null, .null, .null, .null, .null, .long 0])) := by rw [hH12]; exact set_self o0
  have o1 : H12[1]? = some (.inr (4, [.ref 2, .int 0])) := by rw [hH12]; exact set_ne o1 (by omega)
  have o2 : H12[2]? = some (.inl (0, 64, .inl (fun _ => 0))) := by rw [hH12]; exact set_ne o2 (by omega)
  have o3 : H12[3]? = some (.inr (2, [.ref 4, .ref 5, .int 0])) := by rw [hH12]; exact set_ne o3 (by omega)
  have o4 : H12[4]? = some (.inl (0, 6, .inl (fun _ => 0))) := by rw [hH12]; exact set_ne o4 (by omega)
  have o5 : H12[5]? = some (.inl (0, 6, .inl (fun _ => 0))) := by rw [hH12]; exact set_ne o5 (by omega)
  have md6 : MdZ H12 6 3 := md6.rg (fun j h1 h2 => by rw [hH12, List.getElem?_set_ne (by omega)])
  have md11 : MdZ H12 11 3 := md11.rg (fun j h1 h2 => by rw [hH12, List.getElem?_set_ne (by omega)])
  have fr : ∀ j, j < 0 → H12[j]? = H[j]? := fun j hj => (show H12[j]? = H11[j]? by rw [hH12, List.getElem?_set_ne (by omega)]).trans (fr j hj)
  have hn : H12.length = 16 := by rw [hH12, List.length_set]; exact hn
  refine ez_aload_n i66_56 rfl ?_
  refine ezs_new (c := 0) (w := 120) (fs := [.null, .int 0, .int 0]) (m := 3) i66_57 ci66 (by decide +kernel) (by decide) (by first | rfl | decide +kernel) (by decide +kernel) hn (fun H13 hH13 => ?_)
  have o0 : H13[0]? = some (.inr (7, [.ref 1, .ref 3, .ref 6, .ref 11, .null, .null, .null, .null, .null, .null, .null, .long 0])) := by rw [hH13]; exact app_l o0
  have o1 : H13[1]? = some (.inr (4, [.ref 2, .int 0])) := by rw [hH13]; exact app_l o1
  have o2 : H13[2]? = some (.inl (0, 64, .inl (fun _ => 0))) := by rw [hH13]; exact app_l o2
  have o3 : H13[3]? = some (.inr (2, [.ref 4, .ref 5, .int 0])) := by rw [hH13]; exact app_l o3
  have o4 : H13[4]? = some (.inl (0, 6, .inl (fun _ => 0))) := by rw [hH13]; exact app_l o4
  have o5 : H13[5]? = some (.inl (0, 6, .inl (fun _ => 0))) := by rw [hH13]; exact app_l o5
  have md6 : MdZ H13 6 3 := md6.rg (fun j h1 h2 => by rw [hH13, List.getElem?_append_left (by omega)])
  have md11 : MdZ H13 11 3 := md11.rg (fun j h1 h2 => by rw [hH13, List.getElem?_append_left (by omega)])
  have fr : ∀ j, j < 0 → H13[j]? = H[j]? := fun j hj => (show H13[j]? = H12[j]? by rw [hH13, List.getElem?_append_left (by omega)]).trans (fr j hj)
  have o16 : H13[16]? = some (.inr (0, [.null, .int 0, .int 0])) := by rw [hH13]; exact app_n hn
  have hn : H13.length = 17 := by rw [hH13, List.length_append, hn]; rfl
  refine ez_dup i66_60 rfl ?_
  refine ez_aload_n i66_61 rfl ?_
  refine ez_get i66_62 ci66 fl7_19 o0 rfl ?_
  refine ez_call (y := 0) (na := 2) i66_65 rfl (by decide +kernel) ⟨Nat.le_of_ble_eq_true rfl, Nat.le_of_ble_eq_true rfl, rfl, rfl, by decide +kernel⟩ (z0 (p := 16) (h := 3) hn o16) (fun r H14 zz hq => ?_)
  obtain ⟨rfl, hn, rfl, fq, o16, sh17⟩ := hq
  have o0 : H14[0]? = some (.inr (7, [.ref 1, .ref 3, .ref 6, .ref 11, .null, .null, .null, .null, .null, .null, .null, .long 0])) := (fq _ (by omega)).trans o0
  have o1 : H14[1]? = some (.inr (4, [.ref 2, .int 0])) := (fq _ (by omega)).trans o1
  have o2 : H14[2]? = some (.inl (0, 64, .inl (fun _ => 0))) := (fq _ (by omega)).trans o2
  have o3 : H14[3]? = some (.inr (2, [.ref 4, .ref 5, .int 0])) := (fq _ (by omega)).trans o3
  have o4 : H14[4]? = some (.inl (0, 6, .inl (fun _ => 0))) := (fq _ (by omega)).trans o4
  have o5 : H14[5]? = some (.inl (0, 6, .inl (fun _ => 0))) := (fq _ (by omega)).trans o5
  have md6 : MdZ H14 6 3 := md6.rg (fun j h1 h2 => fq _ (by omega))
  have md11 : MdZ H14 11 3 := md11.rg (fun j h1 h2 => fq _ (by omega))
  have fr : ∀ j, j < 0 → H14[j]? = H[j]? := fun j hj => (fq j (by omega)).trans (fr j hj)
  have hn : H14.length = 89 := hn
  have o16 : H14[16]? = some (.inr (0, [.ref 17, .int 0, .int 0])) := o16
  show Ez tb 66 68 [some (.ref 0)] [.ref 16, .ref 0] H14 _ _
  refine ezs_put (fs' := [.ref 1, .ref 3, .ref 6, .ref 11, .ref 16, .null, .null, .null, .null, .null, .null, .long 0]) i66_68 ci66 fl7_38 o0 (by first | exact ⟨Nat.le_of_ble_eq_true rfl, rfl, Or.inl rfl⟩ | exact ⟨Nat.le_of_ble_eq_true rfl, rfl, Or.inr ⟨by decide +kernel, by decide +kernel⟩⟩) rfl (fun H15 hH15 => ?_)
  have o0 : H15[0]? = some (.inr (7, [.ref 1, .ref 3, .ref 6, .ref 11, .ref 16, .null, .null, .null, .null, .null, .null, .long 0])) := by rw [hH15]; exact set_self o0
  have o1 : H15[1]? = some (.inr (4, [.ref 2, .int 0])) := by rw [hH15]; exact set_ne o1 (by omega)
  have o2 : H15[2]? = some (.inl (0, 64, .inl (fun _ => 0))) := by rw [hH15]; exact set_ne o2 (by omega)
  have o3 : H15[3]? = some (.inr (2, [.ref 4, .ref 5, .int 0])) := by rw [hH15]; exact set_ne o3 (by omega)
  have o4 : H15[4]? = some (.inl (0, 6, .inl (fun _ => 0))) := by rw [hH15]; exact set_ne o4 (by omega)
  have o5 : H15[5]? = some (.inl (0, 6, .inl (fun _ => 0))) := by rw [hH15]; exact set_ne o5 (by omega)
  have o16 : H15[16]? = some (.inr (0, [.ref 17, .int 0, .int 0])) := by rw [hH15]; exact set_ne o16 (by omega)
  have md6 : MdZ H15 6 3 := md6.rg (fun j h1 h2 => by rw [hH15, List.getElem?_set_ne (by omega)])
  have md11 : MdZ H15 11 3 := md11.rg (fun j h1 h2 => by rw [hH15, List.getElem?_set_ne (by omega)])
  have sh17 : ShZ H15 17 14 3 := sh17.rg (fun j h1 h2 => by rw [hH15, List.getElem?_set_ne (by omega)])
  have fr : ∀ j, j < 0 → H15[j]? = H[j]? := fun j hj => (show H15[j]? = H14[j]? by rw [hH15, List.getElem?_set_ne (by omega)]).trans (fr j hj)
  have hn : H15.length = 89 := by rw [hH15, List.length_set]; exact hn
  refine ez_aload_n i66_71 rfl ?_
  refine ezs_new (c := 5) (w := 151) (fs := [.null]) (m := 1) i66_72 ci66 (by decide +kernel) (by decide) (by first | rfl | decide +kernel) (by decide +kernel) hn (fun H16 hH16 => ?_)
  have o0 : H16[0]? = some (.inr (7, [.ref 1, .ref 3, .ref 6, .ref 11, .ref 16, .null, .null, .null, .null, .null, .null, .long 0])) := by rw [hH16]; exact app_l o0
  have o1 : H16[1]? = some (.inr (4, [.ref 2, .int 0])) := by rw [hH16]; exact app_l o1
  have o2 : H16[2]? = some (.inl (0, 64, .inl (fun _ => 0))) := by rw [hH16]; exact app_l o2
  have o3 : H16[3]? = some (.inr (2, [.ref 4, .ref 5, .int 0])) := by rw [hH16]; exact app_l o3
  have o4 : H16[4]? = some (.inl (0, 6, .inl (fun _ => 0))) := by rw [hH16]; exact app_l o4
  have o5 : H16[5]? = some (.inl (0, 6, .inl (fun _ => 0))) := by rw [hH16]; exact app_l o5
  have o16 : H16[16]? = some (.inr (0, [.ref 17, .int 0, .int 0])) := by rw [hH16]; exact app_l o16
  have md6 : MdZ H16 6 3 := md6.rg (fun j h1 h2 => by rw [hH16, List.getElem?_append_left (by omega)])
  have md11 : MdZ H16 11 3 := md11.rg (fun j h1 h2 => by rw [hH16, List.getElem?_append_left (by omega)])
  have sh17 : ShZ H16 17 14 3 := sh17.rg (fun j h1 h2 => by rw [hH16, List.getElem?_append_left (by omega)])
  have fr : ∀ j, j < 0 → H16[j]? = H[j]? := fun j hj => (show H16[j]? = H15[j]? by rw [hH16, List.getElem?_append_left (by omega)]).trans (fr j hj)
  have o89 : H16[89]? = some (.inr (5, [.null])) := by rw [hH16]; exact app_n hn
  have hn : H16.length = 90 := by rw [hH16, List.length_append, hn]; rfl
  refine ez_dup i66_75 rfl ?_
  refine ez_iconst (v := nI 2) i66_76 (by decide) ?_
  refine ez_aload_n i66_77 rfl ?_
  refine ez_get i66_78 ci66 fl7_19 o0 rfl ?_
  refine ez_call (y := 57) (na := 3) i66_81 rfl (by decide +kernel) ⟨Nat.le_of_ble_eq_true rfl, Nat.le_of_ble_eq_true rfl, rfl, rfl, by decide +kernel⟩ (z57 (p := 89) (m := 2) (h := 3) (by decide) hn o89) (fun r H17 zz hq => ?_)
  obtain ⟨rfl, hn, rfl, fq, sh89⟩ := hq
  have o0 : H17[0]? = some (.inr (7, [.ref 1, .ref 3, .ref 6, .ref 11, .ref 16, .null, .null, .null, .null, .null, .null, .long 0])) := (fq _ (by omega)).trans o0
  have o1 : H17[1]? = some (.inr (4, [.ref 2, .int 0])) := (fq _ (by omega)).trans o1
  have o2 : H17[2]? = some (.inl (0, 64, .inl (fun _ => 0))) := (fq _ (by omega)).trans o2
  have o3 : H17[3]? = some (.inr (2, [.ref 4, .ref 5, .int 0])) := (fq _ (by omega)).trans o3
  have o4 : H17[4]? = some (.inl (0, 6, .inl (fun _ => 0))) := (fq _ (by omega)).trans o4
  have o5 : H17[5]? = some (.inl (0, 6, .inl (fun _ => 0))) := (fq _ (by omega)).trans o5
  have o16 : H17[16]? = some (.inr (0, [.ref 17, .int 0, .int 0])) := (fq _ (by omega)).trans o16
  have md6 : MdZ H17 6 3 := md6.rg (fun j h1 h2 => fq _ (by omega))
  have md11 : MdZ H17 11 3 := md11.rg (fun j h1 h2 => fq _ (by omega))
  have sh17 : ShZ H17 17 14 3 := sh17.rg (fun j h1 h2 => fq _ (by omega))
  have fr : ∀ j, j < 0 → H17[j]? = H[j]? := fun j hj => (fq j (by omega)).trans (fr j hj)
  have hn : H17.length = 101 := hn
  show Ez tb 66 84 [some (.ref 0)] [.ref 89, .ref 0] H17 _ _
  refine ezs_put (fs' := [.ref 1, .ref 3, .ref 6, .ref 11, .ref 16, .ref 89, .null, .null, .null, .null, .null, .long 0]) i66_84 ci66 fl7_47 o0 (by first | exact ⟨Nat.le_of_ble_eq_true rfl, rfl, Or.inl rfl⟩ | exact ⟨Nat.le_of_ble_eq_true rfl, rfl, Or.inr ⟨by decide +kernel, by decide +kernel⟩⟩) rfl (fun H18 hH18 => ?_)
  have o0 : H18[0]? = some (.inr (7, [.ref 1, .ref 3, .ref 6, .ref 11, .ref 16, .ref 89, .null, .null, .null, .null, .null, .long 0])) := by rw [hH18]; exact set_self o0
  have o1 : H18[1]? = some (.inr (4, [.ref 2, .int 0])) := by rw [hH18]; exact set_ne o1 (by omega)
  have o2 : H18[2]? = some (.inl (0, 64, .inl (fun _ => 0))) := by rw [hH18]; exact set_ne o2 (by omega)
  have o3 : H18[3]? = some (.inr (2, [.ref 4, .ref 5, .int 0])) := by rw [hH18]; exact set_ne o3 (by omega)
  have o4 : H18[4]? = some (.inl (0, 6, .inl (fun _ => 0))) := by rw [hH18]; exact set_ne o4 (by omega)
  have o5 : H18[5]? = some (.inl (0, 6, .inl (fun _ => 0))) := by rw [hH18]; exact set_ne o5 (by omega)
  have o16 : H18[16]? = some (.inr (0, [.ref 17, .int 0, .int 0])) := by rw [hH18]; exact set_ne o16 (by omega)
  have md6 : MdZ H18 6 3 := md6.rg (fun j h1 h2 => by rw [hH18, List.getElem?_set_ne (by omega)])
  have md11 : MdZ H18 11 3 := md11.rg (fun j h1 h2 => by rw [hH18, List.getElem?_set_ne (by omega)])
  have sh17 : ShZ H18 17 14 3 := sh17.rg (fun j h1 h2 => by rw [hH18, List.getElem?_set_ne (by omega)])
  have sh89 : ShZ H18 89 2 3 := sh89.rg (fun j h1 h2 => by rw [hH18, List.getElem?_set_ne (by omega)])
  have fr : ∀ j, j < 0 → H18[j]? = H[j]? := fun j hj => (show H18[j]? = H17[j]? by rw [hH18, List.getElem?_set_ne (by omega)]).trans (fr j hj)
  have hn : H18.length = 101 := by rw [hH18, List.length_set]; exact hn
  refine ez_aload_n i66_87 rfl ?_
  refine ez_iconst (v := nI 2) i66_88 (by decide) ?_
  refine ez_nwZ i66_89 (by omega) hn (fun H19 hH19 => ?_)
  have o0 : H19[0]? = some (.inr (7, [.ref 1, .ref 3, .ref 6, .ref 11, .ref 16, .ref 89, .null, .null, .null, .null, .null, .long 0])) := by rw [hH19]; exact app_l o0
  have o1 : H19[1]? = some (.inr (4, [.ref 2, .int 0])) := by rw [hH19]; exact app_l o1
  have o2 : H19[2]? = some (.inl (0, 64, .inl (fun _ => 0))) := by rw [hH19]; exact app_l o2
  have o3 : H19[3]? = some (.inr (2, [.ref 4, .ref 5, .int 0])) := by rw [hH19]; exact app_l o3
  have o4 : H19[4]? = some (.inl (0, 6, .inl (fun _ => 0))) := by rw [hH19]; exact app_l o4
  have o5 : H19[5]? = some (.inl (0, 6, .inl (fun _ => 0))) := by rw [hH19]; exact app_l o5
  have o16 : H19[16]? = some (.inr (0, [.ref 17, .int 0, .int 0])) := by rw [hH19]; exact app_l o16
  have md6 : MdZ H19 6 3 := md6.rg (fun j h1 h2 => by rw [hH19, List.getElem?_append_left (by omega)])
  have md11 : MdZ H19 11 3 := md11.rg (fun j h1 h2 => by rw [hH19, List.getElem?_append_left (by omega)])
  have sh17 : ShZ H19 17 14 3 := sh17.rg (fun j h1 h2 => by rw [hH19, List.getElem?_append_left (by omega)])
  have sh89 : ShZ H19 89 2 3 := sh89.rg (fun j h1 h2 => by rw [hH19, List.getElem?_append_left (by omega)])
  have fr : ∀ j, j < 0 → H19[j]? = H[j]? := fun j hj => (show H19[j]? = H18[j]? by rw [hH19, List.getElem?_append_left (by omega)]).trans (fr j hj)
  have o101 : H19[101]? = some (.inl (1, 2, .inl (fun _ => 0))) := by rw [hH19]; exact app_n hn
  have hn : H19.length = 102 := by rw [hH19, List.length_append, hn]; rfl
  refine ezs_put (fs' := [.ref 1, .ref 3, .ref 6, .ref 11, .ref 16, .ref 89, .ref 101, .null, .null, .null, .null, .long 0]) i66_91 ci66 fl7_51 o0 (by first | exact ⟨Nat.le_of_ble_eq_true rfl, rfl, Or.inl rfl⟩ | exact ⟨Nat.le_of_ble_eq_true rfl, rfl, Or.inr ⟨by decide +kernel, by decide +kernel⟩⟩) rfl (fun H20 hH20 => ?_)
  have o0 : H20[0]? = some (.inr (7, [.ref 1, .ref 3, .ref 6, .ref 11, .ref 16, .ref 89, .ref 101, .null, .null, .null, .null, .long 0])) := by rw [hH20]; exact set_self o0
  have o1 : H20[1]? = some (.inr (4, [.ref 2, .int 0])) := by rw [hH20]; exact set_ne o1 (by omega)
  have o2 : H20[2]? = some (.inl (0, 64, .inl (fun _ => 0))) := by rw [hH20]; exact set_ne o2 (by omega)
  have o3 : H20[3]? = some (.inr (2, [.ref 4, .ref 5, .int 0])) := by rw [hH20]; exact set_ne o3 (by omega)
  have o4 : H20[4]? = some (.inl (0, 6, .inl (fun _ => 0))) := by rw [hH20]; exact set_ne o4 (by omega)
  have o5 : H20[5]? = some (.inl (0, 6, .inl (fun _ => 0))) := by rw [hH20]; exact set_ne o5 (by omega)
  have o16 : H20[16]? = some (.inr (0, [.ref 17, .int 0, .int 0])) := by rw [hH20]; exact set_ne o16 (by omega)
  have o101 : H20[101]? = some (.inl (1, 2, .inl (fun _ => 0))) := by rw [hH20]; exact set_ne o101 (by omega)
  have md6 : MdZ H20 6 3 := md6.rg (fun j h1 h2 => by rw [hH20, List.getElem?_set_ne (by omega)])
  have md11 : MdZ H20 11 3 := md11.rg (fun j h1 h2 => by rw [hH20, List.getElem?_set_ne (by omega)])
  have sh17 : ShZ H20 17 14 3 := sh17.rg (fun j h1 h2 => by rw [hH20, List.getElem?_set_ne (by omega)])
  have sh89 : ShZ H20 89 2 3 := sh89.rg (fun j h1 h2 => by rw [hH20, List.getElem?_set_ne (by omega)])
  have fr : ∀ j, j < 0 → H20[j]? = H[j]? := fun j hj => (show H20[j]? = H19[j]? by rw [hH20, List.getElem?_set_ne (by omega)]).trans (fr j hj)
  have hn : H20.length = 102 := by rw [hH20, List.length_set]; exact hn
  refine ez_aload_n i66_94 rfl ?_
  refine ezs_new (c := 6) (w := 153) (fs := [.null, .null, .null, .int 0]) (m := 4) i66_95 ci66 (by decide +kernel) (by decide) (by first | rfl | decide +kernel) (by decide +kernel) hn (fun H21 hH21 => ?_)
  have o0 : H21[0]? = some (.inr (7, [.ref 1, .ref 3, .ref 6, .ref 11, .ref 16, .ref 89, .ref 101, .null, .null, .null, .null, .long 0])) := by rw [hH21]; exact app_l o0
  have o1 : H21[1]? = some (.inr (4, [.ref 2, .int 0])) := by rw [hH21]; exact app_l o1
  have o2 : H21[2]? = some (.inl (0, 64, .inl (fun _ => 0))) := by rw [hH21]; exact app_l o2
  have o3 : H21[3]? = some (.inr (2, [.ref 4, .ref 5, .int 0])) := by rw [hH21]; exact app_l o3
  have o4 : H21[4]? = some (.inl (0, 6, .inl (fun _ => 0))) := by rw [hH21]; exact app_l o4
  have o5 : H21[5]? = some (.inl (0, 6, .inl (fun _ => 0))) := by rw [hH21]; exact app_l o5
  have o16 : H21[16]? = some (.inr (0, [.ref 17, .int 0, .int 0])) := by rw [hH21]; exact app_l o16
  have o101 : H21[101]? = some (.inl (1, 2, .inl (fun _ => 0))) := by rw [hH21]; exact app_l o101
  have md6 : MdZ H21 6 3 := md6.rg (fun j h1 h2 => by rw [hH21, List.getElem?_append_left (by omega)])
  have md11 : MdZ H21 11 3 := md11.rg (fun j h1 h2 => by rw [hH21, List.getElem?_append_left (by omega)])
  have sh17 : ShZ H21 17 14 3 := sh17.rg (fun j h1 h2 => by rw [hH21, List.getElem?_append_left (by omega)])
  have sh89 : ShZ H21 89 2 3 := sh89.rg (fun j h1 h2 => by rw [hH21, List.getElem?_append_left (by omega)])
  have fr : ∀ j, j < 0 → H21[j]? = H[j]? := fun j hj => (show H21[j]? = H20[j]? by rw [hH21, List.getElem?_append_left (by omega)]).trans (fr j hj)
  have o102 : H21[102]? = some (.inr (6, [.null, .null, .null, .int 0])) := by rw [hH21]; exact app_n hn
  have hn : H21.length = 103 := by rw [hH21, List.length_append, hn]; rfl
  refine ez_dup i66_98 rfl ?_
  refine ez_call (y := 61) (na := 1) i66_99 rfl (by decide +kernel) ⟨Nat.le_of_ble_eq_true rfl, Nat.le_of_ble_eq_true rfl, rfl, rfl, by decide +kernel⟩ (z61 (p := 102) hn o102) (fun r H22 zz hq => ?_)
  obtain ⟨rfl, hn, rfl, fq, o102, o103, o104, o105⟩ := hq
  have o0 : H22[0]? = some (.inr (7, [.ref 1, .ref 3, .ref 6, .ref 11, .ref 16, .ref 89, .ref 101, .null, .null, .null, .null, .long 0])) := (fq _ (by omega)).trans o0
  have o1 : H22[1]? = some (.inr (4, [.ref 2, .int 0])) := (fq _ (by omega)).trans o1
  have o2 : H22[2]? = some (.inl (0, 64, .inl (fun _ => 0))) := (fq _ (by omega)).trans o2
  have o3 : H22[3]? = some (.inr (2, [.ref 4, .ref 5, .int 0])) := (fq _ (by omega)).trans o3
  have o4 : H22[4]? = some (.inl (0, 6, .inl (fun _ => 0))) := (fq _ (by omega)).trans o4
  have o5 : H22[5]? = some (.inl (0, 6, .inl (fun _ => 0))) := (fq _ (by omega)).trans o5
  have o16 : H22[16]? = some (.inr (0, [.ref 17, .int 0, .int 0])) := (fq _ (by omega)).trans o16
  have o101 : H22[101]? = some (.inl (1, 2, .inl (fun _ => 0))) := (fq _ (by omega)).trans o101
  have md6 : MdZ H22 6 3 := md6.rg (fun j h1 h2 => fq _ (by omega))
  have md11 : MdZ H22 11 3 := md11.rg (fun j h1 h2 => fq _ (by omega))
  have sh17 : ShZ H22 17 14 3 := sh17.rg (fun j h1 h2 => fq _ (by omega))
  have sh89 : ShZ H22 89 2 3 := sh89.rg (fun j h1 h2 => fq _ (by omega))
  have fr : ∀ j, j < 0 → H22[j]? = H[j]? := fun j hj => (fq j (by omega)).trans (fr j hj)
  have hn : H22.length = 106 := hn
  have o102 : H22[102]? = some (.inr (6, [.ref 103, .ref 104, .ref 105, .int 0])) := o102
  have o103 : H22[103]? = some (.inl (0, 6, .inl (fun _ => 0))) := o103
  have o104 : H22[104]? = some (.inl (0, 6, .inl (fun _ => 0))) := o104
  have o105 : H22[105]? = some (.inl (1, 6, .inl (fun _ => 0))) := o105
  show Ez tb 66 102 [some (.ref 0)] [.ref 102, .ref 0] H22 _ _
  refine ezs_put (fs' := [.ref 1, .ref 3, .ref 6, .ref 11, .ref 16, .ref 89, .ref 101, .ref 102, .null, .null, .null, .long 0]) i66_102 ci66 fl7_58 o0 (by first | exact ⟨Nat.le_of_ble_eq_true rfl, rfl, Or.inl rfl⟩ | exact ⟨Nat.le_of_ble_eq_true rfl, rfl, Or.inr ⟨by decide +kernel, by decide +kernel⟩⟩) rfl (fun H23 hH23 => ?_)
  have o0 : H23[0]? = some (.inr (7, [.ref 1, .ref 3, .ref 6, .ref 11, .ref 16, .ref 89, .ref 101, .ref 102, .null, .null, .null, .long 0])) := by rw [hH23]; exact set_self o0
  have o1 : H23[1]? = some (.inr (4, [.ref 2, .int 0])) := by rw [hH23]; exact set_ne o1 (by omega)
  have o2 : H23[2]? = some (.inl (0, 64, .inl (fun _ => 0))) := by rw [hH23]; exact set_ne o2 (by omega)
  have o3 : H23[3]? = some (.inr (2, [.ref 4, .ref 5, .int 0])) := by rw [hH23]; exact set_ne o3 (by omega)
  have o4 : H23[4]? = some (.inl (0, 6, .inl (fun _ => 0))) := by rw [hH23]; exact set_ne o4 (by omega)
  have o5 : H23[5]? = some (.inl (0, 6, .inl (fun _ => 0))) := by rw [hH23]; exact set_ne o5 (by omega)
  have o16 : H23[16]? = some (.inr (0, [.ref 17, .int 0, .int 0])) := by rw [hH23]; exact set_ne o16 (by omega)
  have o101 : H23[101]? = some (.inl (1, 2, .inl (fun _ => 0))) := by rw [hH23]; exact set_ne o101 (by omega)
  have o102 : H23[102]? = some (.inr (6, [.ref 103, .ref 104, .ref 105, .int 0])) := by rw [hH23]; exact set_ne o102 (by omega)
  have o103 : H23[103]? = some (.inl (0, 6, .inl (fun _ => 0))) := by rw [hH23]; exact set_ne o103 (by omega)
  have o104 : H23[104]? = some (.inl (0, 6, .inl (fun _ => 0))) := by rw [hH23]; exact set_ne o104 (by omega)
  have o105 : H23[105]? = some (.inl (1, 6, .inl (fun _ => 0))) := by rw [hH23]; exact set_ne o105 (by omega)
  have md6 : MdZ H23 6 3 := md6.rg (fun j h1 h2 => by rw [hH23, List.getElem?_set_ne (by omega)])
  have md11 : MdZ H23 11 3 := md11.rg (fun j h1 h2 => by rw [hH23, List.getElem?_set_ne (by omega)])
  have sh17 : ShZ H23 17 14 3 := sh17.rg (fun j h1 h2 => by rw [hH23, List.getElem?_set_ne (by omega)])
  have sh89 : ShZ H23 89 2 3 := sh89.rg (fun j h1 h2 => by rw [hH23, List.getElem?_set_ne (by omega)])
  have fr : ∀ j, j < 0 → H23[j]? = H[j]? := fun j hj => (show H23[j]? = H22[j]? by rw [hH23, List.getElem?_set_ne (by omega)]).trans (fr j hj)
  have hn : H23.length = 106 := by rw [hH23, List.length_set]; exact hn
  refine ez_aload_n i66_105 rfl ?_
  refine ezs_new (c := 1) (w := 172) (fs := [.null, .int 0]) (m := 2) i66_106 ci66 (by decide +kernel) (by decide) (by first | rfl | decide +kernel) (by decide +kernel) hn (fun H24 hH24 => ?_)
  have o0 : H24[0]? = some (.inr (7, [.ref 1, .ref 3, .ref 6, .ref 11, .ref 16, .ref 89, .ref 101, .ref 102, .null, .null, .null, .long 0])) := by rw [hH24]; exact app_l o0
  have o1 : H24[1]? = some (.inr (4, [.ref 2, .int 0])) := by rw [hH24]; exact app_l o1
  have o2 : H24[2]? = some (.inl (0, 64, .inl (fun _ => 0))) := by rw [hH24]; exact app_l o2
  have o3 : H24[3]? = some (.inr (2, [.ref 4, .ref 5, .int 0])) := by rw [hH24]; exact app_l o3
  have o4 : H24[4]? = some (.inl (0, 6, .inl (fun _ => 0))) := by rw [hH24]; exact app_l o4
  have o5 : H24[5]? = some (.inl (0, 6, .inl (fun _ => 0))) := by rw [hH24]; exact app_l o5
  have o16 : H24[16]? = some (.inr (0, [.ref 17, .int 0, .int 0])) := by rw [hH24]; exact app_l o16
  have o101 : H24[101]? = some (.inl (1, 2, .inl (fun _ => 0))) := by rw [hH24]; exact app_l o101
  have o102 : H24[102]? = some (.inr (6, [.ref 103, .ref 104, .ref 105, .int 0])) := by rw [hH24]; exact app_l o102
  have o103 : H24[103]? = some (.inl (0, 6, .inl (fun _ => 0))) := by rw [hH24]; exact app_l o103
  have o104 : H24[104]? = some (.inl (0, 6, .inl (fun _ => 0))) := by rw [hH24]; exact app_l o104
  have o105 : H24[105]? = some (.inl (1, 6, .inl (fun _ => 0))) := by rw [hH24]; exact app_l o105
  have md6 : MdZ H24 6 3 := md6.rg (fun j h1 h2 => by rw [hH24, List.getElem?_append_left (by omega)])
  have md11 : MdZ H24 11 3 := md11.rg (fun j h1 h2 => by rw [hH24, List.getElem?_append_left (by omega)])
  have sh17 : ShZ H24 17 14 3 := sh17.rg (fun j h1 h2 => by rw [hH24, List.getElem?_append_left (by omega)])
  have sh89 : ShZ H24 89 2 3 := sh89.rg (fun j h1 h2 => by rw [hH24, List.getElem?_append_left (by omega)])
  have fr : ∀ j, j < 0 → H24[j]? = H[j]? := fun j hj => (show H24[j]? = H23[j]? by rw [hH24, List.getElem?_append_left (by omega)]).trans (fr j hj)
  have o106 : H24[106]? = some (.inr (1, [.null, .int 0])) := by rw [hH24]; exact app_n hn
  have hn : H24.length = 107 := by rw [hH24, List.length_append, hn]; rfl
  refine ez_dup i66_109 rfl ?_
  refine ez_call (y := 5) (na := 1) i66_110 rfl (by decide +kernel) ⟨Nat.le_of_ble_eq_true rfl, Nat.le_of_ble_eq_true rfl, rfl, rfl, by decide +kernel⟩ (z5 (p := 106) hn o106) (fun r H25 zz hq => ?_)
  obtain ⟨rfl, hn, rfl, fq, o106, o107⟩ := hq
  have o0 : H25[0]? = some (.inr (7, [.ref 1, .ref 3, .ref 6, .ref 11, .ref 16, .ref 89, .ref 101, .ref 102, .null, .null, .null, .long 0])) := (fq _ (by omega)).trans o0
  have o1 : H25[1]? = some (.inr (4, [.ref 2, .int 0])) := (fq _ (by omega)).trans o1
  have o2 : H25[2]? = some (.inl (0, 64, .inl (fun _ => 0))) := (fq _ (by omega)).trans o2
  have o3 : H25[3]? = some (.inr (2, [.ref 4, .ref 5, .int 0])) := (fq _ (by omega)).trans o3
  have o4 : H25[4]? = some (.inl (0, 6, .inl (fun _ => 0))) := (fq _ (by omega)).trans o4
  have o5 : H25[5]? = some (.inl (0, 6, .inl (fun _ => 0))) := (fq _ (by omega)).trans o5
  have o16 : H25[16]? = some (.inr (0, [.ref 17, .int 0, .int 0])) := (fq _ (by omega)).trans o16
  have o101 : H25[101]? = some (.inl (1, 2, .inl (fun _ => 0))) := (fq _ (by omega)).trans o101
  have o102 : H25[102]? = some (.inr (6, [.ref 103, .ref 104, .ref 105, .int 0])) := (fq _ (by omega)).trans o102
  have o103 : H25[103]? = some (.inl (0, 6, .inl (fun _ => 0))) := (fq _ (by omega)).trans o103
  have o104 : H25[104]? = some (.inl (0, 6, .inl (fun _ => 0))) := (fq _ (by omega)).trans o104
  have o105 : H25[105]? = some (.inl (1, 6, .inl (fun _ => 0))) := (fq _ (by omega)).trans o105
  have md6 : MdZ H25 6 3 := md6.rg (fun j h1 h2 => fq _ (by omega))
  have md11 : MdZ H25 11 3 := md11.rg (fun j h1 h2 => fq _ (by omega))
  have sh17 : ShZ H25 17 14 3 := sh17.rg (fun j h1 h2 => fq _ (by omega))
  have sh89 : ShZ H25 89 2 3 := sh89.rg (fun j h1 h2 => fq _ (by omega))
  have fr : ∀ j, j < 0 → H25[j]? = H[j]? := fun j hj => (fq j (by omega)).trans (fr j hj)
  have hn : H25.length = 108 := hn
  have o106 : H25[106]? = some (.inr (1, [.ref 107, .int 0])) := o106
  have o107 : H25[107]? = some (.inl (0, 26, .inl (fun _ => 0))) := o107
  show Ez tb 66 113 [some (.ref 0)] [.ref 106, .ref 0] H25 _ _
  refine ezs_put (fs' := [.ref 1, .ref 3, .ref 6, .ref 11, .ref 16, .ref 89, .ref 101, .ref 102, .ref 106, .null, .null, .long 0]) i66_113 ci66 fl7_65 o0 (by first | exact ⟨Nat.le_of_ble_eq_true rfl, rfl, Or.inl rfl⟩ | exact ⟨Nat.le_of_ble_eq_true rfl, rfl, Or.inr ⟨by decide +kernel, by decide +kernel⟩⟩) rfl (fun H26 hH26 => ?_)
  have o0 : H26[0]? = some (.inr (7, [.ref 1, .ref 3, .ref 6, .ref 11, .ref 16, .ref 89, .ref 101, .ref 102, .ref 106, .null, .null, .long 0])) := by rw [hH26]; exact set_self o0
  have o1 : H26[1]? = some (.inr (4, [.ref 2, .int 0])) := by rw [hH26]; exact set_ne o1 (by omega)
  have o2 : H26[2]? = some (.inl (0, 64, .inl (fun _ => 0))) := by rw [hH26]; exact set_ne o2 (by omega)
  have o3 : H26[3]? = some (.inr (2, [.ref 4, .ref 5, .int 0])) := by rw [hH26]; exact set_ne o3 (by omega)
  have o4 : H26[4]? = some (.inl (0, 6, .inl (fun _ => 0))) := by rw [hH26]; exact set_ne o4 (by omega)
  have o5 : H26[5]? = some (.inl (0, 6, .inl (fun _ => 0))) := by rw [hH26]; exact set_ne o5 (by omega)
  have o16 : H26[16]? = some (.inr (0, [.ref 17, .int 0, .int 0])) := by rw [hH26]; exact set_ne o16 (by omega)
  have o101 : H26[101]? = some (.inl (1, 2, .inl (fun _ => 0))) := by rw [hH26]; exact set_ne o101 (by omega)
  have o102 : H26[102]? = some (.inr (6, [.ref 103, .ref 104, .ref 105, .int 0])) := by rw [hH26]; exact set_ne o102 (by omega)
  have o103 : H26[103]? = some (.inl (0, 6, .inl (fun _ => 0))) := by rw [hH26]; exact set_ne o103 (by omega)
  have o104 : H26[104]? = some (.inl (0, 6, .inl (fun _ => 0))) := by rw [hH26]; exact set_ne o104 (by omega)
  have o105 : H26[105]? = some (.inl (1, 6, .inl (fun _ => 0))) := by rw [hH26]; exact set_ne o105 (by omega)
  have o106 : H26[106]? = some (.inr (1, [.ref 107, .int 0])) := by rw [hH26]; exact set_ne o106 (by omega)
  have o107 : H26[107]? = some (.inl (0, 26, .inl (fun _ => 0))) := by rw [hH26]; exact set_ne o107 (by omega)
  have md6 : MdZ H26 6 3 := md6.rg (fun j h1 h2 => by rw [hH26, List.getElem?_set_ne (by omega)])
  have md11 : MdZ H26 11 3 := md11.rg (fun j h1 h2 => by rw [hH26, List.getElem?_set_ne (by omega)])
  have sh17 : ShZ H26 17 14 3 := sh17.rg (fun j h1 h2 => by rw [hH26, List.getElem?_set_ne (by omega)])
  have sh89 : ShZ H26 89 2 3 := sh89.rg (fun j h1 h2 => by rw [hH26, List.getElem?_set_ne (by omega)])
  have fr : ∀ j, j < 0 → H26[j]? = H[j]? := fun j hj => (show H26[j]? = H25[j]? by rw [hH26, List.getElem?_set_ne (by omega)]).trans (fr j hj)
  have hn : H26.length = 108 := by rw [hH26, List.length_set]; exact hn
  refine ez_aload_n i66_116 rfl ?_
  refine ezs_new (c := 1) (w := 172) (fs := [.null, .int 0]) (m := 2) i66_117 ci66 (by decide +kernel) (by decide) (by first | rfl | decide +kernel) (by decide +kernel) hn (fun H27 hH27 => ?_)
  have o0 : H27[0]? = some (.inr (7, [.ref 1, .ref 3, .ref 6, .ref 11, .ref 16, .ref 89, .ref 101, .ref 102, .ref 106, .null, .null, .long 0])) := by rw [hH27]; exact app_l o0
  have o1 : H27[1]? = some (.inr (4, [.ref 2, .int 0])) := by rw [hH27]; exact app_l o1
  have o2 : H27[2]? = some (.inl (0, 64, .inl (fun _ => 0))) := by rw [hH27]; exact app_l o2
  have o3 : H27[3]? = some (.inr (2, [.ref 4, .ref 5, .int 0])) := by rw [hH27]; exact app_l o3
  have o4 : H27[4]? = some (.inl (0, 6, .inl (fun _ => 0))) := by rw [hH27]; exact app_l o4
  have o5 : H27[5]? = some (.inl (0, 6, .inl (fun _ => 0))) := by rw [hH27]; exact app_l o5
  have o16 : H27[16]? = some (.inr (0, [.ref 17, .int 0, .int 0])) := by rw [hH27]; exact app_l o16
  have o101 : H27[101]? = some (.inl (1, 2, .inl (fun _ => 0))) := by rw [hH27]; exact app_l o101
  have o102 : H27[102]? = some (.inr (6, [.ref 103, .ref 104, .ref 105, .int 0])) := by rw [hH27]; exact app_l o102
  have o103 : H27[103]? = some (.inl (0, 6, .inl (fun _ => 0))) := by rw [hH27]; exact app_l o103
  have o104 : H27[104]? = some (.inl (0, 6, .inl (fun _ => 0))) := by rw [hH27]; exact app_l o104
  have o105 : H27[105]? = some (.inl (1, 6, .inl (fun _ => 0))) := by rw [hH27]; exact app_l o105
  have o106 : H27[106]? = some (.inr (1, [.ref 107, .int 0])) := by rw [hH27]; exact app_l o106
  have o107 : H27[107]? = some (.inl (0, 26, .inl (fun _ => 0))) := by rw [hH27]; exact app_l o107
  have md6 : MdZ H27 6 3 := md6.rg (fun j h1 h2 => by rw [hH27, List.getElem?_append_left (by omega)])
  have md11 : MdZ H27 11 3 := md11.rg (fun j h1 h2 => by rw [hH27, List.getElem?_append_left (by omega)])
  have sh17 : ShZ H27 17 14 3 := sh17.rg (fun j h1 h2 => by rw [hH27, List.getElem?_append_left (by omega)])
  have sh89 : ShZ H27 89 2 3 := sh89.rg (fun j h1 h2 => by rw [hH27, List.getElem?_append_left (by omega)])
  have fr : ∀ j, j < 0 → H27[j]? = H[j]? := fun j hj => (show H27[j]? = H26[j]? by rw [hH27, List.getElem?_append_left (by omega)]).trans (fr j hj)
  have o108 : H27[108]? = some (.inr (1, [.null, .int 0])) := by rw [hH27]; exact app_n hn
  have hn : H27.length = 109 := by rw [hH27, List.length_append, hn]; rfl
  refine ez_dup i66_120 rfl ?_
  refine ez_call (y := 5) (na := 1) i66_121 rfl (by decide +kernel) ⟨Nat.le_of_ble_eq_true rfl, Nat.le_of_ble_eq_true rfl, rfl, rfl, by decide +kernel⟩ (z5 (p := 108) hn o108) (fun r H28 zz hq => ?_)
  obtain ⟨rfl, hn, rfl, fq, o108, o109⟩ := hq
  have o0 : H28[0]? = some (.inr (7, [.ref 1, .ref 3, .ref 6, .ref 11, .ref 16, .ref 89, .ref 101, .ref 102, .ref 106, .null, .null, .long 0])) := (fq _ (by omega)).trans o0
  have o1 : H28[1]? = some (.inr (4, [.ref 2, .int 0])) := (fq _ (by omega)).trans o1
  have o2 : H28[2]? = some (.inl (0, 64, .inl (fun _ => 0))) := (fq _ (by omega)).trans o2
  have o3 : H28[3]? = some (.inr (2, [.ref 4, .ref 5, .int 0])) := (fq _ (by omega)).trans o3
  have o4 : H28[4]? = some (.inl (0, 6, .inl (fun _ => 0))) := (fq _ (by omega)).trans o4
  have o5 : H28[5]? = some (.inl (0, 6, .inl (fun _ => 0))) := (fq _ (by omega)).trans o5
  have o16 : H28[16]? = some (.inr (0, [.ref 17, .int 0, .int 0])) := (fq _ (by omega)).trans o16
  have o101 : H28[101]? = some (.inl (1, 2, .inl (fun _ => 0))) := (fq _ (by omega)).trans o101
  have o102 : H28[102]? = some (.inr (6, [.ref 103, .ref 104, .ref 105, .int 0])) := (fq _ (by omega)).trans o102
  have o103 : H28[103]? = some (.inl (0, 6, .inl (fun _ => 0))) := (fq _ (by omega)).trans o103
  have o104 : H28[104]? = some (.inl (0, 6, .inl (fun _ => 0))) := (fq _ (by omega)).trans o104
  have o105 : H28[105]? = some (.inl (1, 6, .inl (fun _ => 0))) := (fq _ (by omega)).trans o105
  have o106 : H28[106]? = some (.inr (1, [.ref 107, .int 0])) := (fq _ (by omega)).trans o106
  have o107 : H28[107]? = some (.inl (0, 26, .inl (fun _ => 0))) := (fq _ (by omega)).trans o107
  have md6 : MdZ H28 6 3 := md6.rg (fun j h1 h2 => fq _ (by omega))
  have md11 : MdZ H28 11 3 := md11.rg (fun j h1 h2 => fq _ (by omega))
  have sh17 : ShZ H28 17 14 3 := sh17.rg (fun j h1 h2 => fq _ (by omega))
  have sh89 : ShZ H28 89 2 3 := sh89.rg (fun j h1 h2 => fq _ (by omega))
  have fr : ∀ j, j < 0 → H28[j]? = H[j]? := fun j hj => (fq j (by omega)).trans (fr j hj)
  have hn : H28.length = 110 := hn
  have o108 : H28[108]? = some (.inr (1, [.ref 109, .int 0])) := o108
  have o109 : H28[109]? = some (.inl (0, 26, .inl (fun _ => 0))) := o109
  show Ez tb 66 124 [some (.ref 0)] [.ref 108, .ref 0] H28 _ _
  refine ezs_put (fs' := [.ref 1, .ref 3, .ref 6, .ref 11, .ref 16, .ref 89, .ref 101, .ref 102, .ref 106, .ref 108, .null, .long 0]) i66_124 ci66 fl7_69 o0 (by first | exact ⟨Nat.le_of_ble_eq_true rfl, rfl, Or.inl rfl⟩ | exact ⟨Nat.le_of_ble_eq_true rfl, rfl, Or.inr ⟨by decide +kernel, by decide +kernel⟩⟩) rfl (fun H29 hH29 => ?_)
  have o0 : H29[0]? = some (.inr (7, [.ref 1, .ref 3, .ref 6, .ref 11, .ref 16, .ref 89, .ref 101, .ref 102, .ref 106, .ref 108, .null, .long 0])) := by rw [hH29]; exact set_self o0
  have o1 : H29[1]? = some (.inr (4, [.ref 2, .int 0])) := by rw [hH29]; exact set_ne o1 (by omega)
  have o2 : H29[2]? = some (.inl (0, 64, .inl (fun _ => 0))) := by rw [hH29]; exact set_ne o2 (by omega)
  have o3 : H29[3]? = some (.inr (2, [.ref 4, .ref 5, .int 0])) := by rw [hH29]; exact set_ne o3 (by omega)
  have o4 : H29[4]? = some (.inl (0, 6, .inl (fun _ => 0))) := by rw [hH29]; exact set_ne o4 (by omega)
  have o5 : H29[5]? = some (.inl (0, 6, .inl (fun _ => 0))) := by rw [hH29]; exact set_ne o5 (by omega)
  have o16 : H29[16]? = some (.inr (0, [.ref 17, .int 0, .int 0])) := by rw [hH29]; exact set_ne o16 (by omega)
  have o101 : H29[101]? = some (.inl (1, 2, .inl (fun _ => 0))) := by rw [hH29]; exact set_ne o101 (by omega)
  have o102 : H29[102]? = some (.inr (6, [.ref 103, .ref 104, .ref 105, .int 0])) := by rw [hH29]; exact set_ne o102 (by omega)
  have o103 : H29[103]? = some (.inl (0, 6, .inl (fun _ => 0))) := by rw [hH29]; exact set_ne o103 (by omega)
  have o104 : H29[104]? = some (.inl (0, 6, .inl (fun _ => 0))) := by rw [hH29]; exact set_ne o104 (by omega)
  have o105 : H29[105]? = some (.inl (1, 6, .inl (fun _ => 0))) := by rw [hH29]; exact set_ne o105 (by omega)
  have o106 : H29[106]? = some (.inr (1, [.ref 107, .int 0])) := by rw [hH29]; exact set_ne o106 (by omega)
  have o107 : H29[107]? = some (.inl (0, 26, .inl (fun _ => 0))) := by rw [hH29]; exact set_ne o107 (by omega)
  have o108 : H29[108]? = some (.inr (1, [.ref 109, .int 0])) := by rw [hH29]; exact set_ne o108 (by omega)
  have o109 : H29[109]? = some (.inl (0, 26, .inl (fun _ => 0))) := by rw [hH29]; exact set_ne o109 (by omega)
  have md6 : MdZ H29 6 3 := md6.rg (fun j h1 h2 => by rw [hH29, List.getElem?_set_ne (by omega)])
  have md11 : MdZ H29 11 3 := md11.rg (fun j h1 h2 => by rw [hH29, List.getElem?_set_ne (by omega)])
  have sh17 : ShZ H29 17 14 3 := sh17.rg (fun j h1 h2 => by rw [hH29, List.getElem?_set_ne (by omega)])
  have sh89 : ShZ H29 89 2 3 := sh89.rg (fun j h1 h2 => by rw [hH29, List.getElem?_set_ne (by omega)])
  have fr : ∀ j, j < 0 → H29[j]? = H[j]? := fun j hj => (show H29[j]? = H28[j]? by rw [hH29, List.getElem?_set_ne (by omega)]).trans (fr j hj)
  have hn : H29.length = 110 := by rw [hH29, List.length_set]; exact hn
  refine ez_aload_n i66_127 rfl ?_
  refine ez_sipush (v := nI 176) i66_128 (by decide) ?_
  refine ez_nwI i66_131 (by omega) hn (fun H30 hH30 => ?_)
  have o0 : H30[0]? = some (.inr (7, [.ref 1, .ref 3, .ref 6, .ref 11, .ref 16, .ref 89, .ref 101, .ref 102, .ref 106, .ref 108, .null, .long 0])) := by rw [hH30]; exact app_l o0
  have o1 : H30[1]? = some (.inr (4, [.ref 2, .int 0])) := by rw [hH30]; exact app_l o1
  have o2 : H30[2]? = some (.inl (0, 64, .inl (fun _ => 0))) := by rw [hH30]; exact app_l o2
  have o3 : H30[3]? = some (.inr (2, [.ref 4, .ref 5, .int 0])) := by rw [hH30]; exact app_l o3
  have o4 : H30[4]? = some (.inl (0, 6, .inl (fun _ => 0))) := by rw [hH30]; exact app_l o4
  have o5 : H30[5]? = some (.inl (0, 6, .inl (fun _ => 0))) := by rw [hH30]; exact app_l o5
  have o16 : H30[16]? = some (.inr (0, [.ref 17, .int 0, .int 0])) := by rw [hH30]; exact app_l o16
  have o101 : H30[101]? = some (.inl (1, 2, .inl (fun _ => 0))) := by rw [hH30]; exact app_l o101
  have o102 : H30[102]? = some (.inr (6, [.ref 103, .ref 104, .ref 105, .int 0])) := by rw [hH30]; exact app_l o102
  have o103 : H30[103]? = some (.inl (0, 6, .inl (fun _ => 0))) := by rw [hH30]; exact app_l o103
  have o104 : H30[104]? = some (.inl (0, 6, .inl (fun _ => 0))) := by rw [hH30]; exact app_l o104
  have o105 : H30[105]? = some (.inl (1, 6, .inl (fun _ => 0))) := by rw [hH30]; exact app_l o105
  have o106 : H30[106]? = some (.inr (1, [.ref 107, .int 0])) := by rw [hH30]; exact app_l o106
  have o107 : H30[107]? = some (.inl (0, 26, .inl (fun _ => 0))) := by rw [hH30]; exact app_l o107
  have o108 : H30[108]? = some (.inr (1, [.ref 109, .int 0])) := by rw [hH30]; exact app_l o108
  have o109 : H30[109]? = some (.inl (0, 26, .inl (fun _ => 0))) := by rw [hH30]; exact app_l o109
  have md6 : MdZ H30 6 3 := md6.rg (fun j h1 h2 => by rw [hH30, List.getElem?_append_left (by omega)])
  have md11 : MdZ H30 11 3 := md11.rg (fun j h1 h2 => by rw [hH30, List.getElem?_append_left (by omega)])
  have sh17 : ShZ H30 17 14 3 := sh17.rg (fun j h1 h2 => by rw [hH30, List.getElem?_append_left (by omega)])
  have sh89 : ShZ H30 89 2 3 := sh89.rg (fun j h1 h2 => by rw [hH30, List.getElem?_append_left (by omega)])
  have fr : ∀ j, j < 0 → H30[j]? = H[j]? := fun j hj => (show H30[j]? = H29[j]? by rw [hH30, List.getElem?_append_left (by omega)]).trans (fr j hj)
  have o110 : H30[110]? = some (.inl (0, 176, .inl (fun _ => 0))) := by rw [hH30]; exact app_n hn
  have hn : H30.length = 111 := by rw [hH30, List.length_append, hn]; rfl
  refine ezs_put (fs' := [.ref 1, .ref 3, .ref 6, .ref 11, .ref 16, .ref 89, .ref 101, .ref 102, .ref 106, .ref 108, .ref 110, .long 0]) i66_133 ci66 fl7_72 o0 (by first | exact ⟨Nat.le_of_ble_eq_true rfl, rfl, Or.inl rfl⟩ | exact ⟨Nat.le_of_ble_eq_true rfl, rfl, Or.inr ⟨by decide +kernel, by decide +kernel⟩⟩) rfl (fun H31 hH31 => ?_)
  have o0 : H31[0]? = some (.inr (7, [.ref 1, .ref 3, .ref 6, .ref 11, .ref 16, .ref 89, .ref 101, .ref 102, .ref 106, .ref 108, .ref 110, .long 0])) := by rw [hH31]; exact set_self o0
  have o1 : H31[1]? = some (.inr (4, [.ref 2, .int 0])) := by rw [hH31]; exact set_ne o1 (by omega)
  have o2 : H31[2]? = some (.inl (0, 64, .inl (fun _ => 0))) := by rw [hH31]; exact set_ne o2 (by omega)
  have o3 : H31[3]? = some (.inr (2, [.ref 4, .ref 5, .int 0])) := by rw [hH31]; exact set_ne o3 (by omega)
  have o4 : H31[4]? = some (.inl (0, 6, .inl (fun _ => 0))) := by rw [hH31]; exact set_ne o4 (by omega)
  have o5 : H31[5]? = some (.inl (0, 6, .inl (fun _ => 0))) := by rw [hH31]; exact set_ne o5 (by omega)
  have o16 : H31[16]? = some (.inr (0, [.ref 17, .int 0, .int 0])) := by rw [hH31]; exact set_ne o16 (by omega)
  have o101 : H31[101]? = some (.inl (1, 2, .inl (fun _ => 0))) := by rw [hH31]; exact set_ne o101 (by omega)
  have o102 : H31[102]? = some (.inr (6, [.ref 103, .ref 104, .ref 105, .int 0])) := by rw [hH31]; exact set_ne o102 (by omega)
  have o103 : H31[103]? = some (.inl (0, 6, .inl (fun _ => 0))) := by rw [hH31]; exact set_ne o103 (by omega)
  have o104 : H31[104]? = some (.inl (0, 6, .inl (fun _ => 0))) := by rw [hH31]; exact set_ne o104 (by omega)
  have o105 : H31[105]? = some (.inl (1, 6, .inl (fun _ => 0))) := by rw [hH31]; exact set_ne o105 (by omega)
  have o106 : H31[106]? = some (.inr (1, [.ref 107, .int 0])) := by rw [hH31]; exact set_ne o106 (by omega)
  have o107 : H31[107]? = some (.inl (0, 26, .inl (fun _ => 0))) := by rw [hH31]; exact set_ne o107 (by omega)
  have o108 : H31[108]? = some (.inr (1, [.ref 109, .int 0])) := by rw [hH31]; exact set_ne o108 (by omega)
  have o109 : H31[109]? = some (.inl (0, 26, .inl (fun _ => 0))) := by rw [hH31]; exact set_ne o109 (by omega)
  have o110 : H31[110]? = some (.inl (0, 176, .inl (fun _ => 0))) := by rw [hH31]; exact set_ne o110 (by omega)
  have md6 : MdZ H31 6 3 := md6.rg (fun j h1 h2 => by rw [hH31, List.getElem?_set_ne (by omega)])
  have md11 : MdZ H31 11 3 := md11.rg (fun j h1 h2 => by rw [hH31, List.getElem?_set_ne (by omega)])
  have sh17 : ShZ H31 17 14 3 := sh17.rg (fun j h1 h2 => by rw [hH31, List.getElem?_set_ne (by omega)])
  have sh89 : ShZ H31 89 2 3 := sh89.rg (fun j h1 h2 => by rw [hH31, List.getElem?_set_ne (by omega)])
  have fr : ∀ j, j < 0 → H31[j]? = H[j]? := fun j hj => (show H31[j]? = H30[j]? by rw [hH31, List.getElem?_set_ne (by omega)]).trans (fr j hj)
  have hn : H31.length = 111 := by rw [hH31, List.length_set]; exact hn
  refine ez_vret i66_136 (by decide +kernel) ?_
  refine ⟨rfl, hn, by omega, fun j hj => absurd hj (Nat.not_lt_zero _), o0, o1, o2, o3, o4, o5, o16, o101, o102, o103, o104, o105, o106, o107, o108, o109, o110, md6, md11, sh17, sh89⟩
theorem z116 {tb : dxT} {H : dxH} {z : Nat} (hn : H.length = 112) (o111 : H[111]? = some (.inr (8, [.int 0, .null, .null, .null, .null, .null, .null, .int 0, .int 0, .int 0, .null, .int 0, .int 0, .int 0, .int 0, .int 0, .null, .null, .int 0, .null, .null, .null, .null, .long 0, .null, .null]))) : Ez tb 116 0 (dxEnt 116 [.ref 111]) [] H z (fun r H' z' => r = none ∧ H'.length = 127 ∧ z' ≤ z + 100000 ∧ (∀ j, j < 111 → H'[j]? = H[j]?) ∧ H'[111]? = some (.inr (8, [.int 0, .ref 112, .ref 113, .ref 114, .ref 115, .ref 116, .ref 117, .int 0, .int 0, .int 0, .ref 118, .int 0, .int 0, .int 0, .int 0, .int 0, .ref 119, .ref 120, .int 0, .ref 121, .ref 122, .ref 123, .ref 124, .long 0, .ref 125, .ref 126])) ∧ H'[112]? = some (.inl (0, 6, .inl (fun _ => 0))) ∧ H'[113]? = some (.inl (0, 6, .inl (fun _ => 0))) ∧ H'[114]? = some (.inl (0, 54, .inl (fun _ => 0))) ∧ H'[115]? = some (.inl (0, 27, .inl (fun _ => 0))) ∧ H'[116]? = some (.inl (0, 6, .inl (fun _ => 0))) ∧ H'[117]? = some (.inl (0, 6, .inl (fun _ => 0))) ∧ H'[118]? = some (.inl (0, 64, .inl (fun _ => 0))) ∧ H'[119]? = some (.inl (0, 378, .inl (fun _ => 0))) ∧ H'[120]? = some (.inl (0, 64, .inl (fun _ => 0))) ∧ H'[121]? = some (.inl (0, 6, .inl (fun _ => 0))) ∧ H'[122]? = some (.inl (0, 6, .inl (fun _ => 0))) ∧ H'[123]? = some (.inl (1, 6, .inl (fun _ => 0))) ∧ H'[124]? = some (.inl (0, 3721, .inl (fun _ => 0))) ∧ H'[125]? = some (.inl (1, 2, .inl (fun _ => 0))) ∧ H'[126]? = some (.inl (0, 54, .inl (fun _ => 0)))) := by
  have fr : ∀ j, j < 111 → H[j]? = H[j]? := fun _ _ => rfl
  show Ez tb 116 0 [some (.ref 111)] [] H z _
  refine ez_aload_n i116_0 rfl ?_
  refine ez_obj i116_1 ci116 lk8_1 (by decide +kernel) rfl ?_
  refine ez_aload_n i116_4 rfl ?_
  refine ez_bipush (v := nI 6) i116_5 (by decide) ?_
  refine ez_nwI i116_7 (by omega) hn (fun H1 hH1 => ?_)
  have o111 : H1[111]? = some (.inr (8, [.int 0, .null, .null, .null, .null, .null, .null, .int 0, .int 0, .int 0, .null, .int 0, .int 0, .int 0, .int 0, .int 0, .null, .null, .int 0, .null, .null, .null, .null, .long 0, .null, .null])) := by rw [hH1]; exact app_l o111
  have fr : ∀ j, j < 111 → H1[j]? = H[j]? := fun j hj => (show H1[j]? = H[j]? by rw [hH1, List.getElem?_append_left (by omega)]).trans (fr j hj)
  have o112 : H1[112]? = some (.inl (0, 6, .inl (fun _ => 0))) := by rw [hH1]; exact app_n hn
  have hn : H1.length = 113 := by rw [hH1, List.length_append, hn]; rfl
  refine ezs_put (fs' := [.int 0, .ref 112, .null, .null, .null, .null, .null, .int 0, .int 0, .int 0, .null, .int 0, .int 0, .int 0, .int 0, .int 0, .null, .null, .int 0, .null, .null, .null, .null, .long 0, .null, .null]) i116_9 ci116 fl8_7 o111 (by first | exact ⟨Nat.le_of_ble_eq_true rfl, rfl, Or.inl rfl⟩ | exact ⟨Nat.le_of_ble_eq_true rfl, rfl, Or.inr ⟨by decide +kernel, by decide +kernel⟩⟩) rfl (fun H2 hH2 => ?_)
  have o111 : H2[111]? = some (.inr (8, [.int 0, .ref 112, .null, .null, .null, .null, .null, .int 0, .int 0, .int 0, .null, .int 0, .int 0, .int 0, .int 0, .int 0, .null, .null, .int 0, .null, .null, .null, .null, .long 0, .null, .null])) := by rw [hH2]; exact set_self o111
  have o112 : H2[112]? = some (.inl (0, 6, .inl (fun _ => 0))) := by rw [hH2]; exact set_ne o112 (by omega)
  have fr : ∀ j, j < 111 → H2[j]? = H[j]? := fun j hj => (show H2[j]? = H1[j]? by rw [hH2, List.getElem?_set_ne (by omega)]).trans (fr j hj)
  have hn : H2.length = 113 := by rw [hH2, List.length_set]; exact hn
  refine ez_aload_n i116_12 rfl ?_
  refine ez_bipush (v := nI 6) i116_13 (by decide) ?_
  refine ez_nwI i116_15 (by omega) hn (fun H3 hH3 => ?_)
  have o111 : H3[111]? = some (.inr (8, [.int 0, .ref 112, .null, .null, .null, .null, .null, .int 0, .int 0, .int 0, .null, .int 0, .int 0, .int 0, .int 0, .int 0, .null, .null, .int 0, .null, .null, .null, .null, .long 0, .null, .null])) := by rw [hH3]; exact app_l o111
  have o112 : H3[112]? = some (.inl (0, 6, .inl (fun _ => 0))) := by rw [hH3]; exact app_l o112
  have fr : ∀ j, j < 111 → H3[j]? = H[j]? := fun j hj => (show H3[j]? = H2[j]? by rw [hH3, List.getElem?_append_left (by omega)]).trans (fr j hj)
  have o113 : H3[113]? = some (.inl (0, 6, .inl (fun _ => 0))) := by rw [hH3]; exact app_n hn
  have hn : H3.length = 114 := by rw [hH3, List.length_append, hn]; rfl
  refine ezs_put (fs' := [.int 0, .ref 112, .ref 113, .null, .null, .null, .null, .int 0, .int 0, .int 0, .null, .int 0, .int 0, .int 0, .int 0, .int 0, .null, .null, .int 0, .null, .null, .null, .null, .long 0, .null, .null]) i116_17 ci116 fl8_13 o111 (by first | exact ⟨Nat.le_of_ble_eq_true rfl, rfl, Or.inl rfl⟩ | exact ⟨Nat.le_of_ble_eq_true rfl, rfl, Or.inr ⟨by decide +kernel, by decide +kernel⟩⟩) rfl (fun H4 hH4 => ?_)
  have o111 : H4[111]? = some (.inr (8, [.int 0, .ref 112, .ref 113, .null, .null, .null, .null, .int 0, .int 0, .int 0, .null, .int 0, .int 0, .int 0, .int 0, .int 0, .null, .null, .int 0, .null, .null, .null, .null, .long 0, .null, .null])) := by rw [hH4]; exact set_self o111
  have o112 : H4[112]? = some (.inl (0, 6, .inl (fun _ => 0))) := by rw [hH4]; exact set_ne o112 (by omega)
  have o113 : H4[113]? = some (.inl (0, 6, .inl (fun _ => 0))) := by rw [hH4]; exact set_ne o113 (by omega)
  have fr : ∀ j, j < 111 → H4[j]? = H[j]? := fun j hj => (show H4[j]? = H3[j]? by rw [hH4, List.getElem?_set_ne (by omega)]).trans (fr j hj)
  have hn : H4.length = 114 := by rw [hH4, List.length_set]; exact hn
  refine ez_aload_n i116_20 rfl ?_
  refine ez_bipush (v := nI 54) i116_21 (by decide) ?_
  refine ez_nwI i116_23 (by omega) hn (fun H5 hH5 => ?_)
  have o111 : H5[111]? = some (.inr (8, [.int 0, .ref 112, .ref 113, .null, .null, .null, .null, .int 0, .int 0, .int 0, .null, .int 0, .int 0, .int 0, .int 0, .int 0, .null, .null, .int 0, .null, .null, .null, .null, .long 0, .null, .null])) := by rw [hH5]; exact app_l o111
  have o112 : H5[112]? = some (.inl (0, 6, .inl (fun _ => 0))) := by rw [hH5]; exact app_l o112
  have o113 : H5[113]? = some (.inl (0, 6, .inl (fun _ => 0))) := by rw [hH5]; exact app_l o113
  have fr : ∀ j, j < 111 → H5[j]? = H[j]? := fun j hj => (show H5[j]? = H4[j]? by rw [hH5, List.getElem?_append_left (by omega)]).trans (fr j hj)
  have o114 : H5[114]? = some (.inl (0, 54, .inl (fun _ => 0))) := by rw [hH5]; exact app_n hn
  have hn : H5.length = 115 := by rw [hH5, List.length_append, hn]; rfl
  refine ezs_put (fs' := [.int 0, .ref 112, .ref 113, .ref 114, .null, .null, .null, .int 0, .int 0, .int 0, .null, .int 0, .int 0, .int 0, .int 0, .int 0, .null, .null, .int 0, .null, .null, .null, .null, .long 0, .null, .null]) i116_25 ci116 fl8_16 o111 (by first | exact ⟨Nat.le_of_ble_eq_true rfl, rfl, Or.inl rfl⟩ | exact ⟨Nat.le_of_ble_eq_true rfl, rfl, Or.inr ⟨by decide +kernel, by decide +kernel⟩⟩) rfl (fun H6 hH6 => ?_)
  have o111 : H6[111]? = some (.inr (8, [.int 0, .ref 112, .ref 113, .ref 114, .null, .null, .null, .int 0, .int 0, .int 0, .null, .int 0, .int 0, .int 0, .int 0, .int 0, .null, .null, .int 0, .null, .null, .null, .null, .long 0, .null, .null])) := by rw [hH6]; exact set_self o111
  have o112 : H6[112]? = some (.inl (0, 6, .inl (fun _ => 0))) := by rw [hH6]; exact set_ne o112 (by omega)
  have o113 : H6[113]? = some (.inl (0, 6, .inl (fun _ => 0))) := by rw [hH6]; exact set_ne o113 (by omega)
  have o114 : H6[114]? = some (.inl (0, 54, .inl (fun _ => 0))) := by rw [hH6]; exact set_ne o114 (by omega)
  have fr : ∀ j, j < 111 → H6[j]? = H[j]? := fun j hj => (show H6[j]? = H5[j]? by rw [hH6, List.getElem?_set_ne (by omega)]).trans (fr j hj)
  have hn : H6.length = 115 := by rw [hH6, List.length_set]; exact hn
  refine ez_aload_n i116_28 rfl ?_
  refine ez_bipush (v := nI 27) i116_29 (by decide) ?_
  refine ez_nwI i116_31 (by omega) hn (fun H7 hH7 => ?_)
  have o111 : H7[111]? = some (.inr (8, [.int 0, .ref 112, .ref 113, .ref 114, .null, .null, .null, .int 0, .int 0, .int 0, .null, .int 0, .int 0, .int 0, .int 0, .int 0, .null, .null, .int 0, .null, .null, .null, .null, .long 0, .null, .null])) := by rw [hH7]; exact app_l o111
  have o112 : H7[112]? = some (.inl (0, 6, .inl (fun _ => 0))) := by rw [hH7]; exact app_l o112
  have o113 : H7[113]? = some (.inl (0, 6, .inl (fun _ => 0))) := by rw [hH7]; exact app_l o113
  have o114 : H7[114]? = some (.inl (0, 54, .inl (fun _ => 0))) := by rw [hH7]; exact app_l o114
  have fr : ∀ j, j < 111 → H7[j]? = H[j]? := fun j hj => (show H7[j]? = H6[j]? by rw [hH7, List.getElem?_append_left (by omega)]).trans (fr j hj)
  have o115 : H7[115]? = some (.inl (0, 27, .inl (fun _ => 0))) := by rw [hH7]; exact app_n hn
  have hn : H7.length = 116 := by rw [hH7, List.length_append, hn]; rfl
  refine ezs_put (fs' := [.int 0, .ref 112, .ref 113, .ref 114, .ref 115, .null, .null, .int 0, .int 0, .int 0, .null, .int 0, .int 0, .int 0, .int 0, .int 0, .null, .null, .int 0, .null, .null, .null, .null, .long 0, .null, .null]) i116_33 ci116 fl8_19 o111 (by first | exact ⟨Nat.le_of_ble_eq_true rfl, rfl, Or.inl rfl⟩ | exact ⟨Nat.le_of_ble_eq_true rfl, rfl, Or.inr ⟨by decide +kernel, by decide +kernel⟩⟩) rfl (fun H8 hH8 => ?_)
  have o111 : H8[111]? = some (.inr (8, [.int 0, .ref 112, .ref 113, .ref 114, .ref 115, .null, .null, .int 0, .int 0, .int 0, .null, .int 0, .int 0, .int 0, .int 0, .int 0, .null, .null, .int 0, .null, .null, .null, .null, .long 0, .null, .null])) := by rw [hH8]; exact set_self o111
  have o112 : H8[112]? = some (.inl (0, 6, .inl (fun _ => 0))) := by rw [hH8]; exact set_ne o112 (by omega)
  have o113 : H8[113]? = some (.inl (0, 6, .inl (fun _ => 0))) := by rw [hH8]; exact set_ne o113 (by omega)
  have o114 : H8[114]? = some (.inl (0, 54, .inl (fun _ => 0))) := by rw [hH8]; exact set_ne o114 (by omega)
  have o115 : H8[115]? = some (.inl (0, 27, .inl (fun _ => 0))) := by rw [hH8]; exact set_ne o115 (by omega)
  have fr : ∀ j, j < 111 → H8[j]? = H[j]? := fun j hj => (show H8[j]? = H7[j]? by rw [hH8, List.getElem?_set_ne (by omega)]).trans (fr j hj)
  have hn : H8.length = 116 := by rw [hH8, List.length_set]; exact hn
  refine ez_aload_n i116_36 rfl ?_
  refine ez_bipush (v := nI 6) i116_37 (by decide) ?_
  refine ez_nwI i116_39 (by omega) hn (fun H9 hH9 => ?_)
  have o111 : H9[111]? = some (.inr (8, [.int 0, .ref 112, .ref 113, .ref 114, .ref 115, .null, .null, .int 0, .int 0, .int 0, .null, .int 0, .int 0, .int 0, .int 0, .int 0, .null, .null, .int 0, .null, .null, .null, .null, .long 0, .null, .null])) := by rw [hH9]; exact app_l o111
  have o112 : H9[112]? = some (.inl (0, 6, .inl (fun _ => 0))) := by rw [hH9]; exact app_l o112
  have o113 : H9[113]? = some (.inl (0, 6, .inl (fun _ => 0))) := by rw [hH9]; exact app_l o113
  have o114 : H9[114]? = some (.inl (0, 54, .inl (fun _ => 0))) := by rw [hH9]; exact app_l o114
  have o115 : H9[115]? = some (.inl (0, 27, .inl (fun _ => 0))) := by rw [hH9]; exact app_l o115
  have fr : ∀ j, j < 111 → H9[j]? = H[j]? := fun j hj => (show H9[j]? = H8[j]? by rw [hH9, List.getElem?_append_left (by omega)]).trans (fr j hj)
  have o116 : H9[116]? = some (.inl (0, 6, .inl (fun _ => 0))) := by rw [hH9]; exact app_n hn
  have hn : H9.length = 117 := by rw [hH9, List.length_append, hn]; rfl
  refine ezs_put (fs' := [.int 0, .ref 112, .ref 113, .ref 114, .ref 115, .ref 116, .null, .int 0, .int 0, .int 0, .null, .int 0, .int 0, .int 0, .int 0, .int 0, .null, .null, .int 0, .null, .null, .null, .null, .long 0, .null, .null]) i116_41 ci116 fl8_22 o111 (by first | exact ⟨Nat.le_of_ble_eq_true rfl, rfl, Or.inl rfl⟩ | exact ⟨Nat.le_of_ble_eq_true rfl, rfl, Or.inr ⟨by decide +kernel, by decide +kernel⟩⟩) rfl (fun H10 hH10 => ?_)
  have o111 : H10[111]? = some (.inr (8, [.int 0, .ref 112, .ref 113, .ref 114, .ref 115, .ref 116, .null, .int 0, .int 0, .int 0, .null, .int 0, .int 0, .int 0, .int 0, .int 0, .null, .null, .int 0, .null, .null, .null, .null, .long 0, .null, .null])) := by rw [hH10]; exact set_self o111
  have o112 : H10[112]? = some (.inl (0, 6, .inl (fun _ => 0))) := by rw [hH10]; exact set_ne o112 (by omega)
  have o113 : H10[113]? = some (.inl (0, 6, .inl (fun _ => 0))) := by rw [hH10]; exact set_ne o113 (by omega)
  have o114 : H10[114]? = some (.inl (0, 54, .inl (fun _ => 0))) := by rw [hH10]; exact set_ne o114 (by omega)
  have o115 : H10[115]? = some (.inl (0, 27, .inl (fun _ => 0))) := by rw [hH10]; exact set_ne o115 (by omega)
  have o116 : H10[116]? = some (.inl (0, 6, .inl (fun _ => 0))) := by rw [hH10]; exact set_ne o116 (by omega)
  have fr : ∀ j, j < 111 → H10[j]? = H[j]? := fun j hj => (show H10[j]? = H9[j]? by rw [hH10, List.getElem?_set_ne (by omega)]).trans (fr j hj)
  have hn : H10.length = 117 := by rw [hH10, List.length_set]; exact hn
  refine ez_aload_n i116_44 rfl ?_
  refine ez_bipush (v := nI 6) i116_45 (by decide) ?_
  refine ez_nwI i116_47 (by omega) hn (fun H11 hH11 => ?_)
  have o111 : H11[111]? = some (.inr (8, [.int 0, .ref 112, .ref 113, .ref 114, .ref 115, .ref 116, .null, .int 0, .int 0, .int 0, .null, .int 0, .int 0, .int 0, .int 0, .int 0, .null, .null, .int 0, .null, .null, .null, .null, .long 0, .null, .null])) := by rw [hH11]; exact app_l o111
  have o112 : H11[112]? = some (.inl (0, 6, .inl (fun _ => 0))) := by rw [hH11]; exact app_l o112
  have o113 : H11[113]? = some (.inl (0, 6, .inl (fun _ => 0))) := by rw [hH11]; exact app_l o113
  have o114 : H11[114]? = some (.inl (0, 54, .inl (fun _ => 0))) := by rw [hH11]; exact app_l o114
  have o115 : H11[115]? = some (.inl (0, 27, .inl (fun _ => 0))) := by rw [hH11]; exact app_l o115
  have o116 : H11[116]? = some (.inl (0, 6, .inl (fun _ => 0))) := by rw [hH11]; exact app_l o116
  have fr : ∀ j, j < 111 → H11[j]? = H[j]? := fun j hj => (show H11[j]? = H10[j]? by rw [hH11, List.getElem?_append_left (by omega)]).trans (fr j hj)
  have o117 : H11[117]? = some (.inl (0, 6, .inl (fun _ => 0))) := by rw [hH11]; exact app_n hn
  have hn : H11.length = 118 := by rw [hH11, List.length_append, hn]; rfl
  refine ezs_put (fs' := [.int 0, .ref 112, .ref 113, .ref 114, .ref 115, .ref 116, .ref 117, .int 0, .int 0, .int 0, .null, .int 0, .int 0, .int 0, .int 0, .int 0, .null, .null, .int 0, .null, .null, .null, .null, .long 0, .null, .null]) i116_49 ci116 fl8_25 o111 (by first | exact ⟨Nat.le_of_ble_eq_true rfl, rfl, Or.inl rfl⟩ | exact ⟨Nat.le_of_ble_eq_true rfl, rfl, Or.inr ⟨by decide +kernel, by decide +kernel⟩⟩) rfl (fun H12 hH12 => ?_)
  have o111 : H12[111]? = some (.inr (8, [.int 0, .ref 112, .ref 113, .ref 114, .ref 115, .ref 116, .ref 117, .int 0, .int 0, .int 0, .null, .int 0, .int 0, .int 0, .int 0, .int 0, .null, .null, .int 0, .null, .null, .null, .null, .long 0, .null, .null])) := by rw [hH12]; exact set_self o111
  have o112 : H12[112]? = some (.inl (0, 6, .inl (fun _ => 0))) := by rw [hH12]; exact set_ne o112 (by omega)
  have o113 : H12[113]? = some (.inl (0, 6, .inl (fun _ => 0))) := by rw [hH12]; exact set_ne o113 (by omega)
  have o114 : H12[114]? = some (.inl (0, 54, .inl (fun _ => 0))) := by rw [hH12]; exact set_ne o114 (by omega)
  have o115 : H12[115]? = some (.inl (0, 27, .inl (fun _ => 0))) := by rw [hH12]; exact set_ne o115 (by omega)
  have o116 : H12[116]? = some (.inl (0, 6, .inl (fun _ => 0))) := by rw [hH12]; exact set_ne o116 (by omega)
  have o117 : H12[117]? = some (.inl (0, 6, .inl (fun _ => 0))) := by rw [hH12]; exact set_ne o117 (by omega)
  have fr : ∀ j, j < 111 → H12[j]? = H[j]? := fun j hj => (show H12[j]? = H11[j]? by rw [hH12, List.getElem?_set_ne (by omega)]).trans (fr j hj)
  have hn : H12.length = 118 := by rw [hH12, List.length_set]; exact hn
  refine ez_aload_n i116_52 rfl ?_
  refine ez_bipush (v := nI 64) i116_53 (by decide) ?_
  refine ez_nwI i116_55 (by omega) hn (fun H13 hH13 => ?_)
  have o111 : H13[111]? = some (.inr (8, [.int 0, .ref 112, .ref 113, .ref 114, .ref 115, .ref 116, .ref 117, .int 0, .int 0, .int 0, .null, .int 0, .int 0, .int 0, .int 0, .int 0, .null, .null, .int 0, .null, .null, .null, .null, .long 0, .null, .null])) := by rw [hH13]; exact app_l o111
  have o112 : H13[112]? = some (.inl (0, 6, .inl (fun _ => 0))) := by rw [hH13]; exact app_l o112
  have o113 : H13[113]? = some (.inl (0, 6, .inl (fun _ => 0))) := by rw [hH13]; exact app_l o113
  have o114 : H13[114]? = some (.inl (0, 54, .inl (fun _ => 0))) := by rw [hH13]; exact app_l o114
  have o115 : H13[115]? = some (.inl (0, 27, .inl (fun _ => 0))) := by rw [hH13]; exact app_l o115
  have o116 : H13[116]? = some (.inl (0, 6, .inl (fun _ => 0))) := by rw [hH13]; exact app_l o116
  have o117 : H13[117]? = some (.inl (0, 6, .inl (fun _ => 0))) := by rw [hH13]; exact app_l o117
  have fr : ∀ j, j < 111 → H13[j]? = H[j]? := fun j hj => (show H13[j]? = H12[j]? by rw [hH13, List.getElem?_append_left (by omega)]).trans (fr j hj)
  have o118 : H13[118]? = some (.inl (0, 64, .inl (fun _ => 0))) := by rw [hH13]; exact app_n hn
  have hn : H13.length = 119 := by rw [hH13, List.length_append, hn]; rfl
  refine ezs_put (fs' := [.int 0, .ref 112, .ref 113, .ref 114, .ref 115, .ref 116, .ref 117, .int 0, .int 0, .int 0, .ref 118, .int 0, .int 0, .int 0, .int 0, .int 0, .null, .null, .int 0, .null, .null, .null, .null, .long 0, .null, .null]) i116_57 ci116 fl8_28 o111 (by first | exact ⟨Nat.le_of_ble_eq_true rfl, rfl, Or.inl rfl⟩ | exact ⟨Nat.le_of_ble_eq_true rfl, rfl, Or.inr ⟨by decide +kernel, by decide +kernel⟩⟩) rfl (fun H14 hH14 => ?_)
  have o111 : H14[111]? = some (.inr (8, [.int 0, .ref 112, .ref 113, .ref 114, .ref 115, .ref 116, .ref 117, .int 0, .int 0, .int 0, .ref 118, .int 0, .int 0, .int 0, .int 0, .int 0, .null, .null, .int 0, .null, .null, .null, .null, .long 0, .null, .null])) := by rw [hH14]; exact set_self o111
  have o112 : H14[112]? = some (.inl (0, 6, .inl (fun _ => 0))) := by rw [hH14]; exact set_ne o112 (by omega)
  have o113 : H14[113]? = some (.inl (0, 6, .inl (fun _ => 0))) := by rw [hH14]; exact set_ne o113 (by omega)
  have o114 : H14[114]? = some (.inl (0, 54, .inl (fun _ => 0))) := by rw [hH14]; exact set_ne o114 (by omega)
  have o115 : H14[115]? = some (.inl (0, 27, .inl (fun _ => 0))) := by rw [hH14]; exact set_ne o115 (by omega)
  have o116 : H14[116]? = some (.inl (0, 6, .inl (fun _ => 0))) := by rw [hH14]; exact set_ne o116 (by omega)
  have o117 : H14[117]? = some (.inl (0, 6, .inl (fun _ => 0))) := by rw [hH14]; exact set_ne o117 (by omega)
  have o118 : H14[118]? = some (.inl (0, 64, .inl (fun _ => 0))) := by rw [hH14]; exact set_ne o118 (by omega)
  have fr : ∀ j, j < 111 → H14[j]? = H[j]? := fun j hj => (show H14[j]? = H13[j]? by rw [hH14, List.getElem?_set_ne (by omega)]).trans (fr j hj)
  have hn : H14.length = 119 := by rw [hH14, List.length_set]; exact hn
  refine ez_aload_n i116_60 rfl ?_
  refine ez_sipush (v := nI 378) i116_61 (by decide) ?_
  refine ez_nwI i116_64 (by omega) hn (fun H15 hH15 => ?_)
  have o111 : H15[111]? = some (.inr (8, [.int 0, .ref 112, .ref 113, .ref 114, .ref 115, .ref 116, .ref 117, .int 0, .int 0, .int 0, .ref 118, .int 0, .int 0, .int 0, .int 0, .int 0, .null, .null, .int 0, .null, .null, .null, .null, .long 0, .null, .null])) := by rw [hH15]; exact app_l o111
  have o112 : H15[112]? = some (.inl (0, 6, .inl (fun _ => 0))) := by rw [hH15]; exact app_l o112
  have o113 : H15[113]? = some (.inl (0, 6, .inl (fun _ => 0))) := by rw [hH15]; exact app_l o113
  have o114 : H15[114]? = some (.inl (0, 54, .inl (fun _ => 0))) := by rw [hH15]; exact app_l o114
  have o115 : H15[115]? = some (.inl (0, 27, .inl (fun _ => 0))) := by rw [hH15]; exact app_l o115
  have o116 : H15[116]? = some (.inl (0, 6, .inl (fun _ => 0))) := by rw [hH15]; exact app_l o116
  have o117 : H15[117]? = some (.inl (0, 6, .inl (fun _ => 0))) := by rw [hH15]; exact app_l o117
  have o118 : H15[118]? = some (.inl (0, 64, .inl (fun _ => 0))) := by rw [hH15]; exact app_l o118
  have fr : ∀ j, j < 111 → H15[j]? = H[j]? := fun j hj => (show H15[j]? = H14[j]? by rw [hH15, List.getElem?_append_left (by omega)]).trans (fr j hj)
  have o119 : H15[119]? = some (.inl (0, 378, .inl (fun _ => 0))) := by rw [hH15]; exact app_n hn
  have hn : H15.length = 120 := by rw [hH15, List.length_append, hn]; rfl
  refine ezs_put (fs' := [.int 0, .ref 112, .ref 113, .ref 114, .ref 115, .ref 116, .ref 117, .int 0, .int 0, .int 0, .ref 118, .int 0, .int 0, .int 0, .int 0, .int 0, .ref 119, .null, .int 0, .null, .null, .null, .null, .long 0, .null, .null]) i116_66 ci116 fl8_31 o111 (by first | exact ⟨Nat.le_of_ble_eq_true rfl, rfl, Or.inl rfl⟩ | exact ⟨Nat.le_of_ble_eq_true rfl, rfl, Or.inr ⟨by decide +kernel, by decide +kernel⟩⟩) rfl (fun H16 hH16 => ?_)
  have o111 : H16[111]? = some (.inr (8, [.int 0, .ref 112, .ref 113, .ref 114, .ref 115, .ref 116, .ref 117, .int 0, .int 0, .int 0, .ref 118, .int 0, .int 0, .int 0, .int 0, .int 0, .ref 119, .null, .int 0, .null, .null, .null, .null, .long 0, .null, .null])) := by rw [hH16]; exact set_self o111
  have o112 : H16[112]? = some (.inl (0, 6, .inl (fun _ => 0))) := by rw [hH16]; exact set_ne o112 (by omega)
  have o113 : H16[113]? = some (.inl (0, 6, .inl (fun _ => 0))) := by rw [hH16]; exact set_ne o113 (by omega)
  have o114 : H16[114]? = some (.inl (0, 54, .inl (fun _ => 0))) := by rw [hH16]; exact set_ne o114 (by omega)
  have o115 : H16[115]? = some (.inl (0, 27, .inl (fun _ => 0))) := by rw [hH16]; exact set_ne o115 (by omega)
  have o116 : H16[116]? = some (.inl (0, 6, .inl (fun _ => 0))) := by rw [hH16]; exact set_ne o116 (by omega)
  have o117 : H16[117]? = some (.inl (0, 6, .inl (fun _ => 0))) := by rw [hH16]; exact set_ne o117 (by omega)
  have o118 : H16[118]? = some (.inl (0, 64, .inl (fun _ => 0))) := by rw [hH16]; exact set_ne o118 (by omega)
  have o119 : H16[119]? = some (.inl (0, 378, .inl (fun _ => 0))) := by rw [hH16]; exact set_ne o119 (by omega)
  have fr : ∀ j, j < 111 → H16[j]? = H[j]? := fun j hj => (show H16[j]? = H15[j]? by rw [hH16, List.getElem?_set_ne (by omega)]).trans (fr j hj)
  have hn : H16.length = 120 := by rw [hH16, List.length_set]; exact hn
  refine ez_aload_n i116_69 rfl ?_
  refine ez_bipush (v := nI 64) i116_70 (by decide) ?_
  refine ez_nwI i116_72 (by omega) hn (fun H17 hH17 => ?_)
  have o111 : H17[111]? = some (.inr (8, [.int 0, .ref 112, .ref 113, .ref 114, .ref 115, .ref 116, .ref 117, .int 0, .int 0, .int 0, .ref 118, .int 0, .int 0, .int 0, .int 0, .int 0, .ref 119, .null, .int 0, .null, .null, .null, .null, .long 0, .null, .null])) := by rw [hH17]; exact app_l o111
  have o112 : H17[112]? = some (.inl (0, 6, .inl (fun _ => 0))) := by rw [hH17]; exact app_l o112
  have o113 : H17[113]? = some (.inl (0, 6, .inl (fun _ => 0))) := by rw [hH17]; exact app_l o113
  have o114 : H17[114]? = some (.inl (0, 54, .inl (fun _ => 0))) := by rw [hH17]; exact app_l o114
  have o115 : H17[115]? = some (.inl (0, 27, .inl (fun _ => 0))) := by rw [hH17]; exact app_l o115
  have o116 : H17[116]? = some (.inl (0, 6, .inl (fun _ => 0))) := by rw [hH17]; exact app_l o116
  have o117 : H17[117]? = some (.inl (0, 6, .inl (fun _ => 0))) := by rw [hH17]; exact app_l o117
  have o118 : H17[118]? = some (.inl (0, 64, .inl (fun _ => 0))) := by rw [hH17]; exact app_l o118
  have o119 : H17[119]? = some (.inl (0, 378, .inl (fun _ => 0))) := by rw [hH17]; exact app_l o119
  have fr : ∀ j, j < 111 → H17[j]? = H[j]? := fun j hj => (show H17[j]? = H16[j]? by rw [hH17, List.getElem?_append_left (by omega)]).trans (fr j hj)
  have o120 : H17[120]? = some (.inl (0, 64, .inl (fun _ => 0))) := by rw [hH17]; exact app_n hn
  have hn : H17.length = 121 := by rw [hH17, List.length_append, hn]; rfl
  refine ezs_put (fs' := [.int 0, .ref 112, .ref 113, .ref 114, .ref 115, .ref 116, .ref 117, .int 0, .int 0, .int 0, .ref 118, .int 0, .int 0, .int 0, .int 0, .int 0, .ref 119, .ref 120, .int 0, .null, .null, .null, .null, .long 0, .null, .null]) i116_74 ci116 fl8_34 o111 (by first | exact ⟨Nat.le_of_ble_eq_true rfl, rfl, Or.inl rfl⟩ | exact ⟨Nat.le_of_ble_eq_true rfl, rfl, Or.inr ⟨by decide +kernel, by decide +kernel⟩⟩) rfl (fun H18 hH18 => ?_)
  have o111 : H18[111]? = some (.inr (8, [.int 0, .ref 112, .ref 113, .ref 114, .ref 115, .ref 116, .ref 117, .int 0, .int 0, .int 0, .ref 118, .int 0, .int 0, .int 0, .int 0, .int 0, .ref 119, .ref 120, .int 0, .null, .null, .null, .null, .long 0, .null, .null])) := by rw [hH18]; exact set_self o111
  have o112 : H18[112]? = some (.inl (0, 6, .inl (fun _ => 0))) := by rw [hH18]; exact set_ne o112 (by omega)
  have o113 : H18[113]? = some (.inl (0, 6, .inl (fun _ => 0))) := by rw [hH18]; exact set_ne o113 (by omega)
  have o114 : H18[114]? = some (.inl (0, 54, .inl (fun _ => 0))) := by rw [hH18]; exact set_ne o114 (by omega)
  have o115 : H18[115]? = some (.inl (0, 27, .inl (fun _ => 0))) := by rw [hH18]; exact set_ne o115 (by omega)
  have o116 : H18[116]? = some (.inl (0, 6, .inl (fun _ => 0))) := by rw [hH18]; exact set_ne o116 (by omega)
  have o117 : H18[117]? = some (.inl (0, 6, .inl (fun _ => 0))) := by rw [hH18]; exact set_ne o117 (by omega)
  have o118 : H18[118]? = some (.inl (0, 64, .inl (fun _ => 0))) := by rw [hH18]; exact set_ne o118 (by omega)
  have o119 : H18[119]? = some (.inl (0, 378, .inl (fun _ => 0))) := by rw [hH18]; exact set_ne o119 (by omega)
  have o120 : H18[120]? = some (.inl (0, 64, .inl (fun _ => 0))) := by rw [hH18]; exact set_ne o120 (by omega)
  have fr : ∀ j, j < 111 → H18[j]? = H[j]? := fun j hj => (show H18[j]? = H17[j]? by rw [hH18, List.getElem?_set_ne (by omega)]).trans (fr j hj)
  have hn : H18.length = 121 := by rw [hH18, List.length_set]; exact hn
  refine ez_aload_n i116_77 rfl ?_
  refine ez_bipush (v := nI 6) i116_78 (by decide) ?_
  refine ez_nwI i116_80 (by omega) hn (fun H19 hH19 => ?_)
  have o111 : H19[111]? = some (.inr (8, [.int 0, .ref 112, .ref 113, .ref 114, .ref 115, .ref 116, .ref 117, .int 0, .int 0, .int 0, .ref 118, .int 0, .int 0, .int 0, .int 0, .int 0, .ref 119, .ref 120, .int 0, .null, .null, .null, .null, .long 0, .null, .null])) := by rw [hH19]; exact app_l o111
  have o112 : H19[112]? = some (.inl (0, 6, .inl (fun _ => 0))) := by rw [hH19]; exact app_l o112
  have o113 : H19[113]? = some (.inl (0, 6, .inl (fun _ => 0))) := by rw [hH19]; exact app_l o113
  have o114 : H19[114]? = some (.inl (0, 54, .inl (fun _ => 0))) := by rw [hH19]; exact app_l o114
  have o115 : H19[115]? = some (.inl (0, 27, .inl (fun _ => 0))) := by rw [hH19]; exact app_l o115
  have o116 : H19[116]? = some (.inl (0, 6, .inl (fun _ => 0))) := by rw [hH19]; exact app_l o116
  have o117 : H19[117]? = some (.inl (0, 6, .inl (fun _ => 0))) := by rw [hH19]; exact app_l o117
  have o118 : H19[118]? = some (.inl (0, 64, .inl (fun _ => 0))) := by rw [hH19]; exact app_l o118
  have o119 : H19[119]? = some (.inl (0, 378, .inl (fun _ => 0))) := by rw [hH19]; exact app_l o119
  have o120 : H19[120]? = some (.inl (0, 64, .inl (fun _ => 0))) := by rw [hH19]; exact app_l o120
  have fr : ∀ j, j < 111 → H19[j]? = H[j]? := fun j hj => (show H19[j]? = H18[j]? by rw [hH19, List.getElem?_append_left (by omega)]).trans (fr j hj)
  have o121 : H19[121]? = some (.inl (0, 6, .inl (fun _ => 0))) := by rw [hH19]; exact app_n hn
  have hn : H19.length = 122 := by rw [hH19, List.length_append, hn]; rfl
  refine ezs_put (fs' := [.int 0, .ref 112, .ref 113, .ref 114, .ref 115, .ref 116, .ref 117, .int 0, .int 0, .int 0, .ref 118, .int 0, .int 0, .int 0, .int 0, .int 0, .ref 119, .ref 120, .int 0, .ref 121, .null, .null, .null, .long 0, .null, .null]) i116_82 ci116 fl8_37 o111 (by first | exact ⟨Nat.le_of_ble_eq_true rfl, rfl, Or.inl rfl⟩ | exact ⟨Nat.le_of_ble_eq_true rfl, rfl, Or.inr ⟨by decide +kernel, by decide +kernel⟩⟩) rfl (fun H20 hH20 => ?_)
  have o111 : H20[111]? = some (.inr (8, [.int 0, .ref 112, .ref 113, .ref 114, .ref 115, .ref 116, .ref 117, .int 0, .int 0, .int 0, .ref 118, .int 0, .int 0, .int 0, .int 0, .int 0, .ref 119, .ref 120, .int 0, .ref 121, .null, .null, .null, .long 0, .null, .null])) := by rw [hH20]; exact set_self o111
  have o112 : H20[112]? = some (.inl (0, 6, .inl (fun _ => 0))) := by rw [hH20]; exact set_ne o112 (by omega)
  have o113 : H20[113]? = some (.inl (0, 6, .inl (fun _ => 0))) := by rw [hH20]; exact set_ne o113 (by omega)
  have o114 : H20[114]? = some (.inl (0, 54, .inl (fun _ => 0))) := by rw [hH20]; exact set_ne o114 (by omega)
  have o115 : H20[115]? = some (.inl (0, 27, .inl (fun _ => 0))) := by rw [hH20]; exact set_ne o115 (by omega)
  have o116 : H20[116]? = some (.inl (0, 6, .inl (fun _ => 0))) := by rw [hH20]; exact set_ne o116 (by omega)
  have o117 : H20[117]? = some (.inl (0, 6, .inl (fun _ => 0))) := by rw [hH20]; exact set_ne o117 (by omega)
  have o118 : H20[118]? = some (.inl (0, 64, .inl (fun _ => 0))) := by rw [hH20]; exact set_ne o118 (by omega)
  have o119 : H20[119]? = some (.inl (0, 378, .inl (fun _ => 0))) := by rw [hH20]; exact set_ne o119 (by omega)
  have o120 : H20[120]? = some (.inl (0, 64, .inl (fun _ => 0))) := by rw [hH20]; exact set_ne o120 (by omega)
  have o121 : H20[121]? = some (.inl (0, 6, .inl (fun _ => 0))) := by rw [hH20]; exact set_ne o121 (by omega)
  have fr : ∀ j, j < 111 → H20[j]? = H[j]? := fun j hj => (show H20[j]? = H19[j]? by rw [hH20, List.getElem?_set_ne (by omega)]).trans (fr j hj)
  have hn : H20.length = 122 := by rw [hH20, List.length_set]; exact hn
  refine ez_aload_n i116_85 rfl ?_
  refine ez_bipush (v := nI 6) i116_86 (by decide) ?_
  refine ez_nwI i116_88 (by omega) hn (fun H21 hH21 => ?_)
  have o111 : H21[111]? = some (.inr (8, [.int 0, .ref 112, .ref 113, .ref 114, .ref 115, .ref 116, .ref 117, .int 0, .int 0, .int 0, .ref 118, .int 0, .int 0, .int 0, .int 0, .int 0, .ref 119, .ref 120, .int 0, .ref 121, .null, .null, .null, .long 0, .null, .null])) := by rw [hH21]; exact app_l o111
  have o112 : H21[112]? = some (.inl (0, 6, .inl (fun _ => 0))) := by rw [hH21]; exact app_l o112
  have o113 : H21[113]? = some (.inl (0, 6, .inl (fun _ => 0))) := by rw [hH21]; exact app_l o113
  have o114 : H21[114]? = some (.inl (0, 54, .inl (fun _ => 0))) := by rw [hH21]; exact app_l o114
  have o115 : H21[115]? = some (.inl (0, 27, .inl (fun _ => 0))) := by rw [hH21]; exact app_l o115
  have o116 : H21[116]? = some (.inl (0, 6, .inl (fun _ => 0))) := by rw [hH21]; exact app_l o116
  have o117 : H21[117]? = some (.inl (0, 6, .inl (fun _ => 0))) := by rw [hH21]; exact app_l o117
  have o118 : H21[118]? = some (.inl (0, 64, .inl (fun _ => 0))) := by rw [hH21]; exact app_l o118
  have o119 : H21[119]? = some (.inl (0, 378, .inl (fun _ => 0))) := by rw [hH21]; exact app_l o119
  have o120 : H21[120]? = some (.inl (0, 64, .inl (fun _ => 0))) := by rw [hH21]; exact app_l o120
  have o121 : H21[121]? = some (.inl (0, 6, .inl (fun _ => 0))) := by rw [hH21]; exact app_l o121
  have fr : ∀ j, j < 111 → H21[j]? = H[j]? := fun j hj => (show H21[j]? = H20[j]? by rw [hH21, List.getElem?_append_left (by omega)]).trans (fr j hj)
  have o122 : H21[122]? = some (.inl (0, 6, .inl (fun _ => 0))) := by rw [hH21]; exact app_n hn
  have hn : H21.length = 123 := by rw [hH21, List.length_append, hn]; rfl
  refine ezs_put (fs' := [.int 0, .ref 112, .ref 113, .ref 114, .ref 115, .ref 116, .ref 117, .int 0, .int 0, .int 0, .ref 118, .int 0, .int 0, .int 0, .int 0, .int 0, .ref 119, .ref 120, .int 0, .ref 121, .ref 122, .null, .null, .long 0, .null, .null]) i116_90 ci116 fl8_40 o111 (by first | exact ⟨Nat.le_of_ble_eq_true rfl, rfl, Or.inl rfl⟩ | exact ⟨Nat.le_of_ble_eq_true rfl, rfl, Or.inr ⟨by decide +kernel, by decide +kernel⟩⟩) rfl (fun H22 hH22 => ?_)
  have o111 : H22[111]? = some (.inr (8, [.int 0, .ref 112, .ref 113, .ref 114, .ref 115, .ref 116, .ref 117, .int 0, .int 0, .int 0, .ref 118, .int 0, .int 0, .int 0, .int 0, .int 0, .ref 119, .ref 120, .int 0, .ref 121, .ref 122, .null, .null, .long 0, .null, .null])) := by rw [hH22]; exact set_self o111
  have o112 : H22[112]? = some (.inl (0, 6, .inl (fun _ => 0))) := by rw [hH22]; exact set_ne o112 (by omega)
  have o113 : H22[113]? = some (.inl (0, 6, .inl (fun _ => 0))) := by rw [hH22]; exact set_ne o113 (by omega)
  have o114 : H22[114]? = some (.inl (0, 54, .inl (fun _ => 0))) := by rw [hH22]; exact set_ne o114 (by omega)
  have o115 : H22[115]? = some (.inl (0, 27, .inl (fun _ => 0))) := by rw [hH22]; exact set_ne o115 (by omega)
  have o116 : H22[116]? = some (.inl (0, 6, .inl (fun _ => 0))) := by rw [hH22]; exact set_ne o116 (by omega)
  have o117 : H22[117]? = some (.inl (0, 6, .inl (fun _ => 0))) := by rw [hH22]; exact set_ne o117 (by omega)
  have o118 : H22[118]? = some (.inl (0, 64, .inl (fun _ => 0))) := by rw [hH22]; exact set_ne o118 (by omega)
  have o119 : H22[119]? = some (.inl (0, 378, .inl (fun _ => 0))) := by rw [hH22]; exact set_ne o119 (by omega)
  have o120 : H22[120]? = some (.inl (0, 64, .inl (fun _ => 0))) := by rw [hH22]; exact set_ne o120 (by omega)
  have o121 : H22[121]? = some (.inl (0, 6, .inl (fun _ => 0))) := by rw [hH22]; exact set_ne o121 (by omega)
  have o122 : H22[122]? = some (.inl (0, 6, .inl (fun _ => 0))) := by rw [hH22]; exact set_ne o122 (by omega)
  have fr : ∀ j, j < 111 → H22[j]? = H[j]? := fun j hj => (show H22[j]? = H21[j]? by rw [hH22, List.getElem?_set_ne (by omega)]).trans (fr j hj)
  have hn : H22.length = 123 := by rw [hH22, List.length_set]; exact hn
  refine ez_aload_n i116_93 rfl ?_
  refine ez_bipush (v := nI 6) i116_94 (by decide) ?_
  refine ez_nwZ i116_96 (by omega) hn (fun H23 hH23 => ?_)
  have o111 : H23[111]? = some (.inr (8, [.int 0, .ref 112, .ref 113, .ref 114, .ref 115, .ref 116, .ref 117, .int 0, .int 0, .int 0, .ref 118, .int 0, .int 0, .int 0, .int 0, .int 0, .ref 119, .ref 120, .int 0, .ref 121, .ref 122, .null, .null, .long 0, .null, .null])) := by rw [hH23]; exact app_l o111
  have o112 : H23[112]? = some (.inl (0, 6, .inl (fun _ => 0))) := by rw [hH23]; exact app_l o112
  have o113 : H23[113]? = some (.inl (0, 6, .inl (fun _ => 0))) := by rw [hH23]; exact app_l o113
  have o114 : H23[114]? = some (.inl (0, 54, .inl (fun _ => 0))) := by rw [hH23]; exact app_l o114
  have o115 : H23[115]? = some (.inl (0, 27, .inl (fun _ => 0))) := by rw [hH23]; exact app_l o115
  have o116 : H23[116]? = some (.inl (0, 6, .inl (fun _ => 0))) := by rw [hH23]; exact app_l o116
  have o117 : H23[117]? = some (.inl (0, 6, .inl (fun _ => 0))) := by rw [hH23]; exact app_l o117
  have o118 : H23[118]? = some (.inl (0, 64, .inl (fun _ => 0))) := by rw [hH23]; exact app_l o118
  have o119 : H23[119]? = some (.inl (0, 378, .inl (fun _ => 0))) := by rw [hH23]; exact app_l o119
  have o120 : H23[120]? = some (.inl (0, 64, .inl (fun _ => 0))) := by rw [hH23]; exact app_l o120
  have o121 : H23[121]? = some (.inl (0, 6, .inl (fun _ => 0))) := by rw [hH23]; exact app_l o121
  have o122 : H23[122]? = some (.inl (0, 6, .inl (fun _ => 0))) := by rw [hH23]; exact app_l o122
  have fr : ∀ j, j < 111 → H23[j]? = H[j]? := fun j hj => (show H23[j]? = H22[j]? by rw [hH23, List.getElem?_append_left (by omega)]).trans (fr j hj)
  have o123 : H23[123]? = some (.inl (1, 6, .inl (fun _ => 0))) := by rw [hH23]; exact app_n hn
  have hn : H23.length = 124 := by rw [hH23, List.length_append, hn]; rfl
  refine ezs_put (fs' := [.int 0, .ref 112, .ref 113, .ref 114, .ref 115, .ref 116, .ref 117, .int 0, .int 0, .int 0, .ref 118, .int 0, .int 0, .int 0, .int 0, .int 0, .ref 119, .ref 120, .int 0, .ref 121, .ref 122, .ref 123, .null, .long 0, .null, .null]) i116_98 ci116 fl8_43 o111 (by first | exact ⟨Nat.le_of_ble_eq_true rfl, rfl, Or.inl rfl⟩ | exact ⟨Nat.le_of_ble_eq_true rfl, rfl, Or.inr ⟨by decide +kernel, by decide +kernel⟩⟩) rfl (fun H24 hH24 => ?_)
  have o111 : H24[111]? = some (.inr (8, [.int 0, .ref 112, .ref 113, .ref 114, .ref 115, .ref 116, .ref 117, .int 0, .int 0, .int 0, .ref 118, .int 0, .int 0, .int 0, .int 0, .int 0, .ref 119, .ref 120, .int 0, .ref 121, .ref 122, .ref 123, .null, .long 0, .null, .null])) := by rw [hH24]; exact set_self o111
  have o112 : H24[112]? = some (.inl (0, 6, .inl (fun _ => 0))) := by rw [hH24]; exact set_ne o112 (by omega)
  have o113 : H24[113]? = some (.inl (0, 6, .inl (fun _ => 0))) := by rw [hH24]; exact set_ne o113 (by omega)
  have o114 : H24[114]? = some (.inl (0, 54, .inl (fun _ => 0))) := by rw [hH24]; exact set_ne o114 (by omega)
  have o115 : H24[115]? = some (.inl (0, 27, .inl (fun _ => 0))) := by rw [hH24]; exact set_ne o115 (by omega)
  have o116 : H24[116]? = some (.inl (0, 6, .inl (fun _ => 0))) := by rw [hH24]; exact set_ne o116 (by omega)
  have o117 : H24[117]? = some (.inl (0, 6, .inl (fun _ => 0))) := by rw [hH24]; exact set_ne o117 (by omega)
  have o118 : H24[118]? = some (.inl (0, 64, .inl (fun _ => 0))) := by rw [hH24]; exact set_ne o118 (by omega)
  have o119 : H24[119]? = some (.inl (0, 378, .inl (fun _ => 0))) := by rw [hH24]; exact set_ne o119 (by omega)
  have o120 : H24[120]? = some (.inl (0, 64, .inl (fun _ => 0))) := by rw [hH24]; exact set_ne o120 (by omega)
  have o121 : H24[121]? = some (.inl (0, 6, .inl (fun _ => 0))) := by rw [hH24]; exact set_ne o121 (by omega)
  have o122 : H24[122]? = some (.inl (0, 6, .inl (fun _ => 0))) := by rw [hH24]; exact set_ne o122 (by omega)
  have o123 : H24[123]? = some (.inl (1, 6, .inl (fun _ => 0))) := by rw [hH24]; exact set_ne o123 (by omega)
  have fr : ∀ j, j < 111 → H24[j]? = H[j]? := fun j hj => (show H24[j]? = H23[j]? by rw [hH24, List.getElem?_set_ne (by omega)]).trans (fr j hj)
  have hn : H24.length = 124 := by rw [hH24, List.length_set]; exact hn
  refine ez_aload_n i116_101 rfl ?_
  refine ez_sipush (v := nI 3721) i116_102 (by decide) ?_
  refine ez_nwI i116_105 (by omega) hn (fun H25 hH25 => ?_)
  have o111 : H25[111]? = some (.inr (8, [.int 0, .ref 112, .ref 113, .ref 114, .ref 115, .ref 116, .ref 117, .int 0, .int 0, .int 0, .ref 118, .int 0, .int 0, .int 0, .int 0, .int 0, .ref 119, .ref 120, .int 0, .ref 121, .ref 122, .ref 123, .null, .long 0, .null, .null])) := by rw [hH25]; exact app_l o111
  have o112 : H25[112]? = some (.inl (0, 6, .inl (fun _ => 0))) := by rw [hH25]; exact app_l o112
  have o113 : H25[113]? = some (.inl (0, 6, .inl (fun _ => 0))) := by rw [hH25]; exact app_l o113
  have o114 : H25[114]? = some (.inl (0, 54, .inl (fun _ => 0))) := by rw [hH25]; exact app_l o114
  have o115 : H25[115]? = some (.inl (0, 27, .inl (fun _ => 0))) := by rw [hH25]; exact app_l o115
  have o116 : H25[116]? = some (.inl (0, 6, .inl (fun _ => 0))) := by rw [hH25]; exact app_l o116
  have o117 : H25[117]? = some (.inl (0, 6, .inl (fun _ => 0))) := by rw [hH25]; exact app_l o117
  have o118 : H25[118]? = some (.inl (0, 64, .inl (fun _ => 0))) := by rw [hH25]; exact app_l o118
  have o119 : H25[119]? = some (.inl (0, 378, .inl (fun _ => 0))) := by rw [hH25]; exact app_l o119
  have o120 : H25[120]? = some (.inl (0, 64, .inl (fun _ => 0))) := by rw [hH25]; exact app_l o120
  have o121 : H25[121]? = some (.inl (0, 6, .inl (fun _ => 0))) := by rw [hH25]; exact app_l o121
  have o122 : H25[122]? = some (.inl (0, 6, .inl (fun _ => 0))) := by rw [hH25]; exact app_l o122
  have o123 : H25[123]? = some (.inl (1, 6, .inl (fun _ => 0))) := by rw [hH25]; exact app_l o123
  have fr : ∀ j, j < 111 → H25[j]? = H[j]? := fun j hj => (show H25[j]? = H24[j]? by rw [hH25, List.getElem?_append_left (by omega)]).trans (fr j hj)
  have o124 : H25[124]? = some (.inl (0, 3721, .inl (fun _ => 0))) := by rw [hH25]; exact app_n hn
  have hn : H25.length = 125 := by rw [hH25, List.length_append, hn]; rfl
  refine ezs_put (fs' := [.int 0, .ref 112, .ref 113, .ref 114, .ref 115, .ref 116, .ref 117, .int 0, .int 0, .int 0, .ref 118, .int 0, .int 0, .int 0, .int 0, .int 0, .ref 119, .ref 120, .int 0, .ref 121, .ref 122, .ref 123, .ref 124, .long 0, .null, .null]) i116_107 ci116 fl8_47 o111 (by first | exact ⟨Nat.le_of_ble_eq_true rfl, rfl, Or.inl rfl⟩ | exact ⟨Nat.le_of_ble_eq_true rfl, rfl, Or.inr ⟨by decide +kernel, by decide +kernel⟩⟩) rfl (fun H26 hH26 => ?_)
  have o111 : H26[111]? = some (.inr (8, [.int 0, .ref 112, .ref 113, .ref 114, .ref 115, .ref 116, .ref 117, .int 0, .int 0, .int 0, .ref 118, .int 0, .int 0, .int 0, .int 0, .int 0, .ref 119, .ref 120, .int 0, .ref 121, .ref 122, .ref 123, .ref 124, .long 0, .null, .null])) := by rw [hH26]; exact set_self o111
  have o112 : H26[112]? = some (.inl (0, 6, .inl (fun _ => 0))) := by rw [hH26]; exact set_ne o112 (by omega)
  have o113 : H26[113]? = some (.inl (0, 6, .inl (fun _ => 0))) := by rw [hH26]; exact set_ne o113 (by omega)
  have o114 : H26[114]? = some (.inl (0, 54, .inl (fun _ => 0))) := by rw [hH26]; exact set_ne o114 (by omega)
  have o115 : H26[115]? = some (.inl (0, 27, .inl (fun _ => 0))) := by rw [hH26]; exact set_ne o115 (by omega)
  have o116 : H26[116]? = some (.inl (0, 6, .inl (fun _ => 0))) := by rw [hH26]; exact set_ne o116 (by omega)
  have o117 : H26[117]? = some (.inl (0, 6, .inl (fun _ => 0))) := by rw [hH26]; exact set_ne o117 (by omega)
  have o118 : H26[118]? = some (.inl (0, 64, .inl (fun _ => 0))) := by rw [hH26]; exact set_ne o118 (by omega)
  have o119 : H26[119]? = some (.inl (0, 378, .inl (fun _ => 0))) := by rw [hH26]; exact set_ne o119 (by omega)
  have o120 : H26[120]? = some (.inl (0, 64, .inl (fun _ => 0))) := by rw [hH26]; exact set_ne o120 (by omega)
  have o121 : H26[121]? = some (.inl (0, 6, .inl (fun _ => 0))) := by rw [hH26]; exact set_ne o121 (by omega)
  have o122 : H26[122]? = some (.inl (0, 6, .inl (fun _ => 0))) := by rw [hH26]; exact set_ne o122 (by omega)
  have o123 : H26[123]? = some (.inl (1, 6, .inl (fun _ => 0))) := by rw [hH26]; exact set_ne o123 (by omega)
  have o124 : H26[124]? = some (.inl (0, 3721, .inl (fun _ => 0))) := by rw [hH26]; exact set_ne o124 (by omega)
  have fr : ∀ j, j < 111 → H26[j]? = H[j]? := fun j hj => (show H26[j]? = H25[j]? by rw [hH26, List.getElem?_set_ne (by omega)]).trans (fr j hj)
  have hn : H26.length = 125 := by rw [hH26, List.length_set]; exact hn
  refine ez_aload_n i116_110 rfl ?_
  refine ez_iconst (v := nI 2) i116_111 (by decide) ?_
  refine ez_nwZ i116_112 (by omega) hn (fun H27 hH27 => ?_)
  have o111 : H27[111]? = some (.inr (8, [.int 0, .ref 112, .ref 113, .ref 114, .ref 115, .ref 116, .ref 117, .int 0, .int 0, .int 0, .ref 118, .int 0, .int 0, .int 0, .int 0, .int 0, .ref 119, .ref 120, .int 0, .ref 121, .ref 122, .ref 123, .ref 124, .long 0, .null, .null])) := by rw [hH27]; exact app_l o111
  have o112 : H27[112]? = some (.inl (0, 6, .inl (fun _ => 0))) := by rw [hH27]; exact app_l o112
  have o113 : H27[113]? = some (.inl (0, 6, .inl (fun _ => 0))) := by rw [hH27]; exact app_l o113
  have o114 : H27[114]? = some (.inl (0, 54, .inl (fun _ => 0))) := by rw [hH27]; exact app_l o114
  have o115 : H27[115]? = some (.inl (0, 27, .inl (fun _ => 0))) := by rw [hH27]; exact app_l o115
  have o116 : H27[116]? = some (.inl (0, 6, .inl (fun _ => 0))) := by rw [hH27]; exact app_l o116
  have o117 : H27[117]? = some (.inl (0, 6, .inl (fun _ => 0))) := by rw [hH27]; exact app_l o117
  have o118 : H27[118]? = some (.inl (0, 64, .inl (fun _ => 0))) := by rw [hH27]; exact app_l o118
  have o119 : H27[119]? = some (.inl (0, 378, .inl (fun _ => 0))) := by rw [hH27]; exact app_l o119
  have o120 : H27[120]? = some (.inl (0, 64, .inl (fun _ => 0))) := by rw [hH27]; exact app_l o120
  have o121 : H27[121]? = some (.inl (0, 6, .inl (fun _ => 0))) := by rw [hH27]; exact app_l o121
  have o122 : H27[122]? = some (.inl (0, 6, .inl (fun _ => 0))) := by rw [hH27]; exact app_l o122
  have o123 : H27[123]? = some (.inl (1, 6, .inl (fun _ => 0))) := by rw [hH27]; exact app_l o123
  have o124 : H27[124]? = some (.inl (0, 3721, .inl (fun _ => 0))) := by rw [hH27]; exact app_l o124
  have fr : ∀ j, j < 111 → H27[j]? = H[j]? := fun j hj => (show H27[j]? = H26[j]? by rw [hH27, List.getElem?_append_left (by omega)]).trans (fr j hj)
  have o125 : H27[125]? = some (.inl (1, 2, .inl (fun _ => 0))) := by rw [hH27]; exact app_n hn
  have hn : H27.length = 126 := by rw [hH27, List.length_append, hn]; rfl
  refine ezs_put (fs' := [.int 0, .ref 112, .ref 113, .ref 114, .ref 115, .ref 116, .ref 117, .int 0, .int 0, .int 0, .ref 118, .int 0, .int 0, .int 0, .int 0, .int 0, .ref 119, .ref 120, .int 0, .ref 121, .ref 122, .ref 123, .ref 124, .long 0, .ref 125, .null]) i116_114 ci116 fl8_50 o111 (by first | exact ⟨Nat.le_of_ble_eq_true rfl, rfl, Or.inl rfl⟩ | exact ⟨Nat.le_of_ble_eq_true rfl, rfl, Or.inr ⟨by decide +kernel, by decide +kernel⟩⟩) rfl (fun H28 hH28 => ?_)
  have o111 : H28[111]? = some (.inr (8, [.int 0, .ref 112, .ref 113, .ref 114, .ref 115, .ref 116, .ref 117, .int 0, .int 0, .int 0, .ref 118, .int 0, .int 0, .int 0, .int 0, .int 0, .ref 119, .ref 120, .int 0, .ref 121, .ref 122, .ref 123, .ref 124, .long 0, .ref 125, .null])) := by rw [hH28]; exact set_self o111
  have o112 : H28[112]? = some (.inl (0, 6, .inl (fun _ => 0))) := by rw [hH28]; exact set_ne o112 (by omega)
  have o113 : H28[113]? = some (.inl (0, 6, .inl (fun _ => 0))) := by rw [hH28]; exact set_ne o113 (by omega)
  have o114 : H28[114]? = some (.inl (0, 54, .inl (fun _ => 0))) := by rw [hH28]; exact set_ne o114 (by omega)
  have o115 : H28[115]? = some (.inl (0, 27, .inl (fun _ => 0))) := by rw [hH28]; exact set_ne o115 (by omega)
  have o116 : H28[116]? = some (.inl (0, 6, .inl (fun _ => 0))) := by rw [hH28]; exact set_ne o116 (by omega)
  have o117 : H28[117]? = some (.inl (0, 6, .inl (fun _ => 0))) := by rw [hH28]; exact set_ne o117 (by omega)
  have o118 : H28[118]? = some (.inl (0, 64, .inl (fun _ => 0))) := by rw [hH28]; exact set_ne o118 (by omega)
  have o119 : H28[119]? = some (.inl (0, 378, .inl (fun _ => 0))) := by rw [hH28]; exact set_ne o119 (by omega)
  have o120 : H28[120]? = some (.inl (0, 64, .inl (fun _ => 0))) := by rw [hH28]; exact set_ne o120 (by omega)
  have o121 : H28[121]? = some (.inl (0, 6, .inl (fun _ => 0))) := by rw [hH28]; exact set_ne o121 (by omega)
  have o122 : H28[122]? = some (.inl (0, 6, .inl (fun _ => 0))) := by rw [hH28]; exact set_ne o122 (by omega)
  have o123 : H28[123]? = some (.inl (1, 6, .inl (fun _ => 0))) := by rw [hH28]; exact set_ne o123 (by omega)
  have o124 : H28[124]? = some (.inl (0, 3721, .inl (fun _ => 0))) := by rw [hH28]; exact set_ne o124 (by omega)
  have o125 : H28[125]? = some (.inl (1, 2, .inl (fun _ => 0))) := by rw [hH28]; exact set_ne o125 (by omega)
  have fr : ∀ j, j < 111 → H28[j]? = H[j]? := fun j hj => (show H28[j]? = H27[j]? by rw [hH28, List.getElem?_set_ne (by omega)]).trans (fr j hj)
  have hn : H28.length = 126 := by rw [hH28, List.length_set]; exact hn
  refine ez_aload_n i116_117 rfl ?_
  refine ez_bipush (v := nI 54) i116_118 (by decide) ?_
  refine ez_nwI i116_120 (by omega) hn (fun H29 hH29 => ?_)
  have o111 : H29[111]? = some (.inr (8, [.int 0, .ref 112, .ref 113, .ref 114, .ref 115, .ref 116, .ref 117, .int 0, .int 0, .int 0, .ref 118, .int 0, .int 0, .int 0, .int 0, .int 0, .ref 119, .ref 120, .int 0, .ref 121, .ref 122, .ref 123, .ref 124, .long 0, .ref 125, .null])) := by rw [hH29]; exact app_l o111
  have o112 : H29[112]? = some (.inl (0, 6, .inl (fun _ => 0))) := by rw [hH29]; exact app_l o112
  have o113 : H29[113]? = some (.inl (0, 6, .inl (fun _ => 0))) := by rw [hH29]; exact app_l o113
  have o114 : H29[114]? = some (.inl (0, 54, .inl (fun _ => 0))) := by rw [hH29]; exact app_l o114
  have o115 : H29[115]? = some (.inl (0, 27, .inl (fun _ => 0))) := by rw [hH29]; exact app_l o115
  have o116 : H29[116]? = some (.inl (0, 6, .inl (fun _ => 0))) := by rw [hH29]; exact app_l o116
  have o117 : H29[117]? = some (.inl (0, 6, .inl (fun _ => 0))) := by rw [hH29]; exact app_l o117
  have o118 : H29[118]? = some (.inl (0, 64, .inl (fun _ => 0))) := by rw [hH29]; exact app_l o118
  have o119 : H29[119]? = some (.inl (0, 378, .inl (fun _ => 0))) := by rw [hH29]; exact app_l o119
  have o120 : H29[120]? = some (.inl (0, 64, .inl (fun _ => 0))) := by rw [hH29]; exact app_l o120
  have o121 : H29[121]? = some (.inl (0, 6, .inl (fun _ => 0))) := by rw [hH29]; exact app_l o121
  have o122 : H29[122]? = some (.inl (0, 6, .inl (fun _ => 0))) := by rw [hH29]; exact app_l o122
  have o123 : H29[123]? = some (.inl (1, 6, .inl (fun _ => 0))) := by rw [hH29]; exact app_l o123
  have o124 : H29[124]? = some (.inl (0, 3721, .inl (fun _ => 0))) := by rw [hH29]; exact app_l o124
  have o125 : H29[125]? = some (.inl (1, 2, .inl (fun _ => 0))) := by rw [hH29]; exact app_l o125
  have fr : ∀ j, j < 111 → H29[j]? = H[j]? := fun j hj => (show H29[j]? = H28[j]? by rw [hH29, List.getElem?_append_left (by omega)]).trans (fr j hj)
  have o126 : H29[126]? = some (.inl (0, 54, .inl (fun _ => 0))) := by rw [hH29]; exact app_n hn
  have hn : H29.length = 127 := by rw [hH29, List.length_append, hn]; rfl
  refine ezs_put (fs' := [.int 0, .ref 112, .ref 113, .ref 114, .ref 115, .ref 116, .ref 117, .int 0, .int 0, .int 0, .ref 118, .int 0, .int 0, .int 0, .int 0, .int 0, .ref 119, .ref 120, .int 0, .ref 121, .ref 122, .ref 123, .ref 124, .long 0, .ref 125, .ref 126]) i116_122 ci116 fl8_53 o111 (by first | exact ⟨Nat.le_of_ble_eq_true rfl, rfl, Or.inl rfl⟩ | exact ⟨Nat.le_of_ble_eq_true rfl, rfl, Or.inr ⟨by decide +kernel, by decide +kernel⟩⟩) rfl (fun H30 hH30 => ?_)
  have o111 : H30[111]? = some (.inr (8, [.int 0, .ref 112, .ref 113, .ref 114, .ref 115, .ref 116, .ref 117, .int 0, .int 0, .int 0, .ref 118, .int 0, .int 0, .int 0, .int 0, .int 0, .ref 119, .ref 120, .int 0, .ref 121, .ref 122, .ref 123, .ref 124, .long 0, .ref 125, .ref 126])) := by rw [hH30]; exact set_self o111
  have o112 : H30[112]? = some (.inl (0, 6, .inl (fun _ => 0))) := by rw [hH30]; exact set_ne o112 (by omega)
  have o113 : H30[113]? = some (.inl (0, 6, .inl (fun _ => 0))) := by rw [hH30]; exact set_ne o113 (by omega)
  have o114 : H30[114]? = some (.inl (0, 54, .inl (fun _ => 0))) := by rw [hH30]; exact set_ne o114 (by omega)
  have o115 : H30[115]? = some (.inl (0, 27, .inl (fun _ => 0))) := by rw [hH30]; exact set_ne o115 (by omega)
  have o116 : H30[116]? = some (.inl (0, 6, .inl (fun _ => 0))) := by rw [hH30]; exact set_ne o116 (by omega)
  have o117 : H30[117]? = some (.inl (0, 6, .inl (fun _ => 0))) := by rw [hH30]; exact set_ne o117 (by omega)
  have o118 : H30[118]? = some (.inl (0, 64, .inl (fun _ => 0))) := by rw [hH30]; exact set_ne o118 (by omega)
  have o119 : H30[119]? = some (.inl (0, 378, .inl (fun _ => 0))) := by rw [hH30]; exact set_ne o119 (by omega)
  have o120 : H30[120]? = some (.inl (0, 64, .inl (fun _ => 0))) := by rw [hH30]; exact set_ne o120 (by omega)
  have o121 : H30[121]? = some (.inl (0, 6, .inl (fun _ => 0))) := by rw [hH30]; exact set_ne o121 (by omega)
  have o122 : H30[122]? = some (.inl (0, 6, .inl (fun _ => 0))) := by rw [hH30]; exact set_ne o122 (by omega)
  have o123 : H30[123]? = some (.inl (1, 6, .inl (fun _ => 0))) := by rw [hH30]; exact set_ne o123 (by omega)
  have o124 : H30[124]? = some (.inl (0, 3721, .inl (fun _ => 0))) := by rw [hH30]; exact set_ne o124 (by omega)
  have o125 : H30[125]? = some (.inl (1, 2, .inl (fun _ => 0))) := by rw [hH30]; exact set_ne o125 (by omega)
  have o126 : H30[126]? = some (.inl (0, 54, .inl (fun _ => 0))) := by rw [hH30]; exact set_ne o126 (by omega)
  have fr : ∀ j, j < 111 → H30[j]? = H[j]? := fun j hj => (show H30[j]? = H29[j]? by rw [hH30, List.getElem?_set_ne (by omega)]).trans (fr j hj)
  have hn : H30.length = 127 := by rw [hH30, List.length_set]; exact hn
  refine ez_aload_n i116_125 rfl ?_
  refine ez_iconst (v := nI 0) i116_126 (by decide) ?_
  refine ezs_put (fs' := [.int (nI 0), .ref 112, .ref 113, .ref 114, .ref 115, .ref 116, .ref 117, .int 0, .int 0, .int 0, .ref 118, .int 0, .int 0, .int 0, .int 0, .int 0, .ref 119, .ref 120, .int 0, .ref 121, .ref 122, .ref 123, .ref 124, .long 0, .ref 125, .ref 126]) i116_127 ci116 fl8_56 o111 (by first | exact ⟨Nat.le_of_ble_eq_true rfl, rfl, Or.inl rfl⟩ | exact ⟨Nat.le_of_ble_eq_true rfl, rfl, Or.inr ⟨by decide +kernel, by decide +kernel⟩⟩) rfl (fun H31 hH31 => ?_)
  have o111 : H31[111]? = some (.inr (8, [.int (nI 0), .ref 112, .ref 113, .ref 114, .ref 115, .ref 116, .ref 117, .int 0, .int 0, .int 0, .ref 118, .int 0, .int 0, .int 0, .int 0, .int 0, .ref 119, .ref 120, .int 0, .ref 121, .ref 122, .ref 123, .ref 124, .long 0, .ref 125, .ref 126])) := by rw [hH31]; exact set_self o111
  have o112 : H31[112]? = some (.inl (0, 6, .inl (fun _ => 0))) := by rw [hH31]; exact set_ne o112 (by omega)
  have o113 : H31[113]? = some (.inl (0, 6, .inl (fun _ => 0))) := by rw [hH31]; exact set_ne o113 (by omega)
  have o114 : H31[114]? = some (.inl (0, 54, .inl (fun _ => 0))) := by rw [hH31]; exact set_ne o114 (by omega)
  have o115 : H31[115]? = some (.inl (0, 27, .inl (fun _ => 0))) := by rw [hH31]; exact set_ne o115 (by omega)
  have o116 : H31[116]? = some (.inl (0, 6, .inl (fun _ => 0))) := by rw [hH31]; exact set_ne o116 (by omega)
  have o117 : H31[117]? = some (.inl (0, 6, .inl (fun _ => 0))) := by rw [hH31]; exact set_ne o117 (by omega)
  have o118 : H31[118]? = some (.inl (0, 64, .inl (fun _ => 0))) := by rw [hH31]; exact set_ne o118 (by omega)
  have o119 : H31[119]? = some (.inl (0, 378, .inl (fun _ => 0))) := by rw [hH31]; exact set_ne o119 (by omega)
  have o120 : H31[120]? = some (.inl (0, 64, .inl (fun _ => 0))) := by rw [hH31]; exact set_ne o120 (by omega)
  have o121 : H31[121]? = some (.inl (0, 6, .inl (fun _ => 0))) := by rw [hH31]; exact set_ne o121 (by omega)
  have o122 : H31[122]? = some (.inl (0, 6, .inl (fun _ => 0))) := by rw [hH31]; exact set_ne o122 (by omega)
  have o123 : H31[123]? = some (.inl (1, 6, .inl (fun _ => 0))) := by rw [hH31]; exact set_ne o123 (by omega)
  have o124 : H31[124]? = some (.inl (0, 3721, .inl (fun _ => 0))) := by rw [hH31]; exact set_ne o124 (by omega)
  have o125 : H31[125]? = some (.inl (1, 2, .inl (fun _ => 0))) := by rw [hH31]; exact set_ne o125 (by omega)
  have o126 : H31[126]? = some (.inl (0, 54, .inl (fun _ => 0))) := by rw [hH31]; exact set_ne o126 (by omega)
  have fr : ∀ j, j < 111 → H31[j]? = H[j]? := fun j hj => (show H31[j]? = H30[j]? by rw [hH31, List.getElem?_set_ne (by omega)]).trans (fr j hj)
  have hn : H31.length = 127 := by rw [hH31, List.length_set]; exact hn
  refine ez_vret i116_130 (by decide +kernel) ?_
  refine ⟨rfl, hn, by omega, fr, o111, o112, o113, o114, o115, o116, o117, o118, o119, o120, o121, o122, o123, o124, o125, o126⟩
