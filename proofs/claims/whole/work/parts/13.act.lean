/-! meadows copied, shelves, the row of acts -/
theorem cpyN_eq {m : Nat} {f g : Nat → Nat} (hf : Vn m f) (hg : Vn m g) : va_cpy (fun q => nI (f q)) (fun q => nI (g q)) 0 0 m = fun q => nI (f q) := by
  funext q
  unfold va_cpy
  by_cases h : q < m
  · rw [if_pos ⟨Nat.zero_le _, by omega⟩]
    simp
  · rw [if_neg (by omega)]
    show nI (g q) = nI (f q)
    rw [hf q (by omega), hg q (by omega)]
theorem cpyI_eq {m : Nat} {f g : Nat → Int32} (hf : Vi m f) (hg : Vi m g) : va_cpy f g 0 0 m = f := by
  funext q
  unfold va_cpy
  by_cases h : q < m
  · rw [if_pos ⟨Nat.zero_le _, by omega⟩]
    simp
  · rw [if_neg (by omega), hf q (by omega), hg q (by omega)]
section EV13
variable {tb : dxT} {k pc : Nat} {L L' : dxL} {S S' : List Value} {H H' : dxH} {Q : Option Value → dxH → Prop}
theorem evs_copyI {ci idx m : Nat} {w : Nat × Nat × Nat × Nat × Nat} {a b : Nat} {f g : Nat → Int32} (hI : dxI k pc = some (.invokestatic idx, 3)) (hc : dxCi k = ci) (hl : dxLk ci idx = some (9, w)) (hr : (1 ≤ dxFr k ∧ 21 ≤ dxLo k) ∧ 26 ≤ dxLo k) (h0 : H[b]? = some (.inl (0, m, .inl f))) (h1 : H[a]? = some (.inl (0, m, .inl g))) (hw : dxW8 S = true) (hf : Vi m f) (hg : Vi m g) (hm : m < 2147483648) (kk : ∀ H1, H1 = H.set a (.inl (0, m, .inl f)) → Ev tb k (pc + 3) L S H1 Q) : Ev tb k pc L (.int (nI m) :: .int (nI 0) :: .ref a :: .int (nI 0) :: .ref b :: S) H Q := by
  have e0 : (nI 0).toNatClampNeg = 0 := nI_clamp (by decide)
  refine ev_copy hI hc hl hr h0 h1 ⟨hw, nI_pos (by decide), nI_pos (by decide), nI_pos hm, by rw [e0, nI_clamp hm]; omega, by rw [e0, nI_clamp hm]; omega⟩ ?_
  rw [e0, nI_clamp hm, cpyI_eq hf hg]
  exact kk _ rfl
theorem evs_copyN {ci idx m : Nat} {w : Nat × Nat × Nat × Nat × Nat} {a b : Nat} {f g : Nat → Nat} (hI : dxI k pc = some (.invokestatic idx, 3)) (hc : dxCi k = ci) (hl : dxLk ci idx = some (9, w)) (hr : (1 ≤ dxFr k ∧ 21 ≤ dxLo k) ∧ 26 ≤ dxLo k) (h0 : H[b]? = some (IA m f)) (h1 : H[a]? = some (IA m g)) (hw : dxW8 S = true) (hf : Vn m f) (hg : Vn m g) (hm : m < 2147483648) (kk : ∀ H1, H1 = H.set a (IA m f) → Ev tb k (pc + 3) L S H1 Q) : Ev tb k pc L (.int (nI m) :: .int (nI 0) :: .ref a :: .int (nI 0) :: .ref b :: S) H Q := by
  have e0 : (nI 0).toNatClampNeg = 0 := nI_clamp (by decide)
  refine ev_copy hI hc hl hr h0 h1 ⟨hw, nI_pos (by decide), nI_pos (by decide), nI_pos hm, by rw [e0, nI_clamp hm]; omega, by rw [e0, nI_clamp hm]; omega⟩ ?_
  rw [e0, nI_clamp hm, cpyN_eq hf hg]
  exact kk _ rfl
theorem evn_aald {a m v j : Nat} {f : Nat → Option Nat} (hI : dxI k pc = some (.aaload, 1)) (ho : H[a]? = some (.inl (2, m, .inr (.inr (.inr (.inr f)))))) (hj : j < m ∧ m < 2147483648) (hv : f j = some v) (kk : Ev tb k (pc + 1) L (.ref v :: S) H Q) : Ev tb k pc L (.int (nI j) :: .ref a :: S) H Q := ev_aald hI ho (dxIn_n hj) (by rw [nI_clamp (Nat.lt_trans hj.1 hj.2)]; exact hv) kk
end EV13
def ShpM (H : dxH) (a : Nat) : Prop := ∃ (cl ce fu : Nat → Nat) (pa : Nat → Int32) (he : Nat) (sn : Bool) (ho wa : Int32), MdwAt H a cl ce fu pa he sn ho wa ∧ Vn 10 cl ∧ Vn 6 ce ∧ Vn 6 fu ∧ Vi 2 pa
theorem ShpM.off {H H' : dxH} {a : Nat} {A : Nat → Prop} (h : ShpM H a) (hO : Off A H H') (hA : ∀ j, a ≤ j → j ≤ a + 4 → ¬ A j) : ShpM H' a := by
  obtain ⟨cl, ce, fu, pa, he, sn, ho, wa, h1, h2⟩ := h
  exact ⟨cl, ce, fu, pa, he, sn, ho, wa, h1.off hO hA, h2⟩
theorem c20 {tb : dxT} {H : dxH} {a b : Nat} {cl ce fu : Nat → Nat} {pa : Nat → Int32} {he : Nat} {sn : Bool} {ho wa : Int32} (hT : ShpM H a) (hM : MdwAt H b cl ce fu pa he sn ho wa) (h1 : Vn 10 cl) (h2 : Vn 6 ce) (h3 : Vn 6 fu) (h4 : Vi 2 pa) (hab : a + 4 < b ∨ b + 4 < a) : Cl tb 20 [.ref a, .ref b] H (fun r H' => r = none ∧ MdwAt H' a cl ce fu pa he sn ho wa ∧ Off (mdC a) H H') := by
  obtain ⟨cl0, ce0, fu0, pa0, he0, sn0, ho0, wa0, ⟨m0, m1, m2, m3, m4⟩, v1, v2, v3, v4⟩ := hT
  obtain ⟨s0, s1, s2, s3, s4⟩ := hM
  have hO : Off (mdC a) H H := Off.rf
  show Ev tb 20 0 [some (.ref a), some (.ref b)] [] H _
  refine ev_aload_n i20_0 rfl ?_
  refine ev_get i20_1 ci20 fl3_9 (by assumption) rfl ?_
  refine ev_iconst (v := nI 0) i20_4 (by decide) ?_
  refine ev_aload_n i20_5 rfl ?_
  refine ev_get i20_6 ci20 fl3_9 (by assumption) rfl ?_
  refine ev_iconst (v := nI 0) i20_9 (by decide) ?_
  refine ev_bipush (v := nI 10) i20_10 (by decide) ?_
  refine evs_copyN i20_12 ci20 lk3_42 (by decide +kernel) (by assumption) (by assumption) rfl (by assumption) (by assumption) (by decide) (fun H1 hH1 => ?_)
  have m0 : H1[a]? = some (.inr (3, [.ref 3, .ref (a + 1), .ref (a + 2), .ref (a + 3), .ref (a + 4), .int (nI he0), .int (bI sn0), .int ho0, .int wa0])) := by rw [hH1]; exact set_ne m0 (by omega)
  have m1 : H1[a + 1]? = some (IA 10 cl) := by rw [hH1]; exact set_self m1
  have m2 : H1[a + 2]? = some (IA 6 ce0) := by rw [hH1]; exact set_ne m2 (by omega)
  have m3 : H1[a + 3]? = some (IA 6 fu0) := by rw [hH1]; exact set_ne m3 (by omega)
  have m4 : H1[a + 4]? = some (.inl (0, 2, .inl pa0)) := by rw [hH1]; exact set_ne m4 (by omega)
  have s0 : H1[b]? = some (.inr (3, [.ref 3, .ref (b + 1), .ref (b + 2), .ref (b + 3), .ref (b + 4), .int (nI he), .int (bI sn), .int ho, .int wa])) := by rw [hH1]; exact set_ne s0 (by omega)
  have s1 : H1[b + 1]? = some (IA 10 cl) := by rw [hH1]; exact set_ne s1 (by omega)
  have s2 : H1[b + 2]? = some (IA 6 ce) := by rw [hH1]; exact set_ne s2 (by omega)
  have s3 : H1[b + 3]? = some (IA 6 fu) := by rw [hH1]; exact set_ne s3 (by omega)
  have s4 : H1[b + 4]? = some (.inl (0, 2, .inl pa)) := by rw [hH1]; exact set_ne s4 (by omega)
  have hO : Off (mdC a) H H1 := by rw [hH1]; exact hO.set (by exact ⟨by omega, by omega⟩)
  refine ev_aload_n i20_15 rfl ?_
  refine ev_get i20_16 ci20 fl3_15 (by assumption) rfl ?_
  refine ev_iconst (v := nI 0) i20_19 (by decide) ?_
  refine ev_aload_n i20_20 rfl ?_
  refine ev_get i20_21 ci20 fl3_15 (by assumption) rfl ?_
  refine ev_iconst (v := nI 0) i20_24 (by decide) ?_
  refine ev_bipush (v := nI 6) i20_25 (by decide) ?_
  refine evs_copyN i20_27 ci20 lk3_42 (by decide +kernel) (by assumption) (by assumption) rfl (by assumption) (by assumption) (by decide) (fun H2 hH2 => ?_)
  have m0 : H2[a]? = some (.inr (3, [.ref 3, .ref (a + 1), .ref (a + 2), .ref (a + 3), .ref (a + 4), .int (nI he0), .int (bI sn0), .int ho0, .int wa0])) := by rw [hH2]; exact set_ne m0 (by omega)
  have m1 : H2[a + 1]? = some (IA 10 cl) := by rw [hH2]; exact set_ne m1 (by omega)
  have m2 : H2[a + 2]? = some (IA 6 ce) := by rw [hH2]; exact set_self m2
  have m3 : H2[a + 3]? = some (IA 6 fu0) := by rw [hH2]; exact set_ne m3 (by omega)
  have m4 : H2[a + 4]? = some (.inl (0, 2, .inl pa0)) := by rw [hH2]; exact set_ne m4 (by omega)
  have s0 : H2[b]? = some (.inr (3, [.ref 3, .ref (b + 1), .ref (b + 2), .ref (b + 3), .ref (b + 4), .int (nI he), .int (bI sn), .int ho, .int wa])) := by rw [hH2]; exact set_ne s0 (by omega)
  have s1 : H2[b + 1]? = some (IA 10 cl) := by rw [hH2]; exact set_ne s1 (by omega)
  have s2 : H2[b + 2]? = some (IA 6 ce) := by rw [hH2]; exact set_ne s2 (by omega)
  have s3 : H2[b + 3]? = some (IA 6 fu) := by rw [hH2]; exact set_ne s3 (by omega)
  have s4 : H2[b + 4]? = some (.inl (0, 2, .inl pa)) := by rw [hH2]; exact set_ne s4 (by omega)
  have hO : Off (mdC a) H H2 := by rw [hH2]; exact hO.set (by exact ⟨by omega, by omega⟩)
  refine ev_aload_n i20_30 rfl ?_
  refine ev_get i20_31 ci20 fl3_18 (by assumption) rfl ?_
  refine ev_iconst (v := nI 0) i20_34 (by decide) ?_
  refine ev_aload_n i20_35 rfl ?_
  refine ev_get i20_36 ci20 fl3_18 (by assumption) rfl ?_
  refine ev_iconst (v := nI 0) i20_39 (by decide) ?_
  refine ev_bipush (v := nI 6) i20_40 (by decide) ?_
  refine evs_copyN i20_42 ci20 lk3_42 (by decide +kernel) (by assumption) (by assumption) rfl (by assumption) (by assumption) (by decide) (fun H3 hH3 => ?_)
  have m0 : H3[a]? = some (.inr (3, [.ref 3, .ref (a + 1), .ref (a + 2), .ref (a + 3), .ref (a + 4), .int (nI he0), .int (bI sn0), .int ho0, .int wa0])) := by rw [hH3]; exact set_ne m0 (by omega)
  have m1 : H3[a + 1]? = some (IA 10 cl) := by rw [hH3]; exact set_ne m1 (by omega)
  have m2 : H3[a + 2]? = some (IA 6 ce) := by rw [hH3]; exact set_ne m2 (by omega)
  have m3 : H3[a + 3]? = some (IA 6 fu) := by rw [hH3]; exact set_self m3
  have m4 : H3[a + 4]? = some (.inl (0, 2, .inl pa0)) := by rw [hH3]; exact set_ne m4 (by omega)
  have s0 : H3[b]? = some (.inr (3, [.ref 3, .ref (b + 1), .ref (b + 2), .ref (b + 3), .ref (b + 4), .int (nI he), .int (bI sn), .int ho, .int wa])) := by rw [hH3]; exact set_ne s0 (by omega)
  have s1 : H3[b + 1]? = some (IA 10 cl) := by rw [hH3]; exact set_ne s1 (by omega)
  have s2 : H3[b + 2]? = some (IA 6 ce) := by rw [hH3]; exact set_ne s2 (by omega)
  have s3 : H3[b + 3]? = some (IA 6 fu) := by rw [hH3]; exact set_ne s3 (by omega)
  have s4 : H3[b + 4]? = some (.inl (0, 2, .inl pa)) := by rw [hH3]; exact set_ne s4 (by omega)
  have hO : Off (mdC a) H H3 := by rw [hH3]; exact hO.set (by exact ⟨by omega, by omega⟩)
  refine ev_aload_n i20_45 rfl ?_
  refine ev_get i20_46 ci20 fl3_21 (by assumption) rfl ?_
  refine ev_iconst (v := nI 0) i20_49 (by decide) ?_
  refine ev_aload_n i20_50 rfl ?_
  refine ev_get i20_51 ci20 fl3_21 (by assumption) rfl ?_
  refine ev_iconst (v := nI 0) i20_54 (by decide) ?_
  refine ev_iconst (v := nI 2) i20_55 (by decide) ?_
  refine evs_copyI i20_56 ci20 lk3_42 (by decide +kernel) (by assumption) (by assumption) rfl (by assumption) (by assumption) (by decide) (fun H4 hH4 => ?_)
  have m0 : H4[a]? = some (.inr (3, [.ref 3, .ref (a + 1), .ref (a + 2), .ref (a + 3), .ref (a + 4), .int (nI he0), .int (bI sn0), .int ho0, .int wa0])) := by rw [hH4]; exact set_ne m0 (by omega)
  have m1 : H4[a + 1]? = some (IA 10 cl) := by rw [hH4]; exact set_ne m1 (by omega)
  have m2 : H4[a + 2]? = some (IA 6 ce) := by rw [hH4]; exact set_ne m2 (by omega)
  have m3 : H4[a + 3]? = some (IA 6 fu) := by rw [hH4]; exact set_ne m3 (by omega)
  have m4 : H4[a + 4]? = some (.inl (0, 2, .inl pa)) := by rw [hH4]; exact set_self m4
  have s0 : H4[b]? = some (.inr (3, [.ref 3, .ref (b + 1), .ref (b + 2), .ref (b + 3), .ref (b + 4), .int (nI he), .int (bI sn), .int ho, .int wa])) := by rw [hH4]; exact set_ne s0 (by omega)
  have s1 : H4[b + 1]? = some (IA 10 cl) := by rw [hH4]; exact set_ne s1 (by omega)
  have s2 : H4[b + 2]? = some (IA 6 ce) := by rw [hH4]; exact set_ne s2 (by omega)
  have s3 : H4[b + 3]? = some (IA 6 fu) := by rw [hH4]; exact set_ne s3 (by omega)
  have s4 : H4[b + 4]? = some (.inl (0, 2, .inl pa)) := by rw [hH4]; exact set_ne s4 (by omega)
  have hO : Off (mdC a) H H4 := by rw [hH4]; exact hO.set (by exact ⟨by omega, by omega⟩)
  refine ev_aload_n i20_59 rfl ?_
  refine ev_aload_n i20_60 rfl ?_
  refine ev_get i20_61 ci20 fl3_28 (by assumption) rfl ?_
  refine evs_put (fs' := [.ref 3, .ref (a + 1), .ref (a + 2), .ref (a + 3), .ref (a + 4), .int (nI he), .int (bI sn0), .int ho0, .int wa0]) i20_64 ci20 fl3_28 (by assumption) ⟨Nat.le_of_ble_eq_true rfl, rfl, Or.inl rfl⟩ rfl (fun H5 hH5 => ?_)
  have m0 : H5[a]? = some (.inr (3, [.ref 3, .ref (a + 1), .ref (a + 2), .ref (a + 3), .ref (a + 4), .int (nI he), .int (bI sn0), .int ho0, .int wa0])) := by rw [hH5]; exact set_self m0
  have m1 : H5[a + 1]? = some (IA 10 cl) := by rw [hH5]; exact set_ne m1 (by omega)
  have m2 : H5[a + 2]? = some (IA 6 ce) := by rw [hH5]; exact set_ne m2 (by omega)
  have m3 : H5[a + 3]? = some (IA 6 fu) := by rw [hH5]; exact set_ne m3 (by omega)
  have m4 : H5[a + 4]? = some (.inl (0, 2, .inl pa)) := by rw [hH5]; exact set_ne m4 (by omega)
  have s0 : H5[b]? = some (.inr (3, [.ref 3, .ref (b + 1), .ref (b + 2), .ref (b + 3), .ref (b + 4), .int (nI he), .int (bI sn), .int ho, .int wa])) := by rw [hH5]; exact set_ne s0 (by omega)
  have s1 : H5[b + 1]? = some (IA 10 cl) := by rw [hH5]; exact set_ne s1 (by omega)
  have s2 : H5[b + 2]? = some (IA 6 ce) := by rw [hH5]; exact set_ne s2 (by omega)
  have s3 : H5[b + 3]? = some (IA 6 fu) := by rw [hH5]; exact set_ne s3 (by omega)
  have s4 : H5[b + 4]? = some (.inl (0, 2, .inl pa)) := by rw [hH5]; exact set_ne s4 (by omega)
  have hO : Off (mdC a) H H5 := by rw [hH5]; exact hO.set (by exact ⟨by omega, by omega⟩)
  refine ev_aload_n i20_67 rfl ?_
  refine ev_aload_n i20_68 rfl ?_
  refine ev_get i20_69 ci20 fl3_32 (by assumption) rfl ?_
  refine evs_put (fs' := [.ref 3, .ref (a + 1), .ref (a + 2), .ref (a + 3), .ref (a + 4), .int (nI he), .int (bI sn), .int ho0, .int wa0]) i20_72 ci20 fl3_32 (by assumption) ⟨Nat.le_of_ble_eq_true rfl, dxFit_b _, Or.inl rfl⟩ rfl (fun H6 hH6 => ?_)
  have m0 : H6[a]? = some (.inr (3, [.ref 3, .ref (a + 1), .ref (a + 2), .ref (a + 3), .ref (a + 4), .int (nI he), .int (bI sn), .int ho0, .int wa0])) := by rw [hH6]; exact set_self m0
  have m1 : H6[a + 1]? = some (IA 10 cl) := by rw [hH6]; exact set_ne m1 (by omega)
  have m2 : H6[a + 2]? = some (IA 6 ce) := by rw [hH6]; exact set_ne m2 (by omega)
  have m3 : H6[a + 3]? = some (IA 6 fu) := by rw [hH6]; exact set_ne m3 (by omega)
  have m4 : H6[a + 4]? = some (.inl (0, 2, .inl pa)) := by rw [hH6]; exact set_ne m4 (by omega)
  have s0 : H6[b]? = some (.inr (3, [.ref 3, .ref (b + 1), .ref (b + 2), .ref (b + 3), .ref (b + 4), .int (nI he), .int (bI sn), .int ho, .int wa])) := by rw [hH6]; exact set_ne s0 (by omega)
  have s1 : H6[b + 1]? = some (IA 10 cl) := by rw [hH6]; exact set_ne s1 (by omega)
  have s2 : H6[b + 2]? = some (IA 6 ce) := by rw [hH6]; exact set_ne s2 (by omega)
  have s3 : H6[b + 3]? = some (IA 6 fu) := by rw [hH6]; exact set_ne s3 (by omega)
  have s4 : H6[b + 4]? = some (.inl (0, 2, .inl pa)) := by rw [hH6]; exact set_ne s4 (by omega)
  have hO : Off (mdC a) H H6 := by rw [hH6]; exact hO.set (by exact ⟨by omega, by omega⟩)
  refine ev_aload_n i20_75 rfl ?_
  refine ev_aload_n i20_76 rfl ?_
  refine ev_get i20_77 ci20 fl3_36 (by assumption) rfl ?_
  refine evs_put (fs' := [.ref 3, .ref (a + 1), .ref (a + 2), .ref (a + 3), .ref (a + 4), .int (nI he), .int (bI sn), .int ho, .int wa0]) i20_80 ci20 fl3_36 (by assumption) ⟨Nat.le_of_ble_eq_true rfl, rfl, Or.inl rfl⟩ rfl (fun H7 hH7 => ?_)
  have m0 : H7[a]? = some (.inr (3, [.ref 3, .ref (a + 1), .ref (a + 2), .ref (a + 3), .ref (a + 4), .int (nI he), .int (bI sn), .int ho, .int wa0])) := by rw [hH7]; exact set_self m0
  have m1 : H7[a + 1]? = some (IA 10 cl) := by rw [hH7]; exact set_ne m1 (by omega)
  have m2 : H7[a + 2]? = some (IA 6 ce) := by rw [hH7]; exact set_ne m2 (by omega)
  have m3 : H7[a + 3]? = some (IA 6 fu) := by rw [hH7]; exact set_ne m3 (by omega)
  have m4 : H7[a + 4]? = some (.inl (0, 2, .inl pa)) := by rw [hH7]; exact set_ne m4 (by omega)
  have s0 : H7[b]? = some (.inr (3, [.ref 3, .ref (b + 1), .ref (b + 2), .ref (b + 3), .ref (b + 4), .int (nI he), .int (bI sn), .int ho, .int wa])) := by rw [hH7]; exact set_ne s0 (by omega)
  have s1 : H7[b + 1]? = some (IA 10 cl) := by rw [hH7]; exact set_ne s1 (by omega)
  have s2 : H7[b + 2]? = some (IA 6 ce) := by rw [hH7]; exact set_ne s2 (by omega)
  have s3 : H7[b + 3]? = some (IA 6 fu) := by rw [hH7]; exact set_ne s3 (by omega)
  have s4 : H7[b + 4]? = some (.inl (0, 2, .inl pa)) := by rw [hH7]; exact set_ne s4 (by omega)
  have hO : Off (mdC a) H H7 := by rw [hH7]; exact hO.set (by exact ⟨by omega, by omega⟩)
  refine ev_aload_n i20_83 rfl ?_
  refine ev_aload_n i20_84 rfl ?_
  refine ev_get i20_85 ci20 fl3_39 (by assumption) rfl ?_
  refine evs_put (fs' := [.ref 3, .ref (a + 1), .ref (a + 2), .ref (a + 3), .ref (a + 4), .int (nI he), .int (bI sn), .int ho, .int wa]) i20_88 ci20 fl3_39 (by assumption) ⟨Nat.le_of_ble_eq_true rfl, rfl, Or.inl rfl⟩ rfl (fun H8 hH8 => ?_)
  have m0 : H8[a]? = some (.inr (3, [.ref 3, .ref (a + 1), .ref (a + 2), .ref (a + 3), .ref (a + 4), .int (nI he), .int (bI sn), .int ho, .int wa])) := by rw [hH8]; exact set_self m0
  have m1 : H8[a + 1]? = some (IA 10 cl) := by rw [hH8]; exact set_ne m1 (by omega)
  have m2 : H8[a + 2]? = some (IA 6 ce) := by rw [hH8]; exact set_ne m2 (by omega)
  have m3 : H8[a + 3]? = some (IA 6 fu) := by rw [hH8]; exact set_ne m3 (by omega)
  have m4 : H8[a + 4]? = some (.inl (0, 2, .inl pa)) := by rw [hH8]; exact set_ne m4 (by omega)
  have s0 : H8[b]? = some (.inr (3, [.ref 3, .ref (b + 1), .ref (b + 2), .ref (b + 3), .ref (b + 4), .int (nI he), .int (bI sn), .int ho, .int wa])) := by rw [hH8]; exact set_ne s0 (by omega)
  have s1 : H8[b + 1]? = some (IA 10 cl) := by rw [hH8]; exact set_ne s1 (by omega)
  have s2 : H8[b + 2]? = some (IA 6 ce) := by rw [hH8]; exact set_ne s2 (by omega)
  have s3 : H8[b + 3]? = some (IA 6 fu) := by rw [hH8]; exact set_ne s3 (by omega)
  have s4 : H8[b + 4]? = some (.inl (0, 2, .inl pa)) := by rw [hH8]; exact set_ne s4 (by omega)
  have hO : Off (mdC a) H H8 := by rw [hH8]; exact hO.set (by exact ⟨by omega, by omega⟩)
  refine ev_vret i20_91 (by decide +kernel) ?_
  exact ⟨rfl, ⟨m0, m1, m2, m3, m4⟩, hO⟩
def ShfAt (H : dxH) (p m base : Nat) : Prop := H[p]? = some (.inr (5, [.ref (p + 1)])) ∧ ∃ f : Nat → Option Nat, H[p + 1]? = some (.inl (2, m, .inr (.inr (.inr (.inr f))))) ∧ ∀ i, i < m → f i = some (base + 5 * i)
theorem ShfAt.off {H H' : dxH} {p m base : Nat} {A : Nat → Prop} (h : ShfAt H p m base) (hO : Off A H H') (h1 : ¬ A p) (h2 : ¬ A (p + 1)) : ShfAt H' p m base := by
  obtain ⟨a1, f, a2, a3⟩ := h
  exact ⟨hO.at a1 h1, f, hO.at a2 h2, a3⟩
theorem c58 {tb : dxT} {H : dxH} {p m base i : Nat} (hm : m < 100) (hP : ShfAt H p m base) (hi : i < m) : Cl tb 58 [.ref p, .int (nI i)] H (Rt (.ref (base + 5 * i)) H) := by
  obtain ⟨q1, f, q2, q3⟩ := id hP
  show Ev tb 58 0 [some (.ref p), some (.int (nI i))] [] H _
  refine ev_iload_n i58_0 rfl ?_
  refine evn_if_lt (t := 22) i58_1 (by decide) (by omega) ?_
  refine ev_iload_n i58_4 rfl ?_
  refine ev_aload_n i58_5 rfl ?_
  refine ev_get i58_6 ci58 fl5_15 (by assumption) rfl ?_
  refine ev_alen i58_9 (by assumption) (by decide) ?_
  refine evn_icmp_ge (t := 22) i58_10 (by decide) (by omega) (fun z10 => by exfalso; omega) (fun z10 => ?_)
  refine ev_aload_n i58_13 rfl ?_
  refine ev_get i58_14 ci58 fl5_15 (by assumption) rfl ?_
  refine ev_iload_n i58_17 rfl ?_
  refine evn_aald (v := base + 5 * i) i58_18 (by assumption) (by omega) (q3 i (by omega)) ?_
  refine ev_goto (t := 23) i58_19 (by decide) ?_
  refine ev_aret (n := "MilkTruce$Meadow") i58_23 (by decide +kernel) ?_
  exact ⟨rfl, rfl⟩
theorem c59 {tb : dxT} {H : dxH} {p m base i b : Nat} {cl ce fu : Nat → Nat} {pa : Nat → Int32} {he : Nat} {sn : Bool} {ho wa : Int32} (hm : m < 100) (hP : ShfAt H p m base) (hi : i < m) (hT : ShpM H (base + 5 * i)) (hM : MdwAt H b cl ce fu pa he sn ho wa) (h1 : Vn 10 cl) (h2 : Vn 6 ce) (h3 : Vn 6 fu) (h4 : Vi 2 pa) (hab : base + 5 * i + 4 < b ∨ b + 4 < base + 5 * i) : Cl tb 59 [.ref p, .int (nI i), .ref b] H (fun r H' => r = none ∧ MdwAt H' (base + 5 * i) cl ce fu pa he sn ho wa ∧ Off (mdC (base + 5 * i)) H H') := by
  obtain ⟨q1, f, q2, q3⟩ := id hP
  obtain ⟨_, _, _, _, _, _, _, _, ⟨t0, _⟩, _⟩ := id hT
  show Ev tb 59 0 [some (.ref p), some (.int (nI i)), some (.ref b), none] [] H _
  refine ev_aload_n i59_0 rfl ?_
  refine ev_iload_n i59_1 rfl ?_
  refine ev_callV (vs := [.int (nI i)]) (rest := []) i59_2 ci59 lk5_24 (congrArg (fun q => q + 1) np58) ci58 (by decide) (by decide +kernel) (Nat.le_of_ble_eq_true rfl) ⟨rfl, rfl, Nat.le_of_ble_eq_true rfl⟩ rfl (by assumption) (c58 hm hP hi) (fun r HH hq => ?_)
  obtain ⟨rfl, rfl⟩ := hq
  show Ev tb 59 5 [some (.ref p), some (.int (nI i)), some (.ref b), none] [.ref (base + 5 * i)] H _
  refine ev_astore_n (L' := [some (.ref p), some (.int (nI i)), some (.ref b), some (.ref (base + 5 * i))]) i59_5 ⟨Nat.le_of_ble_eq_true rfl, rfl⟩ rfl ?_
  refine ev_aload_n i59_6 rfl ?_
  refine ev_ifnullR i59_7 (by decide) ?_
  refine ev_aload_n i59_10 rfl ?_
  refine ev_aload_n i59_11 rfl ?_
  refine ev_callV (vs := [.ref b]) (rest := []) i59_12 ci59 lk5_28 (congrArg (fun q => q + 1) np20) ci20 (by decide) (by decide +kernel) (Nat.le_of_ble_eq_true rfl) ⟨rfl, rfl, Nat.le_of_ble_eq_true rfl⟩ rfl (by assumption) (c20 hT hM h1 h2 h3 h4 hab) (fun r H1 hq => ?_)
  obtain ⟨rfl, hq2⟩ := hq
  show Ev tb 59 15 [some (.ref p), some (.int (nI i)), some (.ref b), some (.ref (base + 5 * i))] [] H1 _
  refine ev_vret i59_15 (by decide +kernel) ?_
  exact ⟨rfl, hq2⟩
theorem c60 {tb : dxT} {H : dxH} {p m base i b : Nat} {cl ce fu : Nat → Nat} {pa : Nat → Int32} {he : Nat} {sn : Bool} {ho wa : Int32} (hm : m < 100) (hP : ShfAt H p m base) (hi : i < m) (hT : ShpM H b) (hM : MdwAt H (base + 5 * i) cl ce fu pa he sn ho wa) (h1 : Vn 10 cl) (h2 : Vn 6 ce) (h3 : Vn 6 fu) (h4 : Vi 2 pa) (hab : b + 4 < base + 5 * i ∨ base + 5 * i + 4 < b) : Cl tb 60 [.ref p, .int (nI i), .ref b] H (fun r H' => r = none ∧ MdwAt H' b cl ce fu pa he sn ho wa ∧ Off (mdC b) H H') := by
  obtain ⟨q1, f, q2, q3⟩ := id hP
  obtain ⟨_, _, _, _, _, _, _, _, ⟨t0, _⟩, _⟩ := id hT
  show Ev tb 60 0 [some (.ref p), some (.int (nI i)), some (.ref b), none] [] H _
  refine ev_aload_n i60_0 rfl ?_
  refine ev_iload_n i60_1 rfl ?_
  refine ev_callV (vs := [.int (nI i)]) (rest := []) i60_2 ci60 lk5_24 (congrArg (fun q => q + 1) np58) ci58 (by decide) (by decide +kernel) (Nat.le_of_ble_eq_true rfl) ⟨rfl, rfl, Nat.le_of_ble_eq_true rfl⟩ rfl (by assumption) (c58 hm hP hi) (fun r HH hq => ?_)
  obtain ⟨rfl, rfl⟩ := hq
  show Ev tb 60 5 [some (.ref p), some (.int (nI i)), some (.ref b), none] [.ref (base + 5 * i)] H _
  refine ev_astore_n (L' := [some (.ref p), some (.int (nI i)), some (.ref b), some (.ref (base + 5 * i))]) i60_5 ⟨Nat.le_of_ble_eq_true rfl, rfl⟩ rfl ?_
  refine ev_aload_n i60_6 rfl ?_
  refine ev_ifnullR i60_7 (by decide) ?_
  refine ev_aload_n i60_10 rfl ?_
  refine ev_aload_n i60_11 rfl ?_
  refine ev_callV (vs := [.ref (base + 5 * i)]) (rest := []) i60_12 ci60 lk5_28 (congrArg (fun q => q + 1) np20) ci20 (by decide) (by decide +kernel) (Nat.le_of_ble_eq_true rfl) ⟨rfl, rfl, Nat.le_of_ble_eq_true rfl⟩ rfl (by assumption) (c20 hT hM h1 h2 h3 h4 hab) (fun r H1 hq => ?_)
  obtain ⟨rfl, hq2⟩ := hq
  show Ev tb 60 15 [some (.ref p), some (.int (nI i)), some (.ref b), some (.ref (base + 5 * i))] [] H1 _
  refine ev_vret i60_15 (by decide +kernel) ?_
  exact ⟨rfl, hq2⟩
def ActAt (H : dxH) (fi ma : Nat) : Prop := H[16]? = some (.inr (0, [.ref 17, .int (nI fi), .int (nI ma)])) ∧ ShfAt H 17 14 19
def actC : Nat → Prop := fun j => j = 16
theorem ActAt.off {H H' : dxH} {fi ma : Nat} {A : Nat → Prop} (h : ActAt H fi ma) (hO : Off A H H') (h1 : ¬ A 16) (h2 : ¬ A 17) (h3 : ¬ A 18) : ActAt H' fi ma := ⟨hO.at h.1 h1, h.2.off hO h2 h3⟩
theorem c1 {tb : dxT} {H : dxH} {fi ma : Nat} (hA : ActAt H fi ma) : Cl tb 1 [.ref 16] H (fun r H' => r = none ∧ ActAt H' fi 0 ∧ Off actC H H') := by
  obtain ⟨k0, kS⟩ := id hA
  have hO : Off actC H H := Off.rf
  show Ev tb 1 0 [some (.ref 16)] [] H _
  refine ev_aload_n i1_0 rfl ?_
  refine ev_iconst (v := nI 0) i1_1 (by decide) ?_
  refine evs_put (fs' := [.ref 17, .int (nI fi), .int (nI 0)]) i1_2 ci1 fl0_20 (by assumption) ⟨Nat.le_of_ble_eq_true rfl, rfl, Or.inl rfl⟩ rfl (fun H1 hH1 => ?_)
  have k0 : H1[16]? = some (.inr (0, [.ref 17, .int (nI fi), .int (nI 0)])) := by rw [hH1]; exact set_self k0
  have hO : Off actC H H1 := by rw [hH1]; exact hO.set (by exact rfl)
  refine ev_vret i1_5 (by decide +kernel) ?_
  exact ⟨rfl, ⟨k0, kS.off hO (by unfold actC; decide) (by unfold actC; decide)⟩, hO⟩
theorem c2 {tb : dxT} {H : dxH} {fi ma : Nat} (hA : ActAt H fi ma) : Cl tb 2 [.ref 16] H (Rt (.int (nI ma)) H) := by
  obtain ⟨k0, kS⟩ := id hA
  show Ev tb 2 0 [some (.ref 16)] [] H _
  refine ev_aload_n i2_0 rfl ?_
  refine ev_get i2_1 ci2 fl0_20 (by assumption) rfl ?_
  refine ev_iret i2_4 (by decide +kernel) ?_
  exact ⟨rfl, rfl⟩
theorem c3 {tb : dxT} {H : dxH} {fi ma b : Nat} {cl ce fu : Nat → Nat} {pa : Nat → Int32} {he : Nat} {sn : Bool} {ho wa : Int32} (hfi : fi < 14) (hma : ma ≤ 14) (hA : ActAt H fi ma) (hT : ShpM H (19 + 5 * ((fi + ma) % 14))) (hM : MdwAt H b cl ce fu pa he sn ho wa) (h1 : Vn 10 cl) (h2 : Vn 6 ce) (h3 : Vn 6 fu) (h4 : Vi 2 pa) (hab : b + 4 < 19) : Cl tb 3 [.ref 16, .ref b] H (fun r H' => r = none ∧ ActAt H' (if ma < 14 then fi else (fi + 1) % 14) (if ma < 14 then ma + 1 else 14) ∧ MdwAt H' (19 + 5 * ((fi + ma) % 14)) cl ce fu pa he sn ho wa ∧ Off (fun j => j = 16 ∨ mdC (19 + 5 * ((fi + ma) % 14)) j) H H') := by
  obtain ⟨k0, kS⟩ := id hA
  obtain ⟨sh0, _⟩ := id kS
  have hi : (fi + ma) % 14 < 14 := Nat.mod_lt _ (by decide)
  have hO : Off (fun j => j = 16 ∨ mdC (19 + 5 * ((fi + ma) % 14)) j) H H := Off.rf
  show Ev tb 3 0 [some (.ref 16), some (.ref b)] [] H _
  refine ev_aload_n i3_0 rfl ?_
  refine ev_get i3_1 ci3 fl0_14 (by assumption) rfl ?_
  refine ev_aload_n i3_4 rfl ?_
  refine ev_get i3_5 ci3 fl0_24 (by assumption) rfl ?_
  refine ev_aload_n i3_8 rfl ?_
  refine ev_get i3_9 ci3 fl0_20 (by assumption) rfl ?_
  refine evn_iadd i3_12 ?_
  refine ev_bipush (v := nI 14) i3_13 (by decide) ?_
  refine evn_irem i3_15 (by first | omega | exact ⟨Nat.lt_of_le_of_lt (Nat.div_le_self _ _) (by omega), by decide, by decide⟩) ?_
  refine ev_aload_n i3_16 rfl ?_
  refine ev_callV (vs := [.int (nI ((fi + ma) % 14)), .ref b]) (rest := []) i3_17 ci3 lk0_27 (congrArg (fun q => q + 1) np59) ci59 (by decide) (by decide +kernel) (Nat.le_of_ble_eq_true rfl) ⟨rfl, rfl, Nat.le_of_ble_eq_true rfl⟩ rfl (by assumption) (c59 (by decide) kS hi hT hM h1 h2 h3 h4 (by omega)) (fun r H1 hq => ?_)
  obtain ⟨rfl, hN, hO1⟩ := hq
  have k0 := hO1.at k0 (fun q => by have u1 := q.1; have u2 := q.2; omega)
  have kS := kS.off hO1 (fun q => by have u1 := q.1; have u2 := q.2; omega) (fun q => by have u1 := q.1; have u2 := q.2; omega)
  have hO : Off (fun j => j = 16 ∨ mdC (19 + 5 * ((fi + ma) % 14)) j) H H1 := hO.trans hO1 (fun _ h => h) (fun _ h => Or.inr h)
  show Ev tb 3 20 [some (.ref 16), some (.ref b)] [] H1 _
  refine ev_aload_n i3_20 rfl ?_
  refine ev_get i3_21 ci3 fl0_20 (by assumption) rfl ?_
  refine ev_bipush (v := nI 14) i3_24 (by decide) ?_
  refine evn_icmp_ge (t := 42) i3_26 (by decide) (by omega) (fun z26 => ?_) (fun z26 => ?_)
  · refine ev_aload_n i3_42 rfl ?_
    refine ev_aload_n i3_43 rfl ?_
    refine ev_get i3_44 ci3 fl0_24 (by assumption) rfl ?_
    refine ev_iconst (v := nI 1) i3_47 (by decide) ?_
    refine evn_iadd i3_48 ?_
    refine ev_bipush (v := nI 14) i3_49 (by decide) ?_
    refine evn_irem i3_51 (by first | omega | exact ⟨Nat.lt_of_le_of_lt (Nat.div_le_self _ _) (by omega), by decide, by decide⟩) ?_
    refine evs_put (fs' := [.ref 17, .int (nI ((fi + 1) % 14)), .int (nI ma)]) i3_52 ci3 fl0_24 (by assumption) ⟨Nat.le_of_ble_eq_true rfl, rfl, Or.inl rfl⟩ rfl (fun H2 hH2 => ?_)
    have k0 : H2[16]? = some (.inr (0, [.ref 17, .int (nI ((fi + 1) % 14)), .int (nI ma)])) := by rw [hH2]; exact set_self k0
    have hO : Off (fun j => j = 16 ∨ mdC (19 + 5 * ((fi + ma) % 14)) j) H H2 := by rw [hH2]; exact hO.set (by exact Or.inl rfl)
    refine ev_vret i3_55 (by decide +kernel) ?_
    first
      | (rw [if_neg (by omega), if_neg (by omega)]
         obtain rfl : ma = 14 := by omega
         exact ⟨rfl, ⟨k0, kS.off (A := fun j => j = 16) (by rw [hH2]; exact Off.rf.set rfl) (by decide) (by decide)⟩, hN.off (A := fun j => j = 16) (by rw [hH2]; exact Off.rf.set rfl) (by omega), hO⟩)
      | (rw [if_pos (by omega), if_pos (by omega)]
         exact ⟨rfl, ⟨k0, kS.off (A := fun j => j = 16) (by rw [hH2]; exact Off.rf.set rfl) (by decide) (by decide)⟩, hN.off (A := fun j => j = 16) (by rw [hH2]; exact Off.rf.set rfl) (by omega), hO⟩)
  · refine ev_aload_n i3_29 rfl ?_
    refine ev_dup i3_30 rfl ?_
    refine ev_get i3_31 ci3 fl0_20 (by assumption) rfl ?_
    refine ev_iconst (v := nI 1) i3_34 (by decide) ?_
    refine evn_iadd i3_35 ?_
    refine evs_put (fs' := [.ref 17, .int (nI fi), .int (nI (ma + 1))]) i3_36 ci3 fl0_20 (by assumption) ⟨Nat.le_of_ble_eq_true rfl, rfl, Or.inl rfl⟩ rfl (fun H2 hH2 => ?_)
    have k0 : H2[16]? = some (.inr (0, [.ref 17, .int (nI fi), .int (nI (ma + 1))])) := by rw [hH2]; exact set_self k0
    have hO : Off (fun j => j = 16 ∨ mdC (19 + 5 * ((fi + ma) % 14)) j) H H2 := by rw [hH2]; exact hO.set (by exact Or.inl rfl)
    refine ev_goto (t := 55) i3_39 (by decide) ?_
    refine ev_vret i3_55 (by decide +kernel) ?_
    first
      | (rw [if_neg (by omega), if_neg (by omega)]
         obtain rfl : ma = 14 := by omega
         exact ⟨rfl, ⟨k0, kS.off (A := fun j => j = 16) (by rw [hH2]; exact Off.rf.set rfl) (by decide) (by decide)⟩, hN.off (A := fun j => j = 16) (by rw [hH2]; exact Off.rf.set rfl) (by omega), hO⟩)
      | (rw [if_pos (by omega), if_pos (by omega)]
         exact ⟨rfl, ⟨k0, kS.off (A := fun j => j = 16) (by rw [hH2]; exact Off.rf.set rfl) (by decide) (by decide)⟩, hN.off (A := fun j => j = 16) (by rw [hH2]; exact Off.rf.set rfl) (by omega), hO⟩)
theorem c4 {tb : dxT} {H : dxH} {fi ma b : Nat} {cl ce fu : Nat → Nat} {pa : Nat → Int32} {he : Nat} {sn : Bool} {ho wa : Int32} (hfi : fi < 14) (hma : ma ≤ 14) (hma0 : 0 < ma) (hA : ActAt H fi ma) (hT : ShpM H b) (hM : MdwAt H (19 + 5 * ((fi + (ma - 1)) % 14)) cl ce fu pa he sn ho wa) (h1 : Vn 10 cl) (h2 : Vn 6 ce) (h3 : Vn 6 fu) (h4 : Vi 2 pa) (hab : b + 4 < 16) : Cl tb 4 [.ref 16, .ref b] H (fun r H' => r = none ∧ ActAt H' fi (ma - 1) ∧ MdwAt H' b cl ce fu pa he sn ho wa ∧ Off (fun j => j = 16 ∨ mdC b j) H H') := by
  obtain ⟨k0, kS⟩ := id hA
  have hi : (fi + (ma - 1)) % 14 < 14 := Nat.mod_lt _ (by decide)
  have hO : Off (fun j => j = 16 ∨ mdC b j) H H := Off.rf
  show Ev tb 4 0 [some (.ref 16), some (.ref b)] [] H _
  refine ev_aload_n i4_0 rfl ?_
  refine ev_get i4_1 ci4 fl0_20 (by assumption) rfl ?_
  refine evn_if_le (t := 37) i4_4 (by decide) (by omega) (fun z4 => by exfalso; omega) (fun z4 => ?_)
  refine ev_aload_n i4_7 rfl ?_
  refine ev_dup i4_8 rfl ?_
  refine ev_get i4_9 ci4 fl0_20 (by assumption) rfl ?_
  refine ev_iconst (v := nI 1) i4_12 (by decide) ?_
  refine evn_isub i4_13 (by omega) ?_
  refine evs_put (fs' := [.ref 17, .int (nI fi), .int (nI (ma - 1))]) i4_14 ci4 fl0_20 (by assumption) ⟨Nat.le_of_ble_eq_true rfl, rfl, Or.inl rfl⟩ rfl (fun H1 hH1 => ?_)
  have k0 : H1[16]? = some (.inr (0, [.ref 17, .int (nI fi), .int (nI (ma - 1))])) := by rw [hH1]; exact set_self k0
  have hO : Off (fun j => j = 16 ∨ mdC b j) H H1 := by rw [hH1]; exact hO.set (by exact Or.inl rfl)
  have hO9 : Off (fun j => j = 16) H H1 := by rw [hH1]; exact Off.rf.set rfl
  have kS := kS.off hO9 (by decide) (by decide)
  have hT := hT.off hO9 (by omega)
  have hM := hM.off hO9 (by omega)
  obtain ⟨sh0, _⟩ := id kS
  refine ev_aload_n i4_17 rfl ?_
  refine ev_get i4_18 ci4 fl0_14 (by assumption) rfl ?_
  refine ev_aload_n i4_21 rfl ?_
  refine ev_get i4_22 ci4 fl0_24 (by assumption) rfl ?_
  refine ev_aload_n i4_25 rfl ?_
  refine ev_get i4_26 ci4 fl0_20 (by assumption) rfl ?_
  refine evn_iadd i4_29 ?_
  refine ev_bipush (v := nI 14) i4_30 (by decide) ?_
  refine evn_irem i4_32 (by first | omega | exact ⟨Nat.lt_of_le_of_lt (Nat.div_le_self _ _) (by omega), by decide, by decide⟩) ?_
  refine ev_aload_n i4_33 rfl ?_
  refine ev_callV (vs := [.int (nI ((fi + (ma - 1)) % 14)), .ref b]) (rest := []) i4_34 ci4 lk0_31 (congrArg (fun q => q + 1) np60) ci60 (by decide) (by decide +kernel) (Nat.le_of_ble_eq_true rfl) ⟨rfl, rfl, Nat.le_of_ble_eq_true rfl⟩ rfl (by assumption) (c60 (by decide) kS hi hT hM h1 h2 h3 h4 (by omega)) (fun r H2 hq => ?_)
  obtain ⟨rfl, hN, hO1⟩ := hq
  have k0 := hO1.at k0 (fun q => by have u1 := q.1; have u2 := q.2; omega)
  have kS := kS.off hO1 (fun q => by have u1 := q.1; have u2 := q.2; omega) (fun q => by have u1 := q.1; have u2 := q.2; omega)
  have hO : Off (fun j => j = 16 ∨ mdC b j) H H2 := hO.trans hO1 (fun _ h => h) (fun _ h => Or.inr h)
  show Ev tb 4 37 [some (.ref 16), some (.ref b)] [] H2 _
  refine ev_vret i4_37 (by decide +kernel) ?_
  exact ⟨rfl, ⟨k0, kS⟩, hN, hO⟩
