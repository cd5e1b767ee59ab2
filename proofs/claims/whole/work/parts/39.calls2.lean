/-! the model's calls: sorts, undo  -/
theorem lq144 {tb : dxT} {H : dxH} {n : Nat} {f : Nat → Int32} {sed : Int64} {sd kd : Nat → Nat} {g : Nat → Int32} {ce : Nat → Nat} {sn : Bool} {m : Nat} (hn : n ≤ 6) (b4 : ∀ j, sd j < 2) (b5 : ∀ j, kd j < 4) (hce : ∀ j, ce j < 10) (hm8 : m < 1000) : ∀ (d k : Nat) (v : Int32) (H1 : dxH) (g1 : Nat → Int32) (x : Hs), k + d = m → MC H1 n f sed sd kd g1 → Lv g1 (27 * 1) n ce sn x → SOK x → ofL 1 g g1 → Off (fun j => j = 114) H H1 → Ev tb 144 23 [some (.ref 111), some (.int (nI m)), some (.int v), some (.int (nI k))] [] H1 (fun r H' => r = some (.int (srtsL (HE n) sd kd ce sn d x v)) ∧ ∃ g', MC H' n f sed sd kd g' ∧ ofL 1 g g' ∧ Off (fun j => j = 114) H H')
  | 0, k, v, H1, g1, x, hk, hC, hL, hx, hg, hO => by
    obtain rfl : k = m := by omega
    obtain ⟨c0, ⟨ms, mk, c1, c2, c3, c4⟩, c5⟩ := id hC
    unfold mOb at c0
    refine ev_iload_n i144_23 rfl ?_
    refine ev_iload_n i144_24 rfl ?_
    refine evn_icmp_ge (t := 48) i144_25 (by decide) (by omega) (fun z25 => ?_) (fun z25 => by exfalso; omega)
    refine ev_iload_n i144_48 rfl ?_
    refine ev_iret i144_49 (by decide +kernel) ?_
    exact ⟨rfl, g1, hC, hg, hO⟩
  | d + 1, k, v, H1, g1, x, hk, hC, hL, hx, hg, hO => by
    obtain ⟨c0, ⟨ms, mk, c1, c2, c3, c4⟩, c5⟩ := id hC
    unfold mOb at c0
    refine ev_iload_n i144_23 rfl ?_
    refine ev_iload_n i144_24 rfl ?_
    refine evn_icmp_ge (t := 48) i144_25 (by decide) (by omega) (fun z25 => by exfalso; omega) (fun z25 => ?_)
    refine ev_bipush (v := nI 10) i144_28 (by decide) ?_
    refine ev_iload_n i144_30 rfl ?_
    refine ev_imul i144_31 ?_
    refine ev_aload_n i144_32 rfl ?_
    refine ev_iconst (v := nI 1) i144_33 (by decide) ?_
    refine ev_bipush (v := nI 63) i144_34 (by decide) ?_
    refine ev_iconst (v := nI 0) i144_36 (by decide) ?_
    refine ev_callV (vs := [.int (nI 1), .int (nI 63), .int (nI 0)]) (rest := [.int ((nI 10) * v)]) i144_37 ci144 lk8_132 (congrArg (fun q => q + 1) np135) ci135 (by decide) (by decide +kernel) (Nat.le_of_ble_eq_true rfl) ⟨rfl, rfl, Nat.le_of_ble_eq_true rfl⟩ rfl (by assumption) (c135 (rg := false) hn b4 b5 hce (by decide) (by decide) hC hL hx) (fun r H2 hq => ?_)
    obtain ⟨rfl, g2, hC2, hL2, hg2, hO2⟩ := hq
    rw [and63 n (by omega)] at hL2
    rw [and63 n (by omega)]
    show Ev tb 144 40 [some (.ref 111), some (.int (nI m)), some (.int v), some (.int (nI k))] [.int (nI (srtF (HE n) kd x.2.1 sn false)), .int ((nI 10) * v)] H2 _
    refine ev_iadd i144_40 ?_
    refine ev_istore_n (L' := [some (.ref 111), some (.int (nI m)), some (.int (((nI 10) * v) + (nI (srtF (HE n) kd x.2.1 sn false)))), some (.int (nI k))]) i144_41 ⟨Nat.le_of_ble_eq_true rfl, rfl⟩ rfl ?_
    refine evn_iinc (d := 1) (L' := [some (.ref 111), some (.int (nI m)), some (.int (((nI 10) * v) + (nI (srtF (HE n) kd x.2.1 sn false)))), some (.int (nI (k + 1)))]) i144_42 rfl rfl (by decide) rfl ?_
    refine ev_goto (t := 23) i144_45 (by decide) ?_
    exact lq144 hn b4 b5 hce hm8 d (k + 1) _ H2 g2 (hrF (HE n) sd kd ce sn false x) (by omega) hC2 hL2 (hrF_ok hce b4 hx) (hg.tr hg2) (hO.trans hO2 (fun _ q => q) (fun _ q => q))
theorem y144 {tb : dxT} {H : dxH} {tx : Nat → Nat} {ln n : Nat} {sd kd : Nat → Nat} {s : Sn} {am : Nat} {stk : Nat → Sn} {kp : Nat → Bool} {ks : Nat → Sn} {tm : Nat} {tc th : Nat → Nat} {td : Nat → Bool} {sed : Int64} {m : Nat} (hI : MInv H tx ln n sd kd s am stk kp ks tm tc th td sed) (hS : SpOK tx ln n sd kd s am stk kp ks tm tc th) (hm1 : 1 ≤ m) (hm : m ≤ 8) : Cl tb 144 [.ref 111, .int (nI m)] H (fun r H' => r = some (.int (srtsL (HE n) sd kd s.1 s.2.1 m s.2.2 (nI 0))) ∧ MInv H' tx ln n sd kd s am stk kp ks tm tc th td sed ∧ Off mC H H') := by
  obtain ⟨f, g, nx, ⟨hC, hL, e3, e6, e7, e8, hnx⟩, hR⟩ := id hI
  obtain ⟨⟨b1, b2⟩, b3, b4, b5, b6, b7, b8, b9, b10, b11⟩ := id hS
  obtain ⟨c0, ⟨ms, mk, c1, c2, c3, c4⟩, c5⟩ := id hC
  unfold mOb at c0
  show Ev tb 144 0 [some (.ref 111), some (.int (nI m)), none, none] [] H _
  refine ev_iload_n i144_0 rfl ?_
  refine ev_i2l i144_1 ?_
  refine ev_lconst (v := 1) i144_2 (by decide) ?_
  refine ev_ldc2 i144_3 ci144 ks8_138 ?_
  refine ev_callS (vs := [.long ((nI m).toInt64), .long 1, .long 8]) (rest := []) i144_6 ci144 lk8_62 (Or.inl rfl) np117 (by decide +kernel) (Nat.le_of_ble_eq_true rfl) ⟨rfl, rfl, Nat.le_of_ble_eq_true rfl⟩ rfl (c117) (fun r HH hq => ?_)
  obtain ⟨rfl, rfl⟩ := hq
  rw [inJ_M (x := (nI m)) (a := 1) (b := 8) (by decide) (by decide) (by decide) (by decide), show inM (nI m) 1 8 = true from ahd_n hm1 hm]
  show Ev tb 144 9 [some (.ref 111), some (.int (nI m)), none, none] [.int (bI true)] H _
  refine evb_if_ne (t := 15) i144_9 (by decide) (fun z9 => ?_) (fun z9 => by exfalso; cases z9)
  refine ev_aload_n i144_15 rfl ?_
  refine ev_callV (vs := []) (rest := []) i144_16 ci144 lk8_140 (congrArg (fun q => q + 1) np143) ci143 (by decide) (by decide +kernel) (Nat.le_of_ble_eq_true rfl) ⟨rfl, rfl, Nat.le_of_ble_eq_true rfl⟩ rfl (by assumption) (c143 b3 hC hL) (fun r H1 hq => ?_)
  obtain ⟨rfl, g1, hC1, hL1, hT1, hO1⟩ := hq
  obtain ⟨c0, ⟨ms, mk, c1, c2, c3, c4⟩, c5⟩ := id hC1
  unfold mOb at c0
  show Ev tb 144 19 [some (.ref 111), some (.int (nI m)), none, none] [] H1 _
  refine ev_iconst (v := nI 0) i144_19 (by decide) ?_
  refine ev_istore_n (L' := [some (.ref 111), some (.int (nI m)), some (.int (nI 0)), none]) i144_20 ⟨Nat.le_of_ble_eq_true rfl, rfl⟩ rfl ?_
  refine ev_iconst (v := nI 0) i144_21 (by decide) ?_
  refine ev_istore_n (L' := [some (.ref 111), some (.int (nI m)), some (.int (nI 0)), some (.int (nI 0))]) i144_22 ⟨Nat.le_of_ble_eq_true rfl, rfl⟩ rfl ?_
  refine (lq144 (H := H1) (g := g1) b3 b4 b5 b6.1 (by omega) m 0 (nI 0) H1 g1 s.2.2 (by omega) hC1 hT1 b6.2.2.1 ofL.rf Off.rf).post (fun r H' hq => ?_)
  obtain ⟨h1, g2, hC2, hg2, hO2⟩ := hq
  exact ⟨h1, MInv.tr (H := H) hC2 (hL1.of0 b3 hg2) ⟨e3, e6, e7, e8, hnx⟩ hR (hO1.trans hO2 (fun _ q => q) (fun _ q => q))⟩
theorem y144f {tb : dxT} {H : dxH} {tx : Nat → Nat} {ln n : Nat} {sd kd : Nat → Nat} {s : Sn} {am : Nat} {stk : Nat → Sn} {kp : Nat → Bool} {ks : Nat → Sn} {tm : Nat} {tc th : Nat → Nat} {td : Nat → Bool} {sed : Int64} {x : Int32} (hI : MInv H tx ln n sd kd s am stk kp ks tm tc th td sed) (hS : SpOK tx ln n sd kd s am stk kp ks tm tc th) (h : ahdB x = false) : Cl tb 144 [.ref 111, .int x] H (fun r H' => r = some (.int (-2)) ∧ MInv H' tx ln n sd kd s am stk kp ks tm tc th td sed ∧ Off mC H H') := by
  obtain ⟨f, g, nx, ⟨hC, hL, e3, e6, e7, e8, hnx⟩, hR⟩ := id hI
  obtain ⟨⟨b1, b2⟩, b3, b4, b5, b6, b7, b8, b9, b10, b11⟩ := id hS
  obtain ⟨c0, ⟨ms, mk, c1, c2, c3, c4⟩, c5⟩ := id hC
  unfold mOb at c0
  show Ev tb 144 0 [some (.ref 111), some (.int x), none, none] [] H _
  refine ev_iload_n i144_0 rfl ?_
  refine ev_i2l i144_1 ?_
  refine ev_lconst (v := 1) i144_2 (by decide) ?_
  refine ev_ldc2 i144_3 ci144 ks8_138 ?_
  refine ev_callS (vs := [.long x.toInt64, .long 1, .long 8]) (rest := []) i144_6 ci144 lk8_62 (Or.inl rfl) np117 (by decide +kernel) (Nat.le_of_ble_eq_true rfl) ⟨rfl, rfl, Nat.le_of_ble_eq_true rfl⟩ rfl (c117) (fun r HH hq => ?_)
  obtain ⟨rfl, rfl⟩ := hq
  rw [inJ_M (x := x) (a := 1) (b := 8) (by decide) (by decide) (by decide) (by decide), show inM x 1 8 = false from h]
  show Ev tb 144 9 [some (.ref 111), some (.int x), none, none] [.int (bI false)] H _
  refine evb_if_ne (t := 15) i144_9 (by decide) (fun z9 => by exfalso; cases z9) (fun z9 => ?_)
  refine ev_bipush (v := (-2)) i144_12 (by decide) ?_
  refine ev_iret i144_14 (by decide +kernel) ?_
  exact ⟨rfl, hI, Off.rf⟩
theorem lq142 {tb : dxT} {H : dxH} {n : Nat} {f : Nat → Int32} {sed : Int64} {sd kd : Nat → Nat} {nx : Nat} {rw : Nat → Int32} {Q : Option Value → dxH → Prop} (e7 : f 7 = nI nx) (hnx : nx < 14) : ∀ (d k : Nat) (H1 : dxH) (g1 : Nat → Int32), k + d = 27 → MC H1 n f sed sd kd g1 → H1[119]? = some (.inl (0, 378, .inl rw)) → (∀ j, j < k → g1 j = rw (27 * nx + j)) → Off (fun j => j = 114) H H1 → (∀ H3 g3, MC H3 n f sed sd kd g3 → H3[119]? = some (.inl (0, 378, .inl rw)) → (∀ j, j < 27 → g3 j = rw (27 * nx + j)) → Off (fun j => j = 114) H H3 → Ev tb 142 68 [some (.ref 111), some (.int (nI 27))] [] H3 Q) → Ev tb 142 36 [some (.ref 111), some (.int (nI k))] [] H1 Q
  | 0, k, H1, g1, hk, hC, hr, h1, hO, hQ => by
    obtain rfl : k = 27 := by omega
    obtain ⟨c0, ⟨ms, mk, c1, c2, c3, c4⟩, c5⟩ := id hC
    unfold mOb at c0
    refine ev_iload_n i142_36 rfl ?_
    refine ev_bipush (v := nI 27) i142_37 (by decide) ?_
    refine evn_icmp_ge (t := 68) i142_39 (by decide) (by omega) (fun z39 => ?_) (fun z39 => by exfalso; omega)
    exact hQ H1 g1 hC hr h1 hO
  | d + 1, k, H1, g1, hk, hC, hr, h1, hO, hQ => by
    obtain ⟨c0, ⟨ms, mk, c1, c2, c3, c4⟩, c5⟩ := id hC
    unfold mOb at c0
    refine ev_iload_n i142_36 rfl ?_
    refine ev_bipush (v := nI 27) i142_37 (by decide) ?_
    refine evn_icmp_ge (t := 68) i142_39 (by decide) (by omega) (fun z39 => by exfalso; omega) (fun z39 => ?_)
    refine ev_aload_n i142_42 rfl ?_
    refine ev_get i142_43 ci142 fl8_16 (by assumption) rfl ?_
    refine ev_iload_n i142_46 rfl ?_
    refine ev_aload_n i142_47 rfl ?_
    refine ev_get i142_48 ci142 fl8_31 (by assumption) rfl ?_
    refine ev_bipush (v := nI 27) i142_51 (by decide) ?_
    refine ev_aload_n i142_53 rfl ?_
    refine ev_get i142_54 ci142 fl8_126 (by assumption) rfl ?_
    rw [e7]
    refine evn_imul i142_57 ?_
    refine ev_iload_n i142_58 rfl ?_
    refine evn_iadd i142_59 ?_
    refine ev_iald_n i142_60 (by assumption) (by omega) ?_
    refine evs_iastw i142_61 (by assumption) (by omega) (fun H2 hH2 => ?_)
    have c0 : H2[111]? = some (.inr (8, [.int (nI n), .ref 112, .ref 113, .ref 114, .ref 115, .ref 116, .ref 117, .int (f 0), .int (f 1), .int (f 2), .ref 118, .int (f 3), .int (f 4), .int (f 5), .int (f 6), .int (f 7), .ref 119, .ref 120, .int (f 8), .ref 121, .ref 122, .ref 123, .ref 124, .long sed, .ref 125, .ref 126])) := by rw [hH2]; exact set_ne c0 (by omega)
    have c1 : H2[112]? = some (.inl (0, 6, .inl ms)) := by rw [hH2]; exact set_ne c1 (by omega)
    have c3 : H2[113]? = some (.inl (0, 6, .inl mk)) := by rw [hH2]; exact set_ne c3 (by omega)
    have c5 : H2[114]? = some (.inl (0, 54, .inl (upd g1 k (rw ((27 * nx) + k))))) := by rw [hH2]; exact set_self c5
    have hr : H2[119]? = some (.inl (0, 378, .inl rw)) := by rw [hH2]; exact set_ne hr (by omega)
    have hO : Off (fun j => j = 114) H H2 := by rw [hH2]; exact hO.set (by rfl)
    refine evn_iinc (d := 1) (L' := [some (.ref 111), some (.int (nI (k + 1)))]) i142_62 rfl rfl (by decide) rfl ?_
    refine ev_goto (t := 36) i142_65 (by decide) ?_
    exact lq142 e7 hnx d (k + 1) _ _ (by omega) ⟨c0, ⟨ms, mk, c1, c2, c3, c4⟩, c5⟩ hr (fun j hj => by
      unfold upd
      by_cases q : j = k
      · rw [if_pos (by omega), q]
      · rw [if_neg (by omega)]; exact h1 j (by omega)) hO hQ
theorem y142e {tb : dxT} {H : dxH} {tx : Nat → Nat} {ln n : Nat} {sd kd : Nat → Nat} {s : Sn} {am : Nat} {stk : Nat → Sn} {kp : Nat → Bool} {ks : Nat → Sn} {tm : Nat} {tc th : Nat → Nat} {td : Nat → Bool} {sed : Int64} (hI : MInv H tx ln n sd kd s am stk kp ks tm tc th td sed) (hS : SpOK tx ln n sd kd s am stk kp ks tm tc th) (h : am = 0) : Cl tb 142 [.ref 111] H (fun r H' => r = some (.int (-3)) ∧ MInv H' tx ln n sd kd s am stk kp ks tm tc th td sed ∧ Off mC H H') := by
  obtain ⟨f, g, nx, ⟨hC, hL, e3, e6, e7, e8, hnx⟩, hR⟩ := id hI
  obtain ⟨⟨b1, b2⟩, b3, b4, b5, b6, b7, b8, b9, b10, b11⟩ := id hS
  obtain ⟨c0, ⟨ms, mk, c1, c2, c3, c4⟩, c5⟩ := id hC
  unfold mOb at c0
  show Ev tb 142 0 [some (.ref 111), none] [] H _
  refine ev_aload_n i142_0 rfl ?_
  refine ev_get i142_1 ci142 fl8_105 (by assumption) rfl ?_
  rw [e6]
  refine evn_if_ne (t := 10) i142_4 (by decide) (by omega) (fun z4 => by exfalso; omega) (fun z4 => ?_)
  refine ev_bipush (v := (-3)) i142_7 (by decide) ?_
  refine ev_iret i142_9 (by decide +kernel) ?_
  exact ⟨rfl, hI, Off.rf⟩
theorem y142 {tb : dxT} {H : dxH} {tx : Nat → Nat} {ln n : Nat} {sd kd : Nat → Nat} {s : Sn} {am : Nat} {stk : Nat → Sn} {kp : Nat → Bool} {ks : Nat → Sn} {tm : Nat} {tc th : Nat → Nat} {td : Nat → Bool} {sed : Int64} (hI : MInv H tx ln n sd kd s am stk kp ks tm tc th td sed) (hS : SpOK tx ln n sd kd s am stk kp ks tm tc th) (h : 0 < am) : Cl tb 142 [.ref 111] H (fun r H' => r = some (.int (nI (am - 1))) ∧ MInv H' tx ln n sd kd (stk 0) (am - 1) (fun i => stk (i + 1)) kp ks tm tc th td sed ∧ Off mC H H') := by
  obtain ⟨f, g, nx, ⟨hC, hL, e3, e6, e7, e8, hnx⟩, hR⟩ := id hI
  obtain ⟨⟨b1, b2⟩, b3, b4, b5, b6, b7, b8, b9, b10, b11⟩ := id hS
  obtain ⟨c0, ⟨ms, mk, c1, c2, c3, c4⟩, c5⟩ := id hC
  unfold mOb at c0
  obtain ⟨⟨rw, hr, r1⟩, _⟩ := id hR
  have hO : Off (fun j => j = 111) H H := Off.rf
  show Ev tb 142 0 [some (.ref 111), none] [] H _
  refine ev_aload_n i142_0 rfl ?_
  refine ev_get i142_1 ci142 fl8_105 (by assumption) rfl ?_
  rw [e6]
  refine evn_if_ne (t := 10) i142_4 (by decide) (by omega) (fun z4 => ?_) (fun z4 => by exfalso; omega)
  refine ev_aload_n i142_10 rfl ?_
  refine ev_dup i142_11 rfl ?_
  refine ev_get i142_12 ci142 fl8_105 (by assumption) rfl ?_
  rw [e6]
  refine ev_iconst (v := nI 1) i142_15 (by decide) ?_
  refine evn_isub i142_16 (by omega) ?_
  refine evs_put (fs' := [.int (nI n), .ref 112, .ref 113, .ref 114, .ref 115, .ref 116, .ref 117, .int (f 0), .int (f 1), .int (f 2), .ref 118, .int (f 3), .int (f 4), .int (f 5), .int (nI (am - 1)), .int (f 7), .ref 119, .ref 120, .int (f 8), .ref 121, .ref 122, .ref 123, .ref 124, .long sed, .ref 125, .ref 126]) i142_17 ci142 fl8_105 (by assumption) ⟨Nat.le_of_ble_eq_true rfl, rfl, Or.inl rfl⟩ rfl (fun H1 hH1 => ?_)
  have c0 : H1[111]? = some (.inr (8, [.int (nI n), .ref 112, .ref 113, .ref 114, .ref 115, .ref 116, .ref 117, .int (f 0), .int (f 1), .int (f 2), .ref 118, .int (f 3), .int (f 4), .int (f 5), .int (nI (am - 1)), .int (f 7), .ref 119, .ref 120, .int (f 8), .ref 121, .ref 122, .ref 123, .ref 124, .long sed, .ref 125, .ref 126])) := by rw [hH1]; exact set_self c0
  have c1 : H1[112]? = some (.inl (0, 6, .inl ms)) := by rw [hH1]; exact set_ne c1 (by omega)
  have c3 : H1[113]? = some (.inl (0, 6, .inl mk)) := by rw [hH1]; exact set_ne c3 (by omega)
  have c5 : H1[114]? = some (.inl (0, 54, .inl g)) := by rw [hH1]; exact set_ne c5 (by omega)
  have hr : H1[119]? = some (.inl (0, 378, .inl rw)) := by rw [hH1]; exact set_ne hr (by omega)
  have hO : Off (fun j => j = 111) H H1 := by rw [hH1]; exact hO.set (by rfl)
  refine ev_aload_n i142_20 rfl ?_
  refine ev_aload_n i142_21 rfl ?_
  refine ev_get i142_22 ci142 fl8_126 (by assumption) rfl ?_
  rw [e7]
  refine ev_bipush (v := nI 13) i142_25 (by decide) ?_
  refine evn_iadd i142_27 ?_
  refine ev_bipush (v := nI 14) i142_28 (by decide) ?_
  refine evn_irem i142_30 (by first | omega | exact ⟨Nat.lt_of_le_of_lt (Nat.div_le_self _ _) (by omega), by decide, by decide⟩) ?_
  refine evs_put (fs' := [.int (nI n), .ref 112, .ref 113, .ref 114, .ref 115, .ref 116, .ref 117, .int (f 0), .int (f 1), .int (f 2), .ref 118, .int (f 3), .int (f 4), .int (f 5), .int (nI (am - 1)), .int (nI ((nx + 13) % 14)), .ref 119, .ref 120, .int (f 8), .ref 121, .ref 122, .ref 123, .ref 124, .long sed, .ref 125, .ref 126]) i142_31 ci142 fl8_126 (by assumption) ⟨Nat.le_of_ble_eq_true rfl, rfl, Or.inl rfl⟩ rfl (fun H2 hH2 => ?_)
  have c0 : H2[111]? = some (.inr (8, [.int (nI n), .ref 112, .ref 113, .ref 114, .ref 115, .ref 116, .ref 117, .int (f 0), .int (f 1), .int (f 2), .ref 118, .int (f 3), .int (f 4), .int (f 5), .int (nI (am - 1)), .int (nI ((nx + 13) % 14)), .ref 119, .ref 120, .int (f 8), .ref 121, .ref 122, .ref 123, .ref 124, .long sed, .ref 125, .ref 126])) := by rw [hH2]; exact set_self c0
  have c1 : H2[112]? = some (.inl (0, 6, .inl ms)) := by rw [hH2]; exact set_ne c1 (by omega)
  have c3 : H2[113]? = some (.inl (0, 6, .inl mk)) := by rw [hH2]; exact set_ne c3 (by omega)
  have c5 : H2[114]? = some (.inl (0, 54, .inl g)) := by rw [hH2]; exact set_ne c5 (by omega)
  have hr : H2[119]? = some (.inl (0, 378, .inl rw)) := by rw [hH2]; exact set_ne hr (by omega)
  have hO : Off (fun j => j = 111) H H2 := by rw [hH2]; exact hO.set (by rfl)
  refine ev_iconst (v := nI 0) i142_34 (by decide) ?_
  refine ev_istore_n (L' := [some (.ref 111), some (.int (nI 0))]) i142_35 ⟨Nat.le_of_ble_eq_true rfl, rfl⟩ rfl ?_
  refine lq142 (f := (upd (upd f 6 (nI (am - 1))) 7 (nI ((nx + 13) % 14)))) (H := H2) (nx := (nx + 13) % 14) (rw := rw) rfl (Nat.mod_lt _ (by decide)) 27 0 H2 g (by omega) ⟨c0, ⟨ms, mk, c1, c2, c3, c4⟩, c5⟩ hr (fun j hj => absurd hj (Nat.not_lt_zero _)) Off.rf (fun H3 g3 hC3 hr3 k1 hO3 => ?_)
  have hO4 : Off (fun j => j = 111 ∨ j = 114) H H3 := hO.trans hO3 (fun _ q => Or.inl q) (fun _ q => Or.inr q)
  have c0 : H3[111]? = some (.inr (8, [.int (nI n), .ref 112, .ref 113, .ref 114, .ref 115, .ref 116, .ref 117, .int (f 0), .int (f 1), .int (f 2), .ref 118, .int (f 3), .int (f 4), .int (f 5), .int (nI (am - 1)), .int (nI ((nx + 13) % 14)), .ref 119, .ref 120, .int (f 8), .ref 121, .ref 122, .ref 123, .ref 124, .long sed, .ref 125, .ref 126])) := hC3.1
  refine ev_aload_n i142_68 rfl ?_
  refine ev_get i142_69 ci142 fl8_105 (by assumption) rfl ?_
  refine ev_iret i142_72 (by decide +kernel) ?_
  exact ⟨rfl, ⟨(upd (upd f 6 (nI (am - 1))) 7 (nI ((nx + 13) % 14))), g3, (nx + 13) % 14, ⟨hC3, (r1 0 h).cp b3 (fun j hj => by rw [Nat.zero_add]; exact k1 j hj), e3, rfl, rfl, e8, Nat.mod_lt _ (by decide)⟩, hR.row hO4 (fun j a b c => by omega) hr3 (fun i hi => by
    rw [show ((nx + 13) % 14 + 13 - i) % 14 = (nx + 13 - (i + 1)) % 14 by omega]
    exact r1 (i + 1) (by omega))⟩, hO4.weaken (fun j q => by unfold mC; omega)⟩
theorem y131_0 {tb : dxT} {H : dxH} {tx : Nat → Nat} {ln n : Nat} {sd kd : Nat → Nat} {s : Sn} {am : Nat} {stk : Nat → Sn} {kp : Nat → Bool} {ks : Nat → Sn} {tm : Nat} {tc th : Nat → Nat} {td : Nat → Bool} {sed : Int64} {k : Nat} (hI : MInv H tx ln n sd kd s am stk kp ks tm tc th td sed) (hS : SpOK tx ln n sd kd s am stk kp ks tm tc th) (hk : k < n) : Cl tb 131 [.ref 111, .int (nI k), .int (nI 0)] H (fun r H' => r = some (.int (nI (s.1 k))) ∧ MInv H' tx ln n sd kd s am stk kp ks tm tc th td sed ∧ Off mC H H') := by
  obtain ⟨f, g, nx, ⟨hC, hL, e3, e6, e7, e8, hnx⟩, hR⟩ := id hI
  obtain ⟨⟨b1, b2⟩, b3, b4, b5, b6, b7, b8, b9, b10, b11⟩ := id hS
  obtain ⟨c0, ⟨ms, mk, c1, c2, c3, c4⟩, c5⟩ := id hC
  unfold mOb at c0
  unfold LvS at hL
  show Ev tb 131 0 [some (.ref 111), some (.int (nI k)), some (.int (nI 0))] [] H _
  refine ev_aload_n i131_0 rfl ?_
  refine ev_iload_n i131_1 rfl ?_
  refine ev_callV (vs := [.int (nI k)]) (rest := []) i131_2 ci131 lk8_108 (congrArg (fun q => q + 1) np128) ci128 (by decide) (by decide +kernel) (Nat.le_of_ble_eq_true rfl) ⟨rfl, rfl, Nat.le_of_ble_eq_true rfl⟩ rfl (by assumption) (c128 hC b3 b5) (fun r HH hq => ?_)
  obtain ⟨rfl, rfl⟩ := hq
  rw [inR_n (by omega) (by omega), decide_eq_true hk]
  show Ev tb 131 5 [some (.ref 111), some (.int (nI k)), some (.int (nI 0))] [.int (bI true)] H _
  refine evb_if_ne (t := 10) i131_5 (by decide) (fun z5 => ?_) (fun z5 => by exfalso; cases z5)
  refine ev_iload_n i131_10 rfl ?_
  refine ev_tabIn (o := 33) (t := 44) i131_11 (by decide) (by decide) (by decide) ?_
  refine ev_aload_n i131_44 rfl ?_
  refine ev_get i131_45 ci131 fl8_16 (by assumption) rfl ?_
  refine ev_bipush (v := nI 10) i131_48 (by decide) ?_
  refine ev_iload_n i131_50 rfl ?_
  refine evn_iadd i131_51 ?_
  refine ev_iald_n i131_52 (by assumption) (by omega) ?_
  have hh : g (10 + k) = nI (s.1 k) := by have k1 := hL.2.1 k hk; rw [Nat.zero_add] at k1; exact k1
  rw [hh]
  refine ev_iret i131_53 (by decide +kernel) ?_
  exact ⟨rfl, hI, Off.rf⟩
theorem y131_1 {tb : dxT} {H : dxH} {tx : Nat → Nat} {ln n : Nat} {sd kd : Nat → Nat} {s : Sn} {am : Nat} {stk : Nat → Sn} {kp : Nat → Bool} {ks : Nat → Sn} {tm : Nat} {tc th : Nat → Nat} {td : Nat → Bool} {sed : Int64} {k : Nat} (hI : MInv H tx ln n sd kd s am stk kp ks tm tc th td sed) (hS : SpOK tx ln n sd kd s am stk kp ks tm tc th) (hk : k < n) : Cl tb 131 [.ref 111, .int (nI k), .int (nI 1)] H (fun r H' => r = some (.int (nI (sd k))) ∧ MInv H' tx ln n sd kd s am stk kp ks tm tc th td sed ∧ Off mC H H') := by
  obtain ⟨f, g, nx, ⟨hC, hL, e3, e6, e7, e8, hnx⟩, hR⟩ := id hI
  obtain ⟨⟨b1, b2⟩, b3, b4, b5, b6, b7, b8, b9, b10, b11⟩ := id hS
  obtain ⟨c0, ⟨ms, mk, c1, c2, c3, c4⟩, c5⟩ := id hC
  unfold mOb at c0
  unfold LvS at hL
  show Ev tb 131 0 [some (.ref 111), some (.int (nI k)), some (.int (nI 1))] [] H _
  refine ev_aload_n i131_0 rfl ?_
  refine ev_iload_n i131_1 rfl ?_
  refine ev_callV (vs := [.int (nI k)]) (rest := []) i131_2 ci131 lk8_108 (congrArg (fun q => q + 1) np128) ci128 (by decide) (by decide +kernel) (Nat.le_of_ble_eq_true rfl) ⟨rfl, rfl, Nat.le_of_ble_eq_true rfl⟩ rfl (by assumption) (c128 hC b3 b5) (fun r HH hq => ?_)
  obtain ⟨rfl, rfl⟩ := hq
  rw [inR_n (by omega) (by omega), decide_eq_true hk]
  show Ev tb 131 5 [some (.ref 111), some (.int (nI k)), some (.int (nI 1))] [.int (bI true)] H _
  refine evb_if_ne (t := 10) i131_5 (by decide) (fun z5 => ?_) (fun z5 => by exfalso; cases z5)
  refine ev_iload_n i131_10 rfl ?_
  refine ev_tabIn (o := 43) (t := 54) i131_11 (by decide) (by decide) (by decide) ?_
  refine ev_aload_n i131_54 rfl ?_
  refine ev_get i131_55 ci131 fl8_7 (by assumption) rfl ?_
  refine ev_iload_n i131_58 rfl ?_
  refine ev_iald_n i131_59 (by assumption) (by omega) ?_
  rw [c2 k hk]
  refine ev_iret i131_60 (by decide +kernel) ?_
  exact ⟨rfl, hI, Off.rf⟩
theorem y131_2 {tb : dxT} {H : dxH} {tx : Nat → Nat} {ln n : Nat} {sd kd : Nat → Nat} {s : Sn} {am : Nat} {stk : Nat → Sn} {kp : Nat → Bool} {ks : Nat → Sn} {tm : Nat} {tc th : Nat → Nat} {td : Nat → Bool} {sed : Int64} {k : Nat} (hI : MInv H tx ln n sd kd s am stk kp ks tm tc th td sed) (hS : SpOK tx ln n sd kd s am stk kp ks tm tc th) (hk : k < n) : Cl tb 131 [.ref 111, .int (nI k), .int (nI 2)] H (fun r H' => r = some (.int (nI (s.2.2.2.1 k))) ∧ MInv H' tx ln n sd kd s am stk kp ks tm tc th td sed ∧ Off mC H H') := by
  obtain ⟨f, g, nx, ⟨hC, hL, e3, e6, e7, e8, hnx⟩, hR⟩ := id hI
  obtain ⟨⟨b1, b2⟩, b3, b4, b5, b6, b7, b8, b9, b10, b11⟩ := id hS
  obtain ⟨c0, ⟨ms, mk, c1, c2, c3, c4⟩, c5⟩ := id hC
  unfold mOb at c0
  unfold LvS at hL
  show Ev tb 131 0 [some (.ref 111), some (.int (nI k)), some (.int (nI 2))] [] H _
  refine ev_aload_n i131_0 rfl ?_
  refine ev_iload_n i131_1 rfl ?_
  refine ev_callV (vs := [.int (nI k)]) (rest := []) i131_2 ci131 lk8_108 (congrArg (fun q => q + 1) np128) ci128 (by decide) (by decide +kernel) (Nat.le_of_ble_eq_true rfl) ⟨rfl, rfl, Nat.le_of_ble_eq_true rfl⟩ rfl (by assumption) (c128 hC b3 b5) (fun r HH hq => ?_)
  obtain ⟨rfl, rfl⟩ := hq
  rw [inR_n (by omega) (by omega), decide_eq_true hk]
  show Ev tb 131 5 [some (.ref 111), some (.int (nI k)), some (.int (nI 2))] [.int (bI true)] H _
  refine evb_if_ne (t := 10) i131_5 (by decide) (fun z5 => ?_) (fun z5 => by exfalso; cases z5)
  refine ev_iload_n i131_10 rfl ?_
  refine ev_tabIn (o := 50) (t := 61) i131_11 (by decide) (by decide) (by decide) ?_
  refine ev_aload_n i131_61 rfl ?_
  refine ev_get i131_62 ci131 fl8_16 (by assumption) rfl ?_
  refine ev_bipush (v := nI 16) i131_65 (by decide) ?_
  refine ev_iload_n i131_67 rfl ?_
  refine evn_iadd i131_68 ?_
  refine ev_iald_n i131_69 (by assumption) (by omega) ?_
  have hh : g (16 + k) = nI (s.2.2.2.1 k) := by have k1 := hL.2.2.1 k hk; rw [Nat.zero_add] at k1; exact k1
  rw [hh]
  refine ev_iret i131_70 (by decide +kernel) ?_
  exact ⟨rfl, hI, Off.rf⟩
theorem y131_3 {tb : dxT} {H : dxH} {tx : Nat → Nat} {ln n : Nat} {sd kd : Nat → Nat} {s : Sn} {am : Nat} {stk : Nat → Sn} {kp : Nat → Bool} {ks : Nat → Sn} {tm : Nat} {tc th : Nat → Nat} {td : Nat → Bool} {sed : Int64} {k : Nat} (hI : MInv H tx ln n sd kd s am stk kp ks tm tc th td sed) (hS : SpOK tx ln n sd kd s am stk kp ks tm tc th) (hk : k < n) : Cl tb 131 [.ref 111, .int (nI k), .int (nI 3)] H (fun r H' => r = some (.int (nI (kd k))) ∧ MInv H' tx ln n sd kd s am stk kp ks tm tc th td sed ∧ Off mC H H') := by
  obtain ⟨f, g, nx, ⟨hC, hL, e3, e6, e7, e8, hnx⟩, hR⟩ := id hI
  obtain ⟨⟨b1, b2⟩, b3, b4, b5, b6, b7, b8, b9, b10, b11⟩ := id hS
  obtain ⟨c0, ⟨ms, mk, c1, c2, c3, c4⟩, c5⟩ := id hC
  unfold mOb at c0
  unfold LvS at hL
  show Ev tb 131 0 [some (.ref 111), some (.int (nI k)), some (.int (nI 3))] [] H _
  refine ev_aload_n i131_0 rfl ?_
  refine ev_iload_n i131_1 rfl ?_
  refine ev_callV (vs := [.int (nI k)]) (rest := []) i131_2 ci131 lk8_108 (congrArg (fun q => q + 1) np128) ci128 (by decide) (by decide +kernel) (Nat.le_of_ble_eq_true rfl) ⟨rfl, rfl, Nat.le_of_ble_eq_true rfl⟩ rfl (by assumption) (c128 hC b3 b5) (fun r HH hq => ?_)
  obtain ⟨rfl, rfl⟩ := hq
  rw [inR_n (by omega) (by omega), decide_eq_true hk]
  show Ev tb 131 5 [some (.ref 111), some (.int (nI k)), some (.int (nI 3))] [.int (bI true)] H _
  refine evb_if_ne (t := 10) i131_5 (by decide) (fun z5 => ?_) (fun z5 => by exfalso; cases z5)
  refine ev_iload_n i131_10 rfl ?_
  refine ev_tabIn (o := 60) (t := 71) i131_11 (by decide) (by decide) (by decide) ?_
  refine ev_aload_n i131_71 rfl ?_
  refine ev_get i131_72 ci131 fl8_13 (by assumption) rfl ?_
  refine ev_iload_n i131_75 rfl ?_
  refine ev_iald_n i131_76 (by assumption) (by omega) ?_
  rw [c4 k hk]
  refine ev_iret i131_77 (by decide +kernel) ?_
  exact ⟨rfl, hI, Off.rf⟩
theorem y131_4 {tb : dxT} {H : dxH} {tx : Nat → Nat} {ln n : Nat} {sd kd : Nat → Nat} {s : Sn} {am : Nat} {stk : Nat → Sn} {kp : Nat → Bool} {ks : Nat → Sn} {tm : Nat} {tc th : Nat → Nat} {td : Nat → Bool} {sed : Int64} {k : Nat} (hI : MInv H tx ln n sd kd s am stk kp ks tm tc th td sed) (hS : SpOK tx ln n sd kd s am stk kp ks tm tc th) (hk : k < n) : Cl tb 131 [.ref 111, .int (nI k), .int (nI 4)] H (fun r H' => r = some (.int (bI (dueB (kd k) (s.2.2.2.1 k)))) ∧ MInv H' tx ln n sd kd s am stk kp ks tm tc th td sed ∧ Off mC H H') := by
  obtain ⟨f, g, nx, ⟨hC, hL, e3, e6, e7, e8, hnx⟩, hR⟩ := id hI
  obtain ⟨⟨b1, b2⟩, b3, b4, b5, b6, b7, b8, b9, b10, b11⟩ := id hS
  obtain ⟨c0, ⟨ms, mk, c1, c2, c3, c4⟩, c5⟩ := id hC
  unfold mOb at c0
  unfold LvS at hL
  show Ev tb 131 0 [some (.ref 111), some (.int (nI k)), some (.int (nI 4))] [] H _
  refine ev_aload_n i131_0 rfl ?_
  refine ev_iload_n i131_1 rfl ?_
  refine ev_callV (vs := [.int (nI k)]) (rest := []) i131_2 ci131 lk8_108 (congrArg (fun q => q + 1) np128) ci128 (by decide) (by decide +kernel) (Nat.le_of_ble_eq_true rfl) ⟨rfl, rfl, Nat.le_of_ble_eq_true rfl⟩ rfl (by assumption) (c128 hC b3 b5) (fun r HH hq => ?_)
  obtain ⟨rfl, rfl⟩ := hq
  rw [inR_n (by omega) (by omega), decide_eq_true hk]
  show Ev tb 131 5 [some (.ref 111), some (.int (nI k)), some (.int (nI 4))] [.int (bI true)] H _
  refine evb_if_ne (t := 10) i131_5 (by decide) (fun z5 => ?_) (fun z5 => by exfalso; cases z5)
  refine ev_iload_n i131_10 rfl ?_
  refine ev_tabIn (o := 67) (t := 78) i131_11 (by decide) (by decide) (by decide) ?_
  refine ev_aload_n i131_78 rfl ?_
  refine ev_iconst (v := nI 0) i131_79 (by decide) ?_
  refine ev_iload_n i131_80 rfl ?_
  refine ev_callV (vs := [.int (nI 0), .int (nI k)]) (rest := []) i131_81 ci131 lk8_112 (congrArg (fun q => q + 1) np130) ci130 (by decide) (by decide +kernel) (Nat.le_of_ble_eq_true rfl) ⟨rfl, rfl, Nat.le_of_ble_eq_true rfl⟩ rfl (by assumption) (c130 (l := 0) hC b3 b5 hL (by decide) hk b6.2.2.1) (fun r HH hq => ?_)
  obtain ⟨rfl, rfl⟩ := hq
  show Ev tb 131 84 [some (.ref 111), some (.int (nI k)), some (.int (nI 4))] [.int (bI (dueB (kd k) (s.2.2.2.1 k)))] H _
  refine evb_if_eq (t := 91) i131_84 (by decide) (fun z84 => ?_) (fun z84 => ?_)
  · refine ev_iconst (v := nI 0) i131_91 (by decide) ?_
    refine ev_iret i131_92 (by decide +kernel) ?_
    rw [z84]
    exact ⟨rfl, hI, Off.rf⟩
  · refine ev_iconst (v := nI 1) i131_87 (by decide) ?_
    refine ev_goto (t := 92) i131_88 (by decide) ?_
    refine ev_iret i131_92 (by decide +kernel) ?_
    rw [z84]
    exact ⟨rfl, hI, Off.rf⟩
theorem y131u {tb : dxT} {H : dxH} {tx : Nat → Nat} {ln n : Nat} {sd kd : Nat → Nat} {s : Sn} {am : Nat} {stk : Nat → Sn} {kp : Nat → Bool} {ks : Nat → Sn} {tm : Nat} {tc th : Nat → Nat} {td : Nat → Bool} {sed : Int64} {x y : Int32} (hI : MInv H tx ln n sd kd s am stk kp ks tm tc th td sed) (hS : SpOK tx ln n sd kd s am stk kp ks tm tc th) (h : inR x n = false) : Cl tb 131 [.ref 111, .int x, .int y] H (fun r H' => r = some (.int (-1)) ∧ MInv H' tx ln n sd kd s am stk kp ks tm tc th td sed ∧ Off mC H H') := by
  obtain ⟨f, g, nx, ⟨hC, hL, e3, e6, e7, e8, hnx⟩, hR⟩ := id hI
  obtain ⟨⟨b1, b2⟩, b3, b4, b5, b6, b7, b8, b9, b10, b11⟩ := id hS
  obtain ⟨c0, ⟨ms, mk, c1, c2, c3, c4⟩, c5⟩ := id hC
  unfold mOb at c0
  show Ev tb 131 0 [some (.ref 111), some (.int x), some (.int y)] [] H _
  refine ev_aload_n i131_0 rfl ?_
  refine ev_iload_n i131_1 rfl ?_
  refine ev_callV (vs := [.int x]) (rest := []) i131_2 ci131 lk8_108 (congrArg (fun q => q + 1) np128) ci128 (by decide) (by decide +kernel) (Nat.le_of_ble_eq_true rfl) ⟨rfl, rfl, Nat.le_of_ble_eq_true rfl⟩ rfl (by assumption) (c128 hC b3 b5) (fun r HH hq => ?_)
  obtain ⟨rfl, rfl⟩ := hq
  rw [h]
  show Ev tb 131 5 [some (.ref 111), some (.int x), some (.int y)] [.int (bI false)] H _
  refine evb_if_ne (t := 10) i131_5 (by decide) (fun z5 => by exfalso; cases z5) (fun z5 => ?_)
  refine ev_iconst (v := (-1)) i131_8 (by decide) ?_
  refine ev_iret i131_9 (by decide +kernel) ?_
  exact ⟨rfl, hI, Off.rf⟩
theorem y131o {tb : dxT} {H : dxH} {tx : Nat → Nat} {ln n : Nat} {sd kd : Nat → Nat} {s : Sn} {am : Nat} {stk : Nat → Sn} {kp : Nat → Bool} {ks : Nat → Sn} {tm : Nat} {tc th : Nat → Nat} {td : Nat → Bool} {sed : Int64} {k : Nat} {y : Int32} (hI : MInv H tx ln n sd kd s am stk kp ks tm tc th td sed) (hS : SpOK tx ln n sd kd s am stk kp ks tm tc th) (hk : k < n) (h : inR y 5 = false) : Cl tb 131 [.ref 111, .int (nI k), .int y] H (fun r H' => r = some (.int (-2)) ∧ MInv H' tx ln n sd kd s am stk kp ks tm tc th td sed ∧ Off mC H H') := by
  obtain ⟨f, g, nx, ⟨hC, hL, e3, e6, e7, e8, hnx⟩, hR⟩ := id hI
  obtain ⟨⟨b1, b2⟩, b3, b4, b5, b6, b7, b8, b9, b10, b11⟩ := id hS
  obtain ⟨c0, ⟨ms, mk, c1, c2, c3, c4⟩, c5⟩ := id hC
  unfold mOb at c0
  have h2 := inR_f (by decide) h
  show Ev tb 131 0 [some (.ref 111), some (.int (nI k)), some (.int y)] [] H _
  refine ev_aload_n i131_0 rfl ?_
  refine ev_iload_n i131_1 rfl ?_
  refine ev_callV (vs := [.int (nI k)]) (rest := []) i131_2 ci131 lk8_108 (congrArg (fun q => q + 1) np128) ci128 (by decide) (by decide +kernel) (Nat.le_of_ble_eq_true rfl) ⟨rfl, rfl, Nat.le_of_ble_eq_true rfl⟩ rfl (by assumption) (c128 hC b3 b5) (fun r HH hq => ?_)
  obtain ⟨rfl, rfl⟩ := hq
  rw [inR_n (by omega) (by omega), decide_eq_true hk]
  show Ev tb 131 5 [some (.ref 111), some (.int (nI k)), some (.int y)] [.int (bI true)] H _
  refine evb_if_ne (t := 10) i131_5 (by decide) (fun z5 => ?_) (fun z5 => by exfalso; cases z5)
  refine ev_iload_n i131_10 rfl ?_
  refine ev_tabOut (t := 93) i131_11 (by omega) (by decide) ?_
  refine ev_bipush (v := (-2)) i131_93 (by decide) ?_
  refine ev_iret i131_95 (by decide +kernel) ?_
  exact ⟨rfl, hI, Off.rf⟩
theorem MRest.tm0 {H : dxH} {tx : Nat → Nat} {ln n am nx : Nat} {stk : Nat → Sn} {kp : Nat → Bool} {ks : Nat → Sn} {tm : Nat} {tc th : Nat → Nat} {td : Nat → Bool} (h : MRest H tx ln n am nx stk kp ks tm tc th td) : MRest H tx ln n am nx stk kp ks 0 tc th td := by
  obtain ⟨h1, h2, ⟨a, b, c, h5, h6, h7, h8⟩, h9⟩ := h
  exact ⟨h1, h2, ⟨a, b, c, h5, h6, h7, fun i hi => absurd hi (Nat.not_lt_zero _)⟩, h9⟩
theorem y160 {tb : dxT} {H : dxH} {tx : Nat → Nat} {ln n : Nat} {sd kd : Nat → Nat} {s : Sn} {am : Nat} {stk : Nat → Sn} {kp : Nat → Bool} {ks : Nat → Sn} {tm : Nat} {tc th : Nat → Nat} {td : Nat → Bool} {sed : Int64} (hI : MInv H tx ln n sd kd s am stk kp ks tm tc th td sed) (hS : SpOK tx ln n sd kd s am stk kp ks tm tc th) : Cl tb 160 [.ref 111] H (fun r H' => r = some (.int (nI tm)) ∧ MInv H' tx ln n sd kd s am stk kp ks 0 tc th td sed ∧ Off mC H H') := by
  obtain ⟨f, g, nx, ⟨hC, hL, e3, e6, e7, e8, hnx⟩, hR⟩ := id hI
  obtain ⟨⟨b1, b2⟩, b3, b4, b5, b6, b7, b8, b9, b10, b11⟩ := id hS
  obtain ⟨c0, ⟨ms, mk, c1, c2, c3, c4⟩, c5⟩ := id hC
  unfold mOb at c0
  have hO : Off (fun j => j = 111) H H := Off.rf
  show Ev tb 160 0 [some (.ref 111), none] [] H _
  refine ev_aload_n i160_0 rfl ?_
  refine ev_get i160_1 ci160 fl8_174 (by assumption) rfl ?_
  rw [e8]
  refine ev_istore_n (L' := [some (.ref 111), some (.int (nI tm))]) i160_4 ⟨Nat.le_of_ble_eq_true rfl, rfl⟩ rfl ?_
  refine ev_aload_n i160_5 rfl ?_
  refine ev_iconst (v := nI 0) i160_6 (by decide) ?_
  refine evs_put (fs' := [.int (nI n), .ref 112, .ref 113, .ref 114, .ref 115, .ref 116, .ref 117, .int (f 0), .int (f 1), .int (f 2), .ref 118, .int (f 3), .int (f 4), .int (f 5), .int (f 6), .int (f 7), .ref 119, .ref 120, .int (nI 0), .ref 121, .ref 122, .ref 123, .ref 124, .long sed, .ref 125, .ref 126]) i160_7 ci160 fl8_174 (by assumption) ⟨Nat.le_of_ble_eq_true rfl, rfl, Or.inl rfl⟩ rfl (fun H1 hH1 => ?_)
  have c0 : H1[111]? = some (.inr (8, [.int (nI n), .ref 112, .ref 113, .ref 114, .ref 115, .ref 116, .ref 117, .int (f 0), .int (f 1), .int (f 2), .ref 118, .int (f 3), .int (f 4), .int (f 5), .int (f 6), .int (f 7), .ref 119, .ref 120, .int (nI 0), .ref 121, .ref 122, .ref 123, .ref 124, .long sed, .ref 125, .ref 126])) := by rw [hH1]; exact set_self c0
  have c1 : H1[112]? = some (.inl (0, 6, .inl ms)) := by rw [hH1]; exact set_ne c1 (by omega)
  have c3 : H1[113]? = some (.inl (0, 6, .inl mk)) := by rw [hH1]; exact set_ne c3 (by omega)
  have c5 : H1[114]? = some (.inl (0, 54, .inl g)) := by rw [hH1]; exact set_ne c5 (by omega)
  have hO : Off (fun j => j = 111) H H1 := by rw [hH1]; exact hO.set (by rfl)
  refine ev_iload_n i160_10 rfl ?_
  refine ev_iret i160_11 (by decide +kernel) ?_
  exact ⟨rfl, ⟨upd f 8 (nI 0), g, nx, ⟨⟨c0, ⟨ms, mk, c1, c2, c3, c4⟩, c5⟩, hL, e3, e6, e7, rfl, hnx⟩, hR.tm0.off hO (fun j a b => by omega)⟩, hO.weaken (fun j q => by unfold mC; omega)⟩
theorem y167 {tb : dxT} {H : dxH} {tx : Nat → Nat} {ln n : Nat} {sd kd : Nat → Nat} {s : Sn} {am : Nat} {stk : Nat → Sn} {kp : Nat → Bool} {ks : Nat → Sn} {tm : Nat} {tc th : Nat → Nat} {td : Nat → Bool} {sed : Int64} {v : Int64} (hI : MInv H tx ln n sd kd s am stk kp ks tm tc th td sed) (hS : SpOK tx ln n sd kd s am stk kp ks tm tc th) : Cl tb 167 [.ref 111, .long v] H (fun r H' => r = some (.long sed) ∧ MInv H' tx ln n sd kd s am stk kp ks tm tc th td v ∧ Off mC H H') := by
  obtain ⟨f, g, nx, ⟨hC, hL, e3, e6, e7, e8, hnx⟩, hR⟩ := id hI
  obtain ⟨⟨b1, b2⟩, b3, b4, b5, b6, b7, b8, b9, b10, b11⟩ := id hS
  obtain ⟨c0, ⟨ms, mk, c1, c2, c3, c4⟩, c5⟩ := id hC
  unfold mOb at c0
  have hO : Off (fun j => j = 111) H H := Off.rf
  show Ev tb 167 0 [some (.ref 111), some (.long v), none, none, none] [] H _
  refine ev_aload_n i167_0 rfl ?_
  refine ev_get i167_1 ci167 fl8_190 (by assumption) rfl ?_
  refine ev_lstore_n (L' := [some (.ref 111), some (.long v), none, some (.long sed), none]) i167_4 ⟨Nat.le_of_ble_eq_true rfl, rfl⟩ rfl ?_
  refine ev_aload_n i167_5 rfl ?_
  refine ev_lload_n i167_6 rfl ?_
  refine evs_put (fs' := [.int (nI n), .ref 112, .ref 113, .ref 114, .ref 115, .ref 116, .ref 117, .int (f 0), .int (f 1), .int (f 2), .ref 118, .int (f 3), .int (f 4), .int (f 5), .int (f 6), .int (f 7), .ref 119, .ref 120, .int (f 8), .ref 121, .ref 122, .ref 123, .ref 124, .long v, .ref 125, .ref 126]) i167_7 ci167 fl8_190 (by assumption) ⟨Nat.le_of_ble_eq_true rfl, rfl, Or.inl rfl⟩ rfl (fun H1 hH1 => ?_)
  have c0 : H1[111]? = some (.inr (8, [.int (nI n), .ref 112, .ref 113, .ref 114, .ref 115, .ref 116, .ref 117, .int (f 0), .int (f 1), .int (f 2), .ref 118, .int (f 3), .int (f 4), .int (f 5), .int (f 6), .int (f 7), .ref 119, .ref 120, .int (f 8), .ref 121, .ref 122, .ref 123, .ref 124, .long v, .ref 125, .ref 126])) := by rw [hH1]; exact set_self c0
  have c1 : H1[112]? = some (.inl (0, 6, .inl ms)) := by rw [hH1]; exact set_ne c1 (by omega)
  have c3 : H1[113]? = some (.inl (0, 6, .inl mk)) := by rw [hH1]; exact set_ne c3 (by omega)
  have c5 : H1[114]? = some (.inl (0, 54, .inl g)) := by rw [hH1]; exact set_ne c5 (by omega)
  have hO : Off (fun j => j = 111) H H1 := by rw [hH1]; exact hO.set (by rfl)
  refine ev_lload_n i167_10 rfl ?_
  refine ev_lret i167_11 (by decide +kernel) ?_
  exact ⟨rfl, ⟨f, g, nx, ⟨⟨c0, ⟨ms, mk, c1, c2, c3, c4⟩, c5⟩, hL, e3, e6, e7, e8, hnx⟩, hR.off hO (fun j a b => by omega)⟩, hO.weaken (fun j q => by unfold mC; omega)⟩
theorem y171_0 {tb : dxT} {H : dxH} {tx : Nat → Nat} {ln n : Nat} {sd kd : Nat → Nat} {s : Sn} {am : Nat} {stk : Nat → Sn} {kp : Nat → Bool} {ks : Nat → Sn} {tm : Nat} {tc th : Nat → Nat} {td : Nat → Bool} {sed : Int64} (hI : MInv H tx ln n sd kd s am stk kp ks tm tc th td sed) (hS : SpOK tx ln n sd kd s am stk kp ks tm tc th) : Cl tb 171 [.ref 111, .int (nI 0)] H (fun r H' => r = some (.int (nI ln)) ∧ MInv H' tx ln n sd kd s am stk kp ks tm tc th td sed ∧ Off mC H H') := by
  obtain ⟨f, g, nx, ⟨hC, hL, e3, e6, e7, e8, hnx⟩, hR⟩ := id hI
  obtain ⟨⟨b1, b2⟩, b3, b4, b5, b6, b7, b8, b9, b10, b11⟩ := id hS
  obtain ⟨c0, ⟨ms, mk, c1, c2, c3, c4⟩, c5⟩ := id hC
  unfold mOb at c0
  unfold LvS at hL
  show Ev tb 171 0 [some (.ref 111), some (.int (nI 0))] [] H _
  refine ev_iload_n i171_0 rfl ?_
  refine ev_tabIn (o := 55) (t := 56) i171_1 (by decide) (by decide) (by decide) ?_
  refine ev_aload_n i171_56 rfl ?_
  refine ev_get i171_57 ci171 fl8_66 (by assumption) rfl ?_
  rw [e3]
  refine ev_iret i171_60 (by decide +kernel) ?_
  exact ⟨rfl, hI, Off.rf⟩
theorem y171_1 {tb : dxT} {H : dxH} {tx : Nat → Nat} {ln n : Nat} {sd kd : Nat → Nat} {s : Sn} {am : Nat} {stk : Nat → Sn} {kp : Nat → Bool} {ks : Nat → Sn} {tm : Nat} {tc th : Nat → Nat} {td : Nat → Bool} {sed : Int64} (hI : MInv H tx ln n sd kd s am stk kp ks tm tc th td sed) (hS : SpOK tx ln n sd kd s am stk kp ks tm tc th) : Cl tb 171 [.ref 111, .int (nI 1)] H (fun r H' => r = some (.int (nI n)) ∧ MInv H' tx ln n sd kd s am stk kp ks tm tc th td sed ∧ Off mC H H') := by
  obtain ⟨f, g, nx, ⟨hC, hL, e3, e6, e7, e8, hnx⟩, hR⟩ := id hI
  obtain ⟨⟨b1, b2⟩, b3, b4, b5, b6, b7, b8, b9, b10, b11⟩ := id hS
  obtain ⟨c0, ⟨ms, mk, c1, c2, c3, c4⟩, c5⟩ := id hC
  unfold mOb at c0
  unfold LvS at hL
  show Ev tb 171 0 [some (.ref 111), some (.int (nI 1))] [] H _
  refine ev_iload_n i171_0 rfl ?_
  refine ev_tabIn (o := 60) (t := 61) i171_1 (by decide) (by decide) (by decide) ?_
  refine ev_aload_n i171_61 rfl ?_
  refine ev_get i171_62 ci171 fl8_56 (by assumption) rfl ?_
  refine ev_iret i171_65 (by decide +kernel) ?_
  exact ⟨rfl, hI, Off.rf⟩
theorem y171_2 {tb : dxT} {H : dxH} {tx : Nat → Nat} {ln n : Nat} {sd kd : Nat → Nat} {s : Sn} {am : Nat} {stk : Nat → Sn} {kp : Nat → Bool} {ks : Nat → Sn} {tm : Nat} {tc th : Nat → Nat} {td : Nat → Bool} {sed : Int64} (hI : MInv H tx ln n sd kd s am stk kp ks tm tc th td sed) (hS : SpOK tx ln n sd kd s am stk kp ks tm tc th) : Cl tb 171 [.ref 111, .int (nI 2)] H (fun r H' => r = some (.int s.2.2.2.2.2.1) ∧ MInv H' tx ln n sd kd s am stk kp ks tm tc th td sed ∧ Off mC H H') := by
  obtain ⟨f, g, nx, ⟨hC, hL, e3, e6, e7, e8, hnx⟩, hR⟩ := id hI
  obtain ⟨⟨b1, b2⟩, b3, b4, b5, b6, b7, b8, b9, b10, b11⟩ := id hS
  obtain ⟨c0, ⟨ms, mk, c1, c2, c3, c4⟩, c5⟩ := id hC
  unfold mOb at c0
  unfold LvS at hL
  show Ev tb 171 0 [some (.ref 111), some (.int (nI 2))] [] H _
  refine ev_iload_n i171_0 rfl ?_
  refine ev_tabIn (o := 65) (t := 66) i171_1 (by decide) (by decide) (by decide) ?_
  refine ev_aload_n i171_66 rfl ?_
  refine ev_get i171_67 ci171 fl8_16 (by assumption) rfl ?_
  refine ev_bipush (v := nI 26) i171_70 (by decide) ?_
  refine ev_iald_n i171_72 (by assumption) (by omega) ?_
  have hh : g 26 = s.2.2.2.2.2.1 := hL.2.2.2.2.2.2
  rw [hh]
  refine ev_iret i171_73 (by decide +kernel) ?_
  exact ⟨rfl, hI, Off.rf⟩
theorem y171_3 {tb : dxT} {H : dxH} {tx : Nat → Nat} {ln n : Nat} {sd kd : Nat → Nat} {s : Sn} {am : Nat} {stk : Nat → Sn} {kp : Nat → Bool} {ks : Nat → Sn} {tm : Nat} {tc th : Nat → Nat} {td : Nat → Bool} {sed : Int64} (hI : MInv H tx ln n sd kd s am stk kp ks tm tc th td sed) (hS : SpOK tx ln n sd kd s am stk kp ks tm tc th) : Cl tb 171 [.ref 111, .int (nI 3)] H (fun r H' => r = some (.int (bI s.2.1)) ∧ MInv H' tx ln n sd kd s am stk kp ks tm tc th td sed ∧ Off mC H H') := by
  obtain ⟨f, g, nx, ⟨hC, hL, e3, e6, e7, e8, hnx⟩, hR⟩ := id hI
  obtain ⟨⟨b1, b2⟩, b3, b4, b5, b6, b7, b8, b9, b10, b11⟩ := id hS
  obtain ⟨c0, ⟨ms, mk, c1, c2, c3, c4⟩, c5⟩ := id hC
  unfold mOb at c0
  unfold LvS at hL
  show Ev tb 171 0 [some (.ref 111), some (.int (nI 3))] [] H _
  refine ev_iload_n i171_0 rfl ?_
  refine ev_tabIn (o := 73) (t := 74) i171_1 (by decide) (by decide) (by decide) ?_
  refine ev_aload_n i171_74 rfl ?_
  refine ev_get i171_75 ci171 fl8_16 (by assumption) rfl ?_
  refine ev_bipush (v := nI 22) i171_78 (by decide) ?_
  refine ev_iald_n i171_80 (by assumption) (by omega) ?_
  have hh : g 22 = bI s.2.1 := hL.2.2.2.1
  rw [hh]
  refine ev_iret i171_81 (by decide +kernel) ?_
  exact ⟨rfl, hI, Off.rf⟩
theorem y171_4 {tb : dxT} {H : dxH} {tx : Nat → Nat} {ln n : Nat} {sd kd : Nat → Nat} {s : Sn} {am : Nat} {stk : Nat → Sn} {kp : Nat → Bool} {ks : Nat → Sn} {tm : Nat} {tc th : Nat → Nat} {td : Nat → Bool} {sed : Int64} (hI : MInv H tx ln n sd kd s am stk kp ks tm tc th td sed) (hS : SpOK tx ln n sd kd s am stk kp ks tm tc th) : Cl tb 171 [.ref 111, .int (nI 4)] H (fun r H' => r = some (.int (s.2.2.2.2.1 0)) ∧ MInv H' tx ln n sd kd s am stk kp ks tm tc th td sed ∧ Off mC H H') := by
  obtain ⟨f, g, nx, ⟨hC, hL, e3, e6, e7, e8, hnx⟩, hR⟩ := id hI
  obtain ⟨⟨b1, b2⟩, b3, b4, b5, b6, b7, b8, b9, b10, b11⟩ := id hS
  obtain ⟨c0, ⟨ms, mk, c1, c2, c3, c4⟩, c5⟩ := id hC
  unfold mOb at c0
  unfold LvS at hL
  show Ev tb 171 0 [some (.ref 111), some (.int (nI 4))] [] H _
  refine ev_iload_n i171_0 rfl ?_
  refine ev_tabIn (o := 81) (t := 82) i171_1 (by decide) (by decide) (by decide) ?_
  refine ev_aload_n i171_82 rfl ?_
  refine ev_get i171_83 ci171 fl8_16 (by assumption) rfl ?_
  refine ev_bipush (v := nI 23) i171_86 (by decide) ?_
  refine ev_iald_n i171_88 (by assumption) (by omega) ?_
  have hh : g 23 = s.2.2.2.2.1 0 := hL.2.2.2.2.1 0 (by decide)
  rw [hh]
  refine ev_iret i171_89 (by decide +kernel) ?_
  exact ⟨rfl, hI, Off.rf⟩
theorem y171_5 {tb : dxT} {H : dxH} {tx : Nat → Nat} {ln n : Nat} {sd kd : Nat → Nat} {s : Sn} {am : Nat} {stk : Nat → Sn} {kp : Nat → Bool} {ks : Nat → Sn} {tm : Nat} {tc th : Nat → Nat} {td : Nat → Bool} {sed : Int64} (hI : MInv H tx ln n sd kd s am stk kp ks tm tc th td sed) (hS : SpOK tx ln n sd kd s am stk kp ks tm tc th) : Cl tb 171 [.ref 111, .int (nI 5)] H (fun r H' => r = some (.int (s.2.2.2.2.1 1)) ∧ MInv H' tx ln n sd kd s am stk kp ks tm tc th td sed ∧ Off mC H H') := by
  obtain ⟨f, g, nx, ⟨hC, hL, e3, e6, e7, e8, hnx⟩, hR⟩ := id hI
  obtain ⟨⟨b1, b2⟩, b3, b4, b5, b6, b7, b8, b9, b10, b11⟩ := id hS
  obtain ⟨c0, ⟨ms, mk, c1, c2, c3, c4⟩, c5⟩ := id hC
  unfold mOb at c0
  unfold LvS at hL
  show Ev tb 171 0 [some (.ref 111), some (.int (nI 5))] [] H _
  refine ev_iload_n i171_0 rfl ?_
  refine ev_tabIn (o := 89) (t := 90) i171_1 (by decide) (by decide) (by decide) ?_
  refine ev_aload_n i171_90 rfl ?_
  refine ev_get i171_91 ci171 fl8_16 (by assumption) rfl ?_
  refine ev_bipush (v := nI 24) i171_94 (by decide) ?_
  refine ev_iald_n i171_96 (by assumption) (by omega) ?_
  have hh : g 24 = s.2.2.2.2.1 1 := hL.2.2.2.2.1 1 (by decide)
  rw [hh]
  refine ev_iret i171_97 (by decide +kernel) ?_
  exact ⟨rfl, hI, Off.rf⟩
theorem y171_6 {tb : dxT} {H : dxH} {tx : Nat → Nat} {ln n : Nat} {sd kd : Nat → Nat} {s : Sn} {am : Nat} {stk : Nat → Sn} {kp : Nat → Bool} {ks : Nat → Sn} {tm : Nat} {tc th : Nat → Nat} {td : Nat → Bool} {sed : Int64} (hI : MInv H tx ln n sd kd s am stk kp ks tm tc th td sed) (hS : SpOK tx ln n sd kd s am stk kp ks tm tc th) : Cl tb 171 [.ref 111, .int (nI 6)] H (fun r H' => r = some (.int s.2.2.2.2.2.2) ∧ MInv H' tx ln n sd kd s am stk kp ks tm tc th td sed ∧ Off mC H H') := by
  obtain ⟨f, g, nx, ⟨hC, hL, e3, e6, e7, e8, hnx⟩, hR⟩ := id hI
  obtain ⟨⟨b1, b2⟩, b3, b4, b5, b6, b7, b8, b9, b10, b11⟩ := id hS
  obtain ⟨c0, ⟨ms, mk, c1, c2, c3, c4⟩, c5⟩ := id hC
  unfold mOb at c0
  unfold LvS at hL
  show Ev tb 171 0 [some (.ref 111), some (.int (nI 6))] [] H _
  refine ev_iload_n i171_0 rfl ?_
  refine ev_tabIn (o := 97) (t := 98) i171_1 (by decide) (by decide) (by decide) ?_
  refine ev_aload_n i171_98 rfl ?_
  refine ev_get i171_99 ci171 fl8_16 (by assumption) rfl ?_
  refine ev_bipush (v := nI 25) i171_102 (by decide) ?_
  refine ev_iald_n i171_104 (by assumption) (by omega) ?_
  have hh : g 25 = s.2.2.2.2.2.2 := hL.2.2.2.2.2.1
  rw [hh]
  refine ev_iret i171_105 (by decide +kernel) ?_
  exact ⟨rfl, hI, Off.rf⟩
theorem y171_7 {tb : dxT} {H : dxH} {tx : Nat → Nat} {ln n : Nat} {sd kd : Nat → Nat} {s : Sn} {am : Nat} {stk : Nat → Sn} {kp : Nat → Bool} {ks : Nat → Sn} {tm : Nat} {tc th : Nat → Nat} {td : Nat → Bool} {sed : Int64} (hI : MInv H tx ln n sd kd s am stk kp ks tm tc th td sed) (hS : SpOK tx ln n sd kd s am stk kp ks tm tc th) : Cl tb 171 [.ref 111, .int (nI 7)] H (fun r H' => r = some (.int (nI (srtF (HE n) kd s.2.2.2.1 s.2.1 false))) ∧ MInv H' tx ln n sd kd s am stk kp ks tm tc th td sed ∧ Off mC H H') := by
  obtain ⟨f, g, nx, ⟨hC, hL, e3, e6, e7, e8, hnx⟩, hR⟩ := id hI
  obtain ⟨⟨b1, b2⟩, b3, b4, b5, b6, b7, b8, b9, b10, b11⟩ := id hS
  obtain ⟨c0, ⟨ms, mk, c1, c2, c3, c4⟩, c5⟩ := id hC
  unfold mOb at c0
  unfold LvS at hL
  show Ev tb 171 0 [some (.ref 111), some (.int (nI 7))] [] H _
  refine ev_iload_n i171_0 rfl ?_
  refine ev_tabIn (o := 105) (t := 106) i171_1 (by decide) (by decide) (by decide) ?_
  refine ev_aload_n i171_106 rfl ?_
  refine ev_iconst (v := nI 0) i171_107 (by decide) ?_
  refine ev_bipush (v := nI 63) i171_108 (by decide) ?_
  refine ev_iconst (v := nI 0) i171_110 (by decide) ?_
  refine ev_callV (vs := [.int (nI 0), .int (nI 63), .int (nI 0)]) (rest := []) i171_111 ci171 lk8_118 (congrArg (fun q => q + 1) np133) ci133 (by decide) (by decide +kernel) (Nat.le_of_ble_eq_true rfl) ⟨rfl, rfl, Nat.le_of_ble_eq_true rfl⟩ rfl (by assumption) (c133 (l := 0) (rg := false) hC b3 b5 hL (by decide) b6.2.2.1 (by decide)) (fun r HH hq => ?_)
  obtain ⟨rfl, rfl⟩ := hq
  rw [and63 n (by omega)]
  show Ev tb 171 114 [some (.ref 111), some (.int (nI 7))] [.int (nI (srtF (HE n) kd s.2.2.2.1 s.2.1 false))] H _
  refine ev_iret i171_114 (by decide +kernel) ?_
  exact ⟨rfl, hI, Off.rf⟩
theorem y171_8 {tb : dxT} {H : dxH} {tx : Nat → Nat} {ln n : Nat} {sd kd : Nat → Nat} {s : Sn} {am : Nat} {stk : Nat → Sn} {kp : Nat → Bool} {ks : Nat → Sn} {tm : Nat} {tc th : Nat → Nat} {td : Nat → Bool} {sed : Int64} (hI : MInv H tx ln n sd kd s am stk kp ks tm tc th td sed) (hS : SpOK tx ln n sd kd s am stk kp ks tm tc th) : Cl tb 171 [.ref 111, .int (nI 8)] H (fun r H' => r = some (.int (nI am)) ∧ MInv H' tx ln n sd kd s am stk kp ks tm tc th td sed ∧ Off mC H H') := by
  obtain ⟨f, g, nx, ⟨hC, hL, e3, e6, e7, e8, hnx⟩, hR⟩ := id hI
  obtain ⟨⟨b1, b2⟩, b3, b4, b5, b6, b7, b8, b9, b10, b11⟩ := id hS
  obtain ⟨c0, ⟨ms, mk, c1, c2, c3, c4⟩, c5⟩ := id hC
  unfold mOb at c0
  unfold LvS at hL
  show Ev tb 171 0 [some (.ref 111), some (.int (nI 8))] [] H _
  refine ev_iload_n i171_0 rfl ?_
  refine ev_tabIn (o := 114) (t := 115) i171_1 (by decide) (by decide) (by decide) ?_
  refine ev_aload_n i171_115 rfl ?_
  refine ev_get i171_116 ci171 fl8_105 (by assumption) rfl ?_
  rw [e6]
  refine ev_iret i171_119 (by decide +kernel) ?_
  exact ⟨rfl, hI, Off.rf⟩
theorem y171_9 {tb : dxT} {H : dxH} {tx : Nat → Nat} {ln n : Nat} {sd kd : Nat → Nat} {s : Sn} {am : Nat} {stk : Nat → Sn} {kp : Nat → Bool} {ks : Nat → Sn} {tm : Nat} {tc th : Nat → Nat} {td : Nat → Bool} {sed : Int64} (hI : MInv H tx ln n sd kd s am stk kp ks tm tc th td sed) (hS : SpOK tx ln n sd kd s am stk kp ks tm tc th) : Cl tb 171 [.ref 111, .int (nI 9)] H (fun r H' => r = some (.int (nI tm)) ∧ MInv H' tx ln n sd kd s am stk kp ks tm tc th td sed ∧ Off mC H H') := by
  obtain ⟨f, g, nx, ⟨hC, hL, e3, e6, e7, e8, hnx⟩, hR⟩ := id hI
  obtain ⟨⟨b1, b2⟩, b3, b4, b5, b6, b7, b8, b9, b10, b11⟩ := id hS
  obtain ⟨c0, ⟨ms, mk, c1, c2, c3, c4⟩, c5⟩ := id hC
  unfold mOb at c0
  unfold LvS at hL
  show Ev tb 171 0 [some (.ref 111), some (.int (nI 9))] [] H _
  refine ev_iload_n i171_0 rfl ?_
  refine ev_tabIn (o := 119) (t := 120) i171_1 (by decide) (by decide) (by decide) ?_
  refine ev_aload_n i171_120 rfl ?_
  refine ev_get i171_121 ci171 fl8_174 (by assumption) rfl ?_
  rw [e8]
  refine ev_iret i171_124 (by decide +kernel) ?_
  exact ⟨rfl, hI, Off.rf⟩
theorem y171o {tb : dxT} {H : dxH} {tx : Nat → Nat} {ln n : Nat} {sd kd : Nat → Nat} {s : Sn} {am : Nat} {stk : Nat → Sn} {kp : Nat → Bool} {ks : Nat → Sn} {tm : Nat} {tc th : Nat → Nat} {td : Nat → Bool} {sed : Int64} {y : Int32} (hI : MInv H tx ln n sd kd s am stk kp ks tm tc th td sed) (hS : SpOK tx ln n sd kd s am stk kp ks tm tc th) (h : inR y 10 = false) : Cl tb 171 [.ref 111, .int y] H (fun r H' => r = some (.int (-2)) ∧ MInv H' tx ln n sd kd s am stk kp ks tm tc th td sed ∧ Off mC H H') := by
  obtain ⟨f, g, nx, ⟨hC, hL, e3, e6, e7, e8, hnx⟩, hR⟩ := id hI
  obtain ⟨⟨b1, b2⟩, b3, b4, b5, b6, b7, b8, b9, b10, b11⟩ := id hS
  obtain ⟨c0, ⟨ms, mk, c1, c2, c3, c4⟩, c5⟩ := id hC
  unfold mOb at c0
  have h2 := inR_f (by decide) h
  show Ev tb 171 0 [some (.ref 111), some (.int y)] [] H _
  refine ev_iload_n i171_0 rfl ?_
  refine ev_tabOut (t := 125) i171_1 (by omega) (by decide) ?_
  refine ev_bipush (v := (-2)) i171_125 (by decide) ?_
  refine ev_iret i171_127 (by decide +kernel) ?_
  exact ⟨rfl, hI, Off.rf⟩
theorem MRest.tel {H H' : dxH} {tx : Nat → Nat} {ln n am nx : Nat} {stk : Nat → Sn} {kp : Nat → Bool} {ks : Nat → Sn} {tm tm' : Nat} {tc th tc' th' : Nat → Nat} {td td' : Nat → Bool} {A : Nat → Prop} {a b : Nat → Int32} {c : Nat → Bool} (h : MRest H tx ln n am nx stk kp ks tm tc th td) (hO : Off A H H') (hA : ∀ j, 115 ≤ j → j ≤ 126 → ¬ (121 ≤ j ∧ j ≤ 123) → ¬ A j) (ha : H'[121]? = some (.inl (0, 6, .inl a))) (hb : H'[122]? = some (.inl (0, 6, .inl b))) (hc : H'[123]? = some (ZA 6 c)) (ht : ∀ i, i < tm' → a i = nI (tc' i) ∧ b i = nI (th' i) ∧ c i = td' i) : MRest H' tx ln n am nx stk kp ks tm' tc' th' td' := by
  obtain ⟨⟨rw, h1, h2⟩, ⟨mt, h3, h4⟩, _, ⟨kq, kg, h9, i1, i2, i3⟩, ⟨q1, i4⟩, ⟨q2, i5⟩, ⟨q3, i6⟩, ⟨q4, i7⟩, q5, i8⟩ := h
  have o : ∀ (j : Nat) (e : dxE), 115 ≤ j → j ≤ 126 → ¬ (121 ≤ j ∧ j ≤ 123) → H[j]? = some e → H'[j]? = some e := fun j e a b c hj => hO.at hj (hA j a b c)
  exact ⟨⟨rw, o _ _ (by decide) (by decide) (by decide) h1, h2⟩, ⟨mt, o _ _ (by decide) (by decide) (by decide) h3, h4⟩, ⟨a, b, c, ha, hb, hc, ht⟩, ⟨kq, kg, o _ _ (by decide) (by decide) (by decide) h9, i1, o _ _ (by decide) (by decide) (by decide) i2, i3⟩, ⟨q1, o _ _ (by decide) (by decide) (by decide) i4⟩, ⟨q2, o _ _ (by decide) (by decide) (by decide) i5⟩, ⟨q3, o _ _ (by decide) (by decide) (by decide) i6⟩, ⟨q4, o _ _ (by decide) (by decide) (by decide) i7⟩, q5, o _ _ (by decide) (by decide) (by decide) i8⟩
theorem y159 {tb : dxT} {H : dxH} {tx : Nat → Nat} {ln n : Nat} {sd kd : Nat → Nat} {s : Sn} {am : Nat} {stk : Nat → Sn} {kp : Nat → Bool} {ks : Nat → Sn} {tm : Nat} {tc th : Nat → Nat} {td : Nat → Bool} {sed : Int64} {k h : Nat} {b : Bool} (hI : MInv H tx ln n sd kd s am stk kp ks tm tc th td sed) (hS : SpOK tx ln n sd kd s am stk kp ks tm tc th) (hk : k < n) (hh : h < 8) (hm : tm < 6) : Cl tb 159 [.ref 111, .int (nI k), .int (nI h), .int (bI b)] H (fun r H' => r = some (.int (nI (tm + 1))) ∧ MInv H' tx ln n sd kd s am stk kp ks (tm + 1) (updN tc tm k) (updN th tm h) (updB td tm b) sed ∧ Off mC H H') := by
  obtain ⟨f, g, nx, ⟨hC, hL, e3, e6, e7, e8, hnx⟩, hR⟩ := id hI
  obtain ⟨⟨b1, b2⟩, b3, b4, b5, b6, b7, b8, b9, b10, b11⟩ := id hS
  obtain ⟨c0, ⟨ms, mk, c1, c2, c3, c4⟩, c5⟩ := id hC
  unfold mOb at c0
  obtain ⟨_, _, ⟨aa, bb, cc, ta, tb1, tc1, t1⟩, _⟩ := id hR
  have hO : Off (fun j => j = 111 ∨ (121 ≤ j ∧ j ≤ 123)) H H := Off.rf
  show Ev tb 159 0 [some (.ref 111), some (.int (nI k)), some (.int (nI h)), some (.int (bI b))] [] H _
  refine ev_aload_n i159_0 rfl ?_
  refine ev_iload_n i159_1 rfl ?_
  refine ev_callV (vs := [.int (nI k)]) (rest := []) i159_2 ci159 lk8_108 (congrArg (fun q => q + 1) np128) ci128 (by decide) (by decide +kernel) (Nat.le_of_ble_eq_true rfl) ⟨rfl, rfl, Nat.le_of_ble_eq_true rfl⟩ rfl (by assumption) (c128 hC b3 b5) (fun r HH hq => ?_)
  obtain ⟨rfl, rfl⟩ := hq
  rw [inR_n (by omega) (by omega), decide_eq_true hk]
  show Ev tb 159 5 [some (.ref 111), some (.int (nI k)), some (.int (nI h)), some (.int (bI b))] [.int (bI true)] H _
  refine evb_if_ne (t := 10) i159_5 (by decide) (fun z5 => ?_) (fun z5 => by exfalso; cases z5)
  refine ev_iload_n i159_10 rfl ?_
  refine ev_i2l i159_11 ?_
  refine ev_lconst (v := 0) i159_12 (by decide) ?_
  refine ev_ldc2 i159_13 ci159 ks8_172 ?_
  refine ev_callS (vs := [.long ((nI h).toInt64), .long 0, .long 7]) (rest := []) i159_16 ci159 lk8_62 (Or.inl rfl) np117 (by decide +kernel) (Nat.le_of_ble_eq_true rfl) ⟨rfl, rfl, Nat.le_of_ble_eq_true rfl⟩ rfl (c117) (fun r HH hq => ?_)
  obtain ⟨rfl, rfl⟩ := hq
  rw [inJ_R (x := nI h) (m := 8) (by decide) (by decide), inR_n (by omega) (by decide), decide_eq_true hh]
  show Ev tb 159 19 [some (.ref 111), some (.int (nI k)), some (.int (nI h)), some (.int (bI b))] [.int (bI true)] H _
  refine evb_if_ne (t := 25) i159_19 (by decide) (fun z19 => ?_) (fun z19 => by exfalso; cases z19)
  refine ev_aload_n i159_25 rfl ?_
  refine ev_get i159_26 ci159 fl8_174 (by assumption) rfl ?_
  rw [e8]
  refine ev_bipush (v := nI 6) i159_29 (by decide) ?_
  refine evn_icmp_ne (t := 37) i159_31 (by decide) (by omega) (fun z31 => ?_) (fun z31 => by exfalso; omega)
  refine ev_aload_n i159_37 rfl ?_
  refine ev_get i159_38 ci159 fl8_37 (by assumption) rfl ?_
  refine ev_aload_n i159_41 rfl ?_
  refine ev_get i159_42 ci159 fl8_174 (by assumption) rfl ?_
  rw [e8]
  refine ev_iload_n i159_45 rfl ?_
  refine evs_iastw i159_46 (by assumption) (by omega) (fun H1 hH1 => ?_)
  have c0 : H1[111]? = some (.inr (8, [.int (nI n), .ref 112, .ref 113, .ref 114, .ref 115, .ref 116, .ref 117, .int (f 0), .int (f 1), .int (f 2), .ref 118, .int (f 3), .int (f 4), .int (f 5), .int (f 6), .int (f 7), .ref 119, .ref 120, .int (f 8), .ref 121, .ref 122, .ref 123, .ref 124, .long sed, .ref 125, .ref 126])) := by rw [hH1]; exact set_ne c0 (by omega)
  have c1 : H1[112]? = some (.inl (0, 6, .inl ms)) := by rw [hH1]; exact set_ne c1 (by omega)
  have c3 : H1[113]? = some (.inl (0, 6, .inl mk)) := by rw [hH1]; exact set_ne c3 (by omega)
  have c5 : H1[114]? = some (.inl (0, 54, .inl g)) := by rw [hH1]; exact set_ne c5 (by omega)
  have ta : H1[121]? = some (.inl (0, 6, .inl (upd aa tm (nI k)))) := by rw [hH1]; exact set_self ta
  have tb1 : H1[122]? = some (.inl (0, 6, .inl bb)) := by rw [hH1]; exact set_ne tb1 (by omega)
  have tc1 : H1[123]? = some (ZA 6 cc) := by rw [hH1]; exact set_ne tc1 (by omega)
  have hO : Off (fun j => j = 111 ∨ (121 ≤ j ∧ j ≤ 123)) H H1 := by rw [hH1]; exact hO.set (by first | exact Or.inl rfl | exact Or.inr ⟨by decide, by decide⟩)
  refine ev_aload_n i159_47 rfl ?_
  refine ev_get i159_48 ci159 fl8_40 (by assumption) rfl ?_
  refine ev_aload_n i159_51 rfl ?_
  refine ev_get i159_52 ci159 fl8_174 (by assumption) rfl ?_
  rw [e8]
  refine ev_iload_n i159_55 rfl ?_
  refine evs_iastw i159_56 (by assumption) (by omega) (fun H2 hH2 => ?_)
  have c0 : H2[111]? = some (.inr (8, [.int (nI n), .ref 112, .ref 113, .ref 114, .ref 115, .ref 116, .ref 117, .int (f 0), .int (f 1), .int (f 2), .ref 118, .int (f 3), .int (f 4), .int (f 5), .int (f 6), .int (f 7), .ref 119, .ref 120, .int (f 8), .ref 121, .ref 122, .ref 123, .ref 124, .long sed, .ref 125, .ref 126])) := by rw [hH2]; exact set_ne c0 (by omega)
  have c1 : H2[112]? = some (.inl (0, 6, .inl ms)) := by rw [hH2]; exact set_ne c1 (by omega)
  have c3 : H2[113]? = some (.inl (0, 6, .inl mk)) := by rw [hH2]; exact set_ne c3 (by omega)
  have c5 : H2[114]? = some (.inl (0, 54, .inl g)) := by rw [hH2]; exact set_ne c5 (by omega)
  have ta : H2[121]? = some (.inl (0, 6, .inl (upd aa tm (nI k)))) := by rw [hH2]; exact set_ne ta (by omega)
  have tb1 : H2[122]? = some (.inl (0, 6, .inl (upd bb tm (nI h)))) := by rw [hH2]; exact set_self tb1
  have tc1 : H2[123]? = some (ZA 6 cc) := by rw [hH2]; exact set_ne tc1 (by omega)
  have hO : Off (fun j => j = 111 ∨ (121 ≤ j ∧ j ≤ 123)) H H2 := by rw [hH2]; exact hO.set (by first | exact Or.inl rfl | exact Or.inr ⟨by decide, by decide⟩)
  refine ev_aload_n i159_57 rfl ?_
  refine ev_get i159_58 ci159 fl8_43 (by assumption) rfl ?_
  refine ev_aload_n i159_61 rfl ?_
  refine ev_get i159_62 ci159 fl8_174 (by assumption) rfl ?_
  rw [e8]
  refine ev_iload_n i159_65 rfl ?_
  refine evz_bast i159_66 (by assumption) (by omega) (fun H3 hH3 => ?_)
  have c0 : H3[111]? = some (.inr (8, [.int (nI n), .ref 112, .ref 113, .ref 114, .ref 115, .ref 116, .ref 117, .int (f 0), .int (f 1), .int (f 2), .ref 118, .int (f 3), .int (f 4), .int (f 5), .int (f 6), .int (f 7), .ref 119, .ref 120, .int (f 8), .ref 121, .ref 122, .ref 123, .ref 124, .long sed, .ref 125, .ref 126])) := by rw [hH3]; exact set_ne c0 (by omega)
  have c1 : H3[112]? = some (.inl (0, 6, .inl ms)) := by rw [hH3]; exact set_ne c1 (by omega)
  have c3 : H3[113]? = some (.inl (0, 6, .inl mk)) := by rw [hH3]; exact set_ne c3 (by omega)
  have c5 : H3[114]? = some (.inl (0, 54, .inl g)) := by rw [hH3]; exact set_ne c5 (by omega)
  have ta : H3[121]? = some (.inl (0, 6, .inl (upd aa tm (nI k)))) := by rw [hH3]; exact set_ne ta (by omega)
  have tb1 : H3[122]? = some (.inl (0, 6, .inl (upd bb tm (nI h)))) := by rw [hH3]; exact set_ne tb1 (by omega)
  have tc1 : H3[123]? = some (ZA 6 (updB cc tm b)) := by rw [hH3]; exact set_self tc1
  have hO : Off (fun j => j = 111 ∨ (121 ≤ j ∧ j ≤ 123)) H H3 := by rw [hH3]; exact hO.set (by first | exact Or.inl rfl | exact Or.inr ⟨by decide, by decide⟩)
  refine ev_aload_n i159_67 rfl ?_
  refine ev_dup i159_68 rfl ?_
  refine ev_get i159_69 ci159 fl8_174 (by assumption) rfl ?_
  rw [e8]
  refine ev_iconst (v := nI 1) i159_72 (by decide) ?_
  refine evn_iadd i159_73 ?_
  refine evs_put (fs' := [.int (nI n), .ref 112, .ref 113, .ref 114, .ref 115, .ref 116, .ref 117, .int (f 0), .int (f 1), .int (f 2), .ref 118, .int (f 3), .int (f 4), .int (f 5), .int (f 6), .int (f 7), .ref 119, .ref 120, .int (nI (tm + 1)), .ref 121, .ref 122, .ref 123, .ref 124, .long sed, .ref 125, .ref 126]) i159_74 ci159 fl8_174 (by assumption) ⟨Nat.le_of_ble_eq_true rfl, rfl, Or.inl rfl⟩ rfl (fun H4 hH4 => ?_)
  have c0 : H4[111]? = some (.inr (8, [.int (nI n), .ref 112, .ref 113, .ref 114, .ref 115, .ref 116, .ref 117, .int (f 0), .int (f 1), .int (f 2), .ref 118, .int (f 3), .int (f 4), .int (f 5), .int (f 6), .int (f 7), .ref 119, .ref 120, .int (nI (tm + 1)), .ref 121, .ref 122, .ref 123, .ref 124, .long sed, .ref 125, .ref 126])) := by rw [hH4]; exact set_self c0
  have c1 : H4[112]? = some (.inl (0, 6, .inl ms)) := by rw [hH4]; exact set_ne c1 (by omega)
  have c3 : H4[113]? = some (.inl (0, 6, .inl mk)) := by rw [hH4]; exact set_ne c3 (by omega)
  have c5 : H4[114]? = some (.inl (0, 54, .inl g)) := by rw [hH4]; exact set_ne c5 (by omega)
  have ta : H4[121]? = some (.inl (0, 6, .inl (upd aa tm (nI k)))) := by rw [hH4]; exact set_ne ta (by omega)
  have tb1 : H4[122]? = some (.inl (0, 6, .inl (upd bb tm (nI h)))) := by rw [hH4]; exact set_ne tb1 (by omega)
  have tc1 : H4[123]? = some (ZA 6 (updB cc tm b)) := by rw [hH4]; exact set_ne tc1 (by omega)
  have hO : Off (fun j => j = 111 ∨ (121 ≤ j ∧ j ≤ 123)) H H4 := by rw [hH4]; exact hO.set (by first | exact Or.inl rfl | exact Or.inr ⟨by decide, by decide⟩)
  refine ev_aload_n i159_77 rfl ?_
  refine ev_get i159_78 ci159 fl8_174 (by assumption) rfl ?_
  refine ev_iret i159_81 (by decide +kernel) ?_
  exact ⟨rfl, ⟨upd f 8 (nI (tm + 1)), g, nx, ⟨⟨c0, ⟨ms, mk, c1, c2, c3, c4⟩, c5⟩, hL, e3, e6, e7, rfl, hnx⟩, hR.tel hO (fun j a b c => by omega) ta tb1 tc1 (fun i hi => by
    unfold upd updN updB
    by_cases q : i = tm
    · rw [if_pos q, if_pos q, if_pos q, if_pos q, if_pos q, if_pos q]
      exact ⟨rfl, rfl, rfl⟩
    · rw [if_neg q, if_neg q, if_neg q, if_neg q, if_neg q, if_neg q]
      exact t1 i (by omega))⟩, hO.weaken (fun j q => by unfold mC; omega)⟩
theorem y159f {tb : dxT} {H : dxH} {tx : Nat → Nat} {ln n : Nat} {sd kd : Nat → Nat} {s : Sn} {am : Nat} {stk : Nat → Sn} {kp : Nat → Bool} {ks : Nat → Sn} {tm : Nat} {tc th : Nat → Nat} {td : Nat → Bool} {sed : Int64} {k h : Nat} {b : Bool} (hI : MInv H tx ln n sd kd s am stk kp ks tm tc th td sed) (hS : SpOK tx ln n sd kd s am stk kp ks tm tc th) (hk : k < n) (hh : h < 8) (hm : ¬ tm < 6) : Cl tb 159 [.ref 111, .int (nI k), .int (nI h), .int (bI b)] H (fun r H' => r = some (.int (-4)) ∧ MInv H' tx ln n sd kd s am stk kp ks tm tc th td sed ∧ Off mC H H') := by
  obtain ⟨f, g, nx, ⟨hC, hL, e3, e6, e7, e8, hnx⟩, hR⟩ := id hI
  obtain ⟨⟨b1, b2⟩, b3, b4, b5, b6, b7, b8, b9, b10, b11⟩ := id hS
  obtain ⟨c0, ⟨ms, mk, c1, c2, c3, c4⟩, c5⟩ := id hC
  unfold mOb at c0
  show Ev tb 159 0 [some (.ref 111), some (.int (nI k)), some (.int (nI h)), some (.int (bI b))] [] H _
  refine ev_aload_n i159_0 rfl ?_
  refine ev_iload_n i159_1 rfl ?_
  refine ev_callV (vs := [.int (nI k)]) (rest := []) i159_2 ci159 lk8_108 (congrArg (fun q => q + 1) np128) ci128 (by decide) (by decide +kernel) (Nat.le_of_ble_eq_true rfl) ⟨rfl, rfl, Nat.le_of_ble_eq_true rfl⟩ rfl (by assumption) (c128 hC b3 b5) (fun r HH hq => ?_)
  obtain ⟨rfl, rfl⟩ := hq
  rw [inR_n (by omega) (by omega), decide_eq_true hk]
  show Ev tb 159 5 [some (.ref 111), some (.int (nI k)), some (.int (nI h)), some (.int (bI b))] [.int (bI true)] H _
  refine evb_if_ne (t := 10) i159_5 (by decide) (fun z5 => ?_) (fun z5 => by exfalso; cases z5)
  refine ev_iload_n i159_10 rfl ?_
  refine ev_i2l i159_11 ?_
  refine ev_lconst (v := 0) i159_12 (by decide) ?_
  refine ev_ldc2 i159_13 ci159 ks8_172 ?_
  refine ev_callS (vs := [.long ((nI h).toInt64), .long 0, .long 7]) (rest := []) i159_16 ci159 lk8_62 (Or.inl rfl) np117 (by decide +kernel) (Nat.le_of_ble_eq_true rfl) ⟨rfl, rfl, Nat.le_of_ble_eq_true rfl⟩ rfl (c117) (fun r HH hq => ?_)
  obtain ⟨rfl, rfl⟩ := hq
  rw [inJ_R (x := nI h) (m := 8) (by decide) (by decide), inR_n (by omega) (by decide), decide_eq_true hh]
  show Ev tb 159 19 [some (.ref 111), some (.int (nI k)), some (.int (nI h)), some (.int (bI b))] [.int (bI true)] H _
  refine evb_if_ne (t := 25) i159_19 (by decide) (fun z19 => ?_) (fun z19 => by exfalso; cases z19)
  refine ev_aload_n i159_25 rfl ?_
  refine ev_get i159_26 ci159 fl8_174 (by assumption) rfl ?_
  rw [e8]
  refine ev_bipush (v := nI 6) i159_29 (by decide) ?_
  refine evn_icmp_ne (t := 37) i159_31 (by decide) (by omega) (fun z31 => by exfalso; omega) (fun z31 => ?_)
  refine ev_bipush (v := (-4)) i159_34 (by decide) ?_
  refine ev_iret i159_36 (by decide +kernel) ?_
  exact ⟨rfl, hI, Off.rf⟩
theorem y159u {tb : dxT} {H : dxH} {tx : Nat → Nat} {ln n : Nat} {sd kd : Nat → Nat} {s : Sn} {am : Nat} {stk : Nat → Sn} {kp : Nat → Bool} {ks : Nat → Sn} {tm : Nat} {tc th : Nat → Nat} {td : Nat → Bool} {sed : Int64} {x y : Int32} {b : Bool} (hI : MInv H tx ln n sd kd s am stk kp ks tm tc th td sed) (hS : SpOK tx ln n sd kd s am stk kp ks tm tc th) (h : inR x n = false) : Cl tb 159 [.ref 111, .int x, .int y, .int (bI b)] H (fun r H' => r = some (.int (-1)) ∧ MInv H' tx ln n sd kd s am stk kp ks tm tc th td sed ∧ Off mC H H') := by
  obtain ⟨f, g, nx, ⟨hC, hL, e3, e6, e7, e8, hnx⟩, hR⟩ := id hI
  obtain ⟨⟨b1, b2⟩, b3, b4, b5, b6, b7, b8, b9, b10, b11⟩ := id hS
  obtain ⟨c0, ⟨ms, mk, c1, c2, c3, c4⟩, c5⟩ := id hC
  unfold mOb at c0
  show Ev tb 159 0 [some (.ref 111), some (.int x), some (.int y), some (.int (bI b))] [] H _
  refine ev_aload_n i159_0 rfl ?_
  refine ev_iload_n i159_1 rfl ?_
  refine ev_callV (vs := [.int x]) (rest := []) i159_2 ci159 lk8_108 (congrArg (fun q => q + 1) np128) ci128 (by decide) (by decide +kernel) (Nat.le_of_ble_eq_true rfl) ⟨rfl, rfl, Nat.le_of_ble_eq_true rfl⟩ rfl (by assumption) (c128 hC b3 b5) (fun r HH hq => ?_)
  obtain ⟨rfl, rfl⟩ := hq
  rw [h]
  show Ev tb 159 5 [some (.ref 111), some (.int x), some (.int y), some (.int (bI b))] [.int (bI false)] H _
  refine evb_if_ne (t := 10) i159_5 (by decide) (fun z5 => by exfalso; cases z5) (fun z5 => ?_)
  refine ev_iconst (v := (-1)) i159_8 (by decide) ?_
  refine ev_iret i159_9 (by decide +kernel) ?_
  exact ⟨rfl, hI, Off.rf⟩
theorem y159o {tb : dxT} {H : dxH} {tx : Nat → Nat} {ln n : Nat} {sd kd : Nat → Nat} {s : Sn} {am : Nat} {stk : Nat → Sn} {kp : Nat → Bool} {ks : Nat → Sn} {tm : Nat} {tc th : Nat → Nat} {td : Nat → Bool} {sed : Int64} {k : Nat} {y : Int32} {b : Bool} (hI : MInv H tx ln n sd kd s am stk kp ks tm tc th td sed) (hS : SpOK tx ln n sd kd s am stk kp ks tm tc th) (hk : k < n) (h : inR y 8 = false) : Cl tb 159 [.ref 111, .int (nI k), .int y, .int (bI b)] H (fun r H' => r = some (.int (-2)) ∧ MInv H' tx ln n sd kd s am stk kp ks tm tc th td sed ∧ Off mC H H') := by
  obtain ⟨f, g, nx, ⟨hC, hL, e3, e6, e7, e8, hnx⟩, hR⟩ := id hI
  obtain ⟨⟨b1, b2⟩, b3, b4, b5, b6, b7, b8, b9, b10, b11⟩ := id hS
  obtain ⟨c0, ⟨ms, mk, c1, c2, c3, c4⟩, c5⟩ := id hC
  unfold mOb at c0
  show Ev tb 159 0 [some (.ref 111), some (.int (nI k)), some (.int y), some (.int (bI b))] [] H _
  refine ev_aload_n i159_0 rfl ?_
  refine ev_iload_n i159_1 rfl ?_
  refine ev_callV (vs := [.int (nI k)]) (rest := []) i159_2 ci159 lk8_108 (congrArg (fun q => q + 1) np128) ci128 (by decide) (by decide +kernel) (Nat.le_of_ble_eq_true rfl) ⟨rfl, rfl, Nat.le_of_ble_eq_true rfl⟩ rfl (by assumption) (c128 hC b3 b5) (fun r HH hq => ?_)
  obtain ⟨rfl, rfl⟩ := hq
  rw [inR_n (by omega) (by omega), decide_eq_true hk]
  show Ev tb 159 5 [some (.ref 111), some (.int (nI k)), some (.int y), some (.int (bI b))] [.int (bI true)] H _
  refine evb_if_ne (t := 10) i159_5 (by decide) (fun z5 => ?_) (fun z5 => by exfalso; cases z5)
  refine ev_iload_n i159_10 rfl ?_
  refine ev_i2l i159_11 ?_
  refine ev_lconst (v := 0) i159_12 (by decide) ?_
  refine ev_ldc2 i159_13 ci159 ks8_172 ?_
  refine ev_callS (vs := [.long y.toInt64, .long 0, .long 7]) (rest := []) i159_16 ci159 lk8_62 (Or.inl rfl) np117 (by decide +kernel) (Nat.le_of_ble_eq_true rfl) ⟨rfl, rfl, Nat.le_of_ble_eq_true rfl⟩ rfl (c117) (fun r HH hq => ?_)
  obtain ⟨rfl, rfl⟩ := hq
  rw [inJ_R (x := y) (m := 8) (by decide) (by decide), h]
  show Ev tb 159 19 [some (.ref 111), some (.int (nI k)), some (.int y), some (.int (bI b))] [.int (bI false)] H _
  refine evb_if_ne (t := 25) i159_19 (by decide) (fun z19 => by exfalso; cases z19) (fun z19 => ?_)
  refine ev_bipush (v := (-2)) i159_22 (by decide) ?_
  refine ev_iret i159_24 (by decide +kernel) ?_
  exact ⟨rfl, hI, Off.rf⟩
