/-! the model: a row changed, eating, an hour  -/
theorem Lv.cl {g : Nat → Int32} {o n : Nat} {ce : Nat → Nat} {sn : Bool} {x : Hs} {c v : Nat} (h : Lv g o n ce sn x) (hn : n ≤ 6) (hc : c < 10) : Lv (upd g (o + c) (nI v)) o n ce sn (updN x.1 c v, x.2) := by
  obtain ⟨h1, h2, h3, h4, h5, h6, h7⟩ := h
  exact ⟨fun j hj => by
    show upd g (o + c) (nI v) (o + j) = nI (updN x.1 c v j)
    unfold upd updN
    by_cases q : j = c
    · rw [if_pos (by omega), if_pos q]
    · rw [if_neg (by omega), if_neg q]
      exact h1 j hj, fun k hk => by
    unfold upd
    rw [if_neg (by omega)]
    exact h2 k hk, fun k hk => by
    unfold upd
    rw [if_neg (by omega)]
    exact h3 k hk, by
    unfold upd
    rw [if_neg (by omega)]
    exact h4, fun i hi => by
    unfold upd
    rw [if_neg (by omega)]
    exact h5 i hi, by
    unfold upd
    rw [if_neg (by omega)]
    exact h6, by
    unfold upd
    rw [if_neg (by omega)]
    exact h7⟩
theorem Lv.ce {g : Nat → Int32} {o n : Nat} {ce : Nat → Nat} {sn : Bool} {x : Hs} {c v : Nat} (h : Lv g o n ce sn x) (hn : n ≤ 6) (hc : c < n) : Lv (upd g (o + 10 + c) (nI v)) o n (updN ce c v) sn x := by
  obtain ⟨h1, h2, h3, h4, h5, h6, h7⟩ := h
  exact ⟨fun j hj => by
    unfold upd
    rw [if_neg (by omega)]
    exact h1 j hj, fun k hk => by
    show upd g (o + 10 + c) (nI v) (o + 10 + k) = nI (updN ce c v k)
    unfold upd updN
    by_cases q : k = c
    · rw [if_pos (by omega), if_pos q]
    · rw [if_neg (by omega), if_neg q]
      exact h2 k hk, fun k hk => by
    unfold upd
    rw [if_neg (by omega)]
    exact h3 k hk, by
    unfold upd
    rw [if_neg (by omega)]
    exact h4, fun i hi => by
    unfold upd
    rw [if_neg (by omega)]
    exact h5 i hi, by
    unfold upd
    rw [if_neg (by omega)]
    exact h6, by
    unfold upd
    rw [if_neg (by omega)]
    exact h7⟩
theorem Lv.fu {g : Nat → Int32} {o n : Nat} {ce : Nat → Nat} {sn : Bool} {x : Hs} {c v : Nat} (h : Lv g o n ce sn x) (hn : n ≤ 6) (hc : c < n) : Lv (upd g (o + 16 + c) (nI v)) o n ce sn (x.1, updN x.2.1 c v, x.2.2) := by
  obtain ⟨h1, h2, h3, h4, h5, h6, h7⟩ := h
  exact ⟨fun j hj => by
    unfold upd
    rw [if_neg (by omega)]
    exact h1 j hj, fun k hk => by
    unfold upd
    rw [if_neg (by omega)]
    exact h2 k hk, fun k hk => by
    show upd g (o + 16 + c) (nI v) (o + 16 + k) = nI (updN x.2.1 c v k)
    unfold upd updN
    by_cases q : k = c
    · rw [if_pos (by omega), if_pos q]
    · rw [if_neg (by omega), if_neg q]
      exact h3 k hk, by
    unfold upd
    rw [if_neg (by omega)]
    exact h4, fun i hi => by
    unfold upd
    rw [if_neg (by omega)]
    exact h5 i hi, by
    unfold upd
    rw [if_neg (by omega)]
    exact h6, by
    unfold upd
    rw [if_neg (by omega)]
    exact h7⟩
theorem Lv.sn {g : Nat → Int32} {o n : Nat} {ce : Nat → Nat} {sn : Bool} {x : Hs} {b : Bool} (h : Lv g o n ce sn x) (hn : n ≤ 6) : Lv (upd g (o + 22) (bI b)) o n ce b x := by
  obtain ⟨h1, h2, h3, h4, h5, h6, h7⟩ := h
  exact ⟨fun j hj => by
    unfold upd
    rw [if_neg (by omega)]
    exact h1 j hj, fun k hk => by
    unfold upd
    rw [if_neg (by omega)]
    exact h2 k hk, fun k hk => by
    unfold upd
    rw [if_neg (by omega)]
    exact h3 k hk, by
    unfold upd
    rw [if_pos rfl], fun i hi => by
    unfold upd
    rw [if_neg (by omega)]
    exact h5 i hi, by
    unfold upd
    rw [if_neg (by omega)]
    exact h6, by
    unfold upd
    rw [if_neg (by omega)]
    exact h7⟩
theorem Lv.wa {g : Nat → Int32} {o n : Nat} {ce : Nat → Nat} {sn : Bool} {x : Hs} {v : Int32} (h : Lv g o n ce sn x) (hn : n ≤ 6) : Lv (upd g (o + 25) v) o n ce sn (x.1, x.2.1, x.2.2.1, x.2.2.2.1, v) := by
  obtain ⟨h1, h2, h3, h4, h5, h6, h7⟩ := h
  exact ⟨fun j hj => by
    unfold upd
    rw [if_neg (by omega)]
    exact h1 j hj, fun k hk => by
    unfold upd
    rw [if_neg (by omega)]
    exact h2 k hk, fun k hk => by
    unfold upd
    rw [if_neg (by omega)]
    exact h3 k hk, by
    unfold upd
    rw [if_neg (by omega)]
    exact h4, fun i hi => by
    unfold upd
    rw [if_neg (by omega)]
    exact h5 i hi, by
    unfold upd
    rw [if_pos rfl], by
    unfold upd
    rw [if_neg (by omega)]
    exact h7⟩
theorem Lv.ho {g : Nat → Int32} {o n : Nat} {ce : Nat → Nat} {sn : Bool} {x : Hs} {v : Int32} (h : Lv g o n ce sn x) (hn : n ≤ 6) : Lv (upd g (o + 26) v) o n ce sn (x.1, x.2.1, x.2.2.1, v, x.2.2.2.2) := by
  obtain ⟨h1, h2, h3, h4, h5, h6, h7⟩ := h
  exact ⟨fun j hj => by
    unfold upd
    rw [if_neg (by omega)]
    exact h1 j hj, fun k hk => by
    unfold upd
    rw [if_neg (by omega)]
    exact h2 k hk, fun k hk => by
    unfold upd
    rw [if_neg (by omega)]
    exact h3 k hk, by
    unfold upd
    rw [if_neg (by omega)]
    exact h4, fun i hi => by
    unfold upd
    rw [if_neg (by omega)]
    exact h5 i hi, by
    unfold upd
    rw [if_neg (by omega)]
    exact h6, by
    unfold upd
    rw [if_pos rfl]⟩
theorem Lv.pa {g : Nat → Int32} {o n : Nat} {ce : Nat → Nat} {sn : Bool} {x : Hs} {c : Nat} {v : Int32} (h : Lv g o n ce sn x) (hn : n ≤ 6) (hc : c < 2) : Lv (upd g (o + 23 + c) v) o n ce sn (x.1, x.2.1, upd x.2.2.1 c v, x.2.2.2) := by
  obtain ⟨h1, h2, h3, h4, h5, h6, h7⟩ := h
  exact ⟨fun j hj => by
    unfold upd
    rw [if_neg (by omega)]
    exact h1 j hj, fun k hk => by
    unfold upd
    rw [if_neg (by omega)]
    exact h2 k hk, fun k hk => by
    unfold upd
    rw [if_neg (by omega)]
    exact h3 k hk, by
    unfold upd
    rw [if_neg (by omega)]
    exact h4, fun i hi => by
    show upd g (o + 23 + c) v (o + 23 + i) = upd x.2.2.1 c v i
    unfold upd
    by_cases q : i = c
    · rw [if_pos (by omega), if_pos q]
    · rw [if_neg (by omega), if_neg q]
      exact h5 i hi, by
    unfold upd
    rw [if_neg (by omega)]
    exact h6, by
    unfold upd
    rw [if_neg (by omega)]
    exact h7⟩
def ofL (l : Nat) (g g' : Nat → Int32) : Prop := ∀ j, (j < 27 * l ∨ 27 * l + 27 ≤ j) → g' j = g j
theorem ofL.rf {l : Nat} {g : Nat → Int32} : ofL l g g := fun _ _ => rfl
theorem ofL.tr {l : Nat} {g g1 g2 : Nat → Int32} (h1 : ofL l g g1) (h2 : ofL l g1 g2) : ofL l g g2 := fun j hj => (h2 j hj).trans (h1 j hj)
theorem ofL.up {l i : Nat} {v : Int32} {g g1 : Nat → Int32} (h : ofL l g g1) (hi : 27 * l ≤ i ∧ i < 27 * l + 27) : ofL l g (upd g1 i v) := fun j hj => by
  unfold upd
  rw [if_neg (by omega)]
  exact h j hj
theorem c134 {tb : dxT} {H : dxH} {n : Nat} {f : Nat → Int32} {sed : Int64} {sd kd : Nat → Nat} {g : Nat → Int32} {l k he : Nat} {ce : Nat → Nat} {sn : Bool} {x : Hs} (hC : MC H n f sed sd kd g) (hn : n ≤ 6) (b5 : ∀ j, kd j < 4) (hL : Lv g (27 * l) n ce sn x) (hl : l < 2) (hk : k < n) (hx : SOK x) (hce : ∀ j, ce j < 10) (hhe : he.testBit k = true) : Cl tb 134 [.ref 111, .int (nI l), .int (nI k)] H (fun r H' => r = none ∧ ∃ g', MC H' n f sed sd kd g' ∧ Lv g' (27 * l) n ce sn ((eatF he ce k (x.1, x.2.1)).1, (eatF he ce k (x.1, x.2.1)).2, x.2.2) ∧ ofL l g g' ∧ Off (fun j => j = 114) H H') := by
  obtain ⟨c0, ⟨ms, mk, c1, c2, c3, c4⟩, c5⟩ := id hC
  unfold mOb at c0
  have hx2 := hx.2.1 k
  have hx1 := hx.1 (ce k)
  have hk10 := hce k
  have hO : Off (fun j => j = 114) H H := Off.rf
  show Ev tb 134 0 [some (.ref 111), some (.int (nI l)), some (.int (nI k)), none, none, none] [] H _
  refine ev_bipush (v := nI 27) i134_0 (by decide) ?_
  refine ev_iload_n i134_2 rfl ?_
  refine evn_imul i134_3 ?_
  refine ev_istore_n (L' := [some (.ref 111), some (.int (nI l)), some (.int (nI k)), some (.int (nI (27 * l))), none, none]) i134_4 ⟨Nat.le_of_ble_eq_true rfl, rfl⟩ rfl ?_
  refine ev_iload_n i134_5 rfl ?_
  refine ev_aload_n i134_6 rfl ?_
  refine ev_get i134_7 ci134 fl8_16 (by assumption) rfl ?_
  refine ev_iload_n i134_10 rfl ?_
  refine ev_bipush (v := nI 10) i134_11 (by decide) ?_
  refine evn_iadd i134_13 ?_
  refine ev_iload_n i134_14 rfl ?_
  refine evn_iadd i134_15 ?_
  refine ev_iald_n i134_16 (by assumption) (by omega) ?_
  rw [show g (27 * l + 10 + k) = nI (ce k) from hL.2.1 k hk]
  refine evn_iadd i134_17 ?_
  refine ev_istore (L' := [some (.ref 111), some (.int (nI l)), some (.int (nI k)), some (.int (nI (27 * l))), some (.int (nI ((27 * l) + (ce k)))), none]) i134_18 ⟨Nat.le_of_ble_eq_true rfl, rfl⟩ rfl ?_
  refine ev_aload_n i134_20 rfl ?_
  refine ev_get i134_21 ci134 fl8_16 (by assumption) rfl ?_
  refine ev_iload i134_24 rfl ?_
  refine ev_iald_n i134_26 (by assumption) (by omega) ?_
  rw [show g (27 * l + ce k) = nI (x.1 (ce k)) from hL.1 (ce k) (hce k)]
  refine evn_if_le (t := 96) i134_27 (by decide) (by omega) (fun z27 => ?_) (fun z27 => ?_)
  · refine ev_vret i134_96 (by decide +kernel) ?_
    have e : (eatF he ce k (x.1, x.2.1)) = (x.1, x.2.1) := by
      unfold eatF
      exact if_neg (fun q => absurd q.2 (by show ¬ 0 < x.1 (ce k); omega))
    rw [e]
    exact ⟨rfl, g, hC, hL, ofL.rf, hO⟩
  · refine ev_aload_n i134_30 rfl ?_
    refine ev_get i134_31 ci134 fl8_16 (by assumption) rfl ?_
    refine ev_iload_n i134_34 rfl ?_
    refine ev_bipush (v := nI 16) i134_35 (by decide) ?_
    refine evn_iadd i134_37 ?_
    refine ev_iload_n i134_38 rfl ?_
    refine evn_iadd i134_39 ?_
    refine ev_iald_n i134_40 (by assumption) (by omega) ?_
    rw [show g (27 * l + 16 + k) = nI (x.2.1 k) from hL.2.2.1 k hk]
    refine ev_aload_n i134_41 rfl ?_
    refine ev_get i134_42 ci134 fl8_16 (by assumption) rfl ?_
    refine ev_iload i134_45 rfl ?_
    refine ev_iald_n i134_47 (by assumption) (by omega) ?_
    rw [show g (27 * l + ce k) = nI (x.1 (ce k)) from hL.1 (ce k) (hce k)]
    refine ev_iconst (v := nI 5) i134_48 (by decide) ?_
    refine evn_icmp_lt (t := 56) i134_49 (by decide) (by omega) (fun z49 => ?_) (fun z49 => ?_)
    · refine ev_iconst (v := nI 1) i134_56 (by decide) ?_
      refine evn_iadd i134_57 ?_
      refine ev_istore (L' := [some (.ref 111), some (.int (nI l)), some (.int (nI k)), some (.int (nI (27 * l))), some (.int (nI ((27 * l) + (ce k)))), some (.int (nI ((x.2.1 k) + 1)))]) i134_58 ⟨Nat.le_of_ble_eq_true rfl, rfl⟩ rfl ?_
      refine ev_aload_n i134_60 rfl ?_
      refine ev_get i134_61 ci134 fl8_16 (by assumption) rfl ?_
      refine ev_iload_n i134_64 rfl ?_
      refine ev_bipush (v := nI 16) i134_65 (by decide) ?_
      refine evn_iadd i134_67 ?_
      refine ev_iload_n i134_68 rfl ?_
      refine evn_iadd i134_69 ?_
      refine ev_iload i134_70 rfl ?_
      refine ev_bipush (v := nI 9) i134_72 (by decide) ?_
      refine evn_icmp_le (t := 82) i134_74 (by decide) (by omega) (fun z74 => ?_) (fun z74 => ?_)
      · refine ev_iload i134_82 rfl ?_
        refine evs_iastw i134_84 (by assumption) (by omega) (fun H1 hH1 => ?_)
        have c0 : H1[111]? = some (.inr (8, [.int (nI n), .ref 112, .ref 113, .ref 114, .ref 115, .ref 116, .ref 117, .int (f 0), .int (f 1), .int (f 2), .ref 118, .int (f 3), .int (f 4), .int (f 5), .int (f 6), .int (f 7), .ref 119, .ref 120, .int (f 8), .ref 121, .ref 122, .ref 123, .ref 124, .long sed, .ref 125, .ref 126])) := by rw [hH1]; exact set_ne c0 (by omega)
        have c1 : H1[112]? = some (.inl (0, 6, .inl ms)) := by rw [hH1]; exact set_ne c1 (by omega)
        have c3 : H1[113]? = some (.inl (0, 6, .inl mk)) := by rw [hH1]; exact set_ne c3 (by omega)
        have c5 : H1[114]? = some (.inl (0, 54, .inl (upd g (((27 * l) + 16) + k) (nI ((x.2.1 k) + 1))))) := by rw [hH1]; exact set_self c5
        have hO : Off (fun j => j = 114) H H1 := by rw [hH1]; exact hO.set (by rfl)
        have hL1 := hL.fu (v := (x.2.1 k + 1)) hn hk
        refine ev_aload_n i134_85 rfl ?_
        refine ev_get i134_86 ci134 fl8_16 (by assumption) rfl ?_
        refine ev_iload i134_89 rfl ?_
        refine ev_dup2 i134_91 rfl rfl ?_
        refine ev_iald_n i134_92 (by assumption) (by omega) ?_
        rw [show (upd g (((27 * l) + 16) + k) (nI ((x.2.1 k) + 1))) (27 * l + ce k) = nI (x.1 (ce k)) from hL1.1 (ce k) (hce k)]
        refine ev_iconst (v := nI 1) i134_93 (by decide) ?_
        refine evn_isub i134_94 (by omega) ?_
        refine evs_iastw i134_95 (by assumption) (by omega) (fun H2 hH2 => ?_)
        have c0 : H2[111]? = some (.inr (8, [.int (nI n), .ref 112, .ref 113, .ref 114, .ref 115, .ref 116, .ref 117, .int (f 0), .int (f 1), .int (f 2), .ref 118, .int (f 3), .int (f 4), .int (f 5), .int (f 6), .int (f 7), .ref 119, .ref 120, .int (f 8), .ref 121, .ref 122, .ref 123, .ref 124, .long sed, .ref 125, .ref 126])) := by rw [hH2]; exact set_ne c0 (by omega)
        have c1 : H2[112]? = some (.inl (0, 6, .inl ms)) := by rw [hH2]; exact set_ne c1 (by omega)
        have c3 : H2[113]? = some (.inl (0, 6, .inl mk)) := by rw [hH2]; exact set_ne c3 (by omega)
        have c5 : H2[114]? = some (.inl (0, 54, .inl (upd (upd g (((27 * l) + 16) + k) (nI ((x.2.1 k) + 1))) ((27 * l) + (ce k)) (nI ((x.1 (ce k)) - 1))))) := by rw [hH2]; exact set_self c5
        have hO : Off (fun j => j = 114) H H2 := by rw [hH2]; exact hO.set (by rfl)
        refine ev_vret i134_96 (by decide +kernel) ?_
        have e : (eatF he ce k (x.1, x.2.1)) = (updN x.1 (ce k) (x.1 (ce k) - 1), updN x.2.1 k (x.2.1 k + 1)) := by
          unfold eatF
          rw [if_pos ⟨hhe, (by show 0 < x.1 (ce k); omega)⟩]
          show (updN x.1 (ce k) (x.1 (ce k) - 1), updN x.2.1 k (if 9 < x.2.1 k + (if 5 ≤ x.1 (ce k) then 2 else 1) then 9 else x.2.1 k + (if 5 ≤ x.1 (ce k) then 2 else 1))) = _
          rw [if_neg (show ¬ 5 ≤ x.1 (ce k) by omega), if_neg (show ¬ 9 < x.2.1 k + 1 by omega)]
        rw [e]
        exact ⟨rfl, _, ⟨c0, ⟨ms, mk, c1, c2, c3, c4⟩, c5⟩, hL1.cl hn (hce k), (ofL.rf.up (by omega)).up (by omega), hO⟩
      · refine ev_bipush (v := nI 9) i134_77 (by decide) ?_
        refine ev_goto (t := 84) i134_79 (by decide) ?_
        refine evs_iastw i134_84 (by assumption) (by omega) (fun H1 hH1 => ?_)
        have c0 : H1[111]? = some (.inr (8, [.int (nI n), .ref 112, .ref 113, .ref 114, .ref 115, .ref 116, .ref 117, .int (f 0), .int (f 1), .int (f 2), .ref 118, .int (f 3), .int (f 4), .int (f 5), .int (f 6), .int (f 7), .ref 119, .ref 120, .int (f 8), .ref 121, .ref 122, .ref 123, .ref 124, .long sed, .ref 125, .ref 126])) := by rw [hH1]; exact set_ne c0 (by omega)
        have c1 : H1[112]? = some (.inl (0, 6, .inl ms)) := by rw [hH1]; exact set_ne c1 (by omega)
        have c3 : H1[113]? = some (.inl (0, 6, .inl mk)) := by rw [hH1]; exact set_ne c3 (by omega)
        have c5 : H1[114]? = some (.inl (0, 54, .inl (upd g (((27 * l) + 16) + k) (nI 9)))) := by rw [hH1]; exact set_self c5
        have hO : Off (fun j => j = 114) H H1 := by rw [hH1]; exact hO.set (by rfl)
        have hL1 := hL.fu (v := 9) hn hk
        refine ev_aload_n i134_85 rfl ?_
        refine ev_get i134_86 ci134 fl8_16 (by assumption) rfl ?_
        refine ev_iload i134_89 rfl ?_
        refine ev_dup2 i134_91 rfl rfl ?_
        refine ev_iald_n i134_92 (by assumption) (by omega) ?_
        rw [show (upd g (((27 * l) + 16) + k) (nI 9)) (27 * l + ce k) = nI (x.1 (ce k)) from hL1.1 (ce k) (hce k)]
        refine ev_iconst (v := nI 1) i134_93 (by decide) ?_
        refine evn_isub i134_94 (by omega) ?_
        refine evs_iastw i134_95 (by assumption) (by omega) (fun H2 hH2 => ?_)
        have c0 : H2[111]? = some (.inr (8, [.int (nI n), .ref 112, .ref 113, .ref 114, .ref 115, .ref 116, .ref 117, .int (f 0), .int (f 1), .int (f 2), .ref 118, .int (f 3), .int (f 4), .int (f 5), .int (f 6), .int (f 7), .ref 119, .ref 120, .int (f 8), .ref 121, .ref 122, .ref 123, .ref 124, .long sed, .ref 125, .ref 126])) := by rw [hH2]; exact set_ne c0 (by omega)
        have c1 : H2[112]? = some (.inl (0, 6, .inl ms)) := by rw [hH2]; exact set_ne c1 (by omega)
        have c3 : H2[113]? = some (.inl (0, 6, .inl mk)) := by rw [hH2]; exact set_ne c3 (by omega)
        have c5 : H2[114]? = some (.inl (0, 54, .inl (upd (upd g (((27 * l) + 16) + k) (nI 9)) ((27 * l) + (ce k)) (nI ((x.1 (ce k)) - 1))))) := by rw [hH2]; exact set_self c5
        have hO : Off (fun j => j = 114) H H2 := by rw [hH2]; exact hO.set (by rfl)
        refine ev_vret i134_96 (by decide +kernel) ?_
        have e : (eatF he ce k (x.1, x.2.1)) = (updN x.1 (ce k) (x.1 (ce k) - 1), updN x.2.1 k 9) := by
          unfold eatF
          rw [if_pos ⟨hhe, (by show 0 < x.1 (ce k); omega)⟩]
          show (updN x.1 (ce k) (x.1 (ce k) - 1), updN x.2.1 k (if 9 < x.2.1 k + (if 5 ≤ x.1 (ce k) then 2 else 1) then 9 else x.2.1 k + (if 5 ≤ x.1 (ce k) then 2 else 1))) = _
          rw [if_neg (show ¬ 5 ≤ x.1 (ce k) by omega), if_pos (show 9 < x.2.1 k + 1 by omega)]
        rw [e]
        exact ⟨rfl, _, ⟨c0, ⟨ms, mk, c1, c2, c3, c4⟩, c5⟩, hL1.cl hn (hce k), (ofL.rf.up (by omega)).up (by omega), hO⟩
    · refine ev_iconst (v := nI 2) i134_52 (by decide) ?_
      refine ev_goto (t := 57) i134_53 (by decide) ?_
      refine evn_iadd i134_57 ?_
      refine ev_istore (L' := [some (.ref 111), some (.int (nI l)), some (.int (nI k)), some (.int (nI (27 * l))), some (.int (nI ((27 * l) + (ce k)))), some (.int (nI ((x.2.1 k) + 2)))]) i134_58 ⟨Nat.le_of_ble_eq_true rfl, rfl⟩ rfl ?_
      refine ev_aload_n i134_60 rfl ?_
      refine ev_get i134_61 ci134 fl8_16 (by assumption) rfl ?_
      refine ev_iload_n i134_64 rfl ?_
      refine ev_bipush (v := nI 16) i134_65 (by decide) ?_
      refine evn_iadd i134_67 ?_
      refine ev_iload_n i134_68 rfl ?_
      refine evn_iadd i134_69 ?_
      refine ev_iload i134_70 rfl ?_
      refine ev_bipush (v := nI 9) i134_72 (by decide) ?_
      refine evn_icmp_le (t := 82) i134_74 (by decide) (by omega) (fun z74 => ?_) (fun z74 => ?_)
      · refine ev_iload i134_82 rfl ?_
        refine evs_iastw i134_84 (by assumption) (by omega) (fun H1 hH1 => ?_)
        have c0 : H1[111]? = some (.inr (8, [.int (nI n), .ref 112, .ref 113, .ref 114, .ref 115, .ref 116, .ref 117, .int (f 0), .int (f 1), .int (f 2), .ref 118, .int (f 3), .int (f 4), .int (f 5), .int (f 6), .int (f 7), .ref 119, .ref 120, .int (f 8), .ref 121, .ref 122, .ref 123, .ref 124, .long sed, .ref 125, .ref 126])) := by rw [hH1]; exact set_ne c0 (by omega)
        have c1 : H1[112]? = some (.inl (0, 6, .inl ms)) := by rw [hH1]; exact set_ne c1 (by omega)
        have c3 : H1[113]? = some (.inl (0, 6, .inl mk)) := by rw [hH1]; exact set_ne c3 (by omega)
        have c5 : H1[114]? = some (.inl (0, 54, .inl (upd g (((27 * l) + 16) + k) (nI ((x.2.1 k) + 2))))) := by rw [hH1]; exact set_self c5
        have hO : Off (fun j => j = 114) H H1 := by rw [hH1]; exact hO.set (by rfl)
        have hL1 := hL.fu (v := (x.2.1 k + 2)) hn hk
        refine ev_aload_n i134_85 rfl ?_
        refine ev_get i134_86 ci134 fl8_16 (by assumption) rfl ?_
        refine ev_iload i134_89 rfl ?_
        refine ev_dup2 i134_91 rfl rfl ?_
        refine ev_iald_n i134_92 (by assumption) (by omega) ?_
        rw [show (upd g (((27 * l) + 16) + k) (nI ((x.2.1 k) + 2))) (27 * l + ce k) = nI (x.1 (ce k)) from hL1.1 (ce k) (hce k)]
        refine ev_iconst (v := nI 1) i134_93 (by decide) ?_
        refine evn_isub i134_94 (by omega) ?_
        refine evs_iastw i134_95 (by assumption) (by omega) (fun H2 hH2 => ?_)
        have c0 : H2[111]? = some (.inr (8, [.int (nI n), .ref 112, .ref 113, .ref 114, .ref 115, .ref 116, .ref 117, .int (f 0), .int (f 1), .int (f 2), .ref 118, .int (f 3), .int (f 4), .int (f 5), .int (f 6), .int (f 7), .ref 119, .ref 120, .int (f 8), .ref 121, .ref 122, .ref 123, .ref 124, .long sed, .ref 125, .ref 126])) := by rw [hH2]; exact set_ne c0 (by omega)
        have c1 : H2[112]? = some (.inl (0, 6, .inl ms)) := by rw [hH2]; exact set_ne c1 (by omega)
        have c3 : H2[113]? = some (.inl (0, 6, .inl mk)) := by rw [hH2]; exact set_ne c3 (by omega)
        have c5 : H2[114]? = some (.inl (0, 54, .inl (upd (upd g (((27 * l) + 16) + k) (nI ((x.2.1 k) + 2))) ((27 * l) + (ce k)) (nI ((x.1 (ce k)) - 1))))) := by rw [hH2]; exact set_self c5
        have hO : Off (fun j => j = 114) H H2 := by rw [hH2]; exact hO.set (by rfl)
        refine ev_vret i134_96 (by decide +kernel) ?_
        have e : (eatF he ce k (x.1, x.2.1)) = (updN x.1 (ce k) (x.1 (ce k) - 1), updN x.2.1 k (x.2.1 k + 2)) := by
          unfold eatF
          rw [if_pos ⟨hhe, (by show 0 < x.1 (ce k); omega)⟩]
          show (updN x.1 (ce k) (x.1 (ce k) - 1), updN x.2.1 k (if 9 < x.2.1 k + (if 5 ≤ x.1 (ce k) then 2 else 1) then 9 else x.2.1 k + (if 5 ≤ x.1 (ce k) then 2 else 1))) = _
          rw [if_pos (show 5 ≤ x.1 (ce k) by omega), if_neg (show ¬ 9 < x.2.1 k + 2 by omega)]
        rw [e]
        exact ⟨rfl, _, ⟨c0, ⟨ms, mk, c1, c2, c3, c4⟩, c5⟩, hL1.cl hn (hce k), (ofL.rf.up (by omega)).up (by omega), hO⟩
      · refine ev_bipush (v := nI 9) i134_77 (by decide) ?_
        refine ev_goto (t := 84) i134_79 (by decide) ?_
        refine evs_iastw i134_84 (by assumption) (by omega) (fun H1 hH1 => ?_)
        have c0 : H1[111]? = some (.inr (8, [.int (nI n), .ref 112, .ref 113, .ref 114, .ref 115, .ref 116, .ref 117, .int (f 0), .int (f 1), .int (f 2), .ref 118, .int (f 3), .int (f 4), .int (f 5), .int (f 6), .int (f 7), .ref 119, .ref 120, .int (f 8), .ref 121, .ref 122, .ref 123, .ref 124, .long sed, .ref 125, .ref 126])) := by rw [hH1]; exact set_ne c0 (by omega)
        have c1 : H1[112]? = some (.inl (0, 6, .inl ms)) := by rw [hH1]; exact set_ne c1 (by omega)
        have c3 : H1[113]? = some (.inl (0, 6, .inl mk)) := by rw [hH1]; exact set_ne c3 (by omega)
        have c5 : H1[114]? = some (.inl (0, 54, .inl (upd g (((27 * l) + 16) + k) (nI 9)))) := by rw [hH1]; exact set_self c5
        have hO : Off (fun j => j = 114) H H1 := by rw [hH1]; exact hO.set (by rfl)
        have hL1 := hL.fu (v := 9) hn hk
        refine ev_aload_n i134_85 rfl ?_
        refine ev_get i134_86 ci134 fl8_16 (by assumption) rfl ?_
        refine ev_iload i134_89 rfl ?_
        refine ev_dup2 i134_91 rfl rfl ?_
        refine ev_iald_n i134_92 (by assumption) (by omega) ?_
        rw [show (upd g (((27 * l) + 16) + k) (nI 9)) (27 * l + ce k) = nI (x.1 (ce k)) from hL1.1 (ce k) (hce k)]
        refine ev_iconst (v := nI 1) i134_93 (by decide) ?_
        refine evn_isub i134_94 (by omega) ?_
        refine evs_iastw i134_95 (by assumption) (by omega) (fun H2 hH2 => ?_)
        have c0 : H2[111]? = some (.inr (8, [.int (nI n), .ref 112, .ref 113, .ref 114, .ref 115, .ref 116, .ref 117, .int (f 0), .int (f 1), .int (f 2), .ref 118, .int (f 3), .int (f 4), .int (f 5), .int (f 6), .int (f 7), .ref 119, .ref 120, .int (f 8), .ref 121, .ref 122, .ref 123, .ref 124, .long sed, .ref 125, .ref 126])) := by rw [hH2]; exact set_ne c0 (by omega)
        have c1 : H2[112]? = some (.inl (0, 6, .inl ms)) := by rw [hH2]; exact set_ne c1 (by omega)
        have c3 : H2[113]? = some (.inl (0, 6, .inl mk)) := by rw [hH2]; exact set_ne c3 (by omega)
        have c5 : H2[114]? = some (.inl (0, 54, .inl (upd (upd g (((27 * l) + 16) + k) (nI 9)) ((27 * l) + (ce k)) (nI ((x.1 (ce k)) - 1))))) := by rw [hH2]; exact set_self c5
        have hO : Off (fun j => j = 114) H H2 := by rw [hH2]; exact hO.set (by rfl)
        refine ev_vret i134_96 (by decide +kernel) ?_
        have e : (eatF he ce k (x.1, x.2.1)) = (updN x.1 (ce k) (x.1 (ce k) - 1), updN x.2.1 k 9) := by
          unfold eatF
          rw [if_pos ⟨hhe, (by show 0 < x.1 (ce k); omega)⟩]
          show (updN x.1 (ce k) (x.1 (ce k) - 1), updN x.2.1 k (if 9 < x.2.1 k + (if 5 ≤ x.1 (ce k) then 2 else 1) then 9 else x.2.1 k + (if 5 ≤ x.1 (ce k) then 2 else 1))) = _
          rw [if_pos (show 5 ≤ x.1 (ce k) by omega), if_pos (show 9 < x.2.1 k + 2 by omega)]
        rw [e]
        exact ⟨rfl, _, ⟨c0, ⟨ms, mk, c1, c2, c3, c4⟩, c5⟩, hL1.cl hn (hce k), (ofL.rf.up (by omega)).up (by omega), hO⟩
