/-! the model's share, rang  -/
theorem pop_eq8 : ∀ a, a < 256 → (((((((((nI 0) + (((nI a) >>> ((nI 0) &&& 31)) &&& (nI 1))) + (((nI a) >>> ((nI 1) &&& 31)) &&& (nI 1))) + (((nI a) >>> ((nI 2) &&& 31)) &&& (nI 1))) + (((nI a) >>> ((nI 3) &&& 31)) &&& (nI 1))) + (((nI a) >>> ((nI 4) &&& 31)) &&& (nI 1))) + (((nI a) >>> ((nI 5) &&& 31)) &&& (nI 1))) + (((nI a) >>> ((nI 6) &&& 31)) &&& (nI 1))) + (((nI a) >>> ((nI 7) &&& 31)) &&& (nI 1))) = nI (popN a) := by decide +kernel
theorem c119 {tb : dxT} {H : dxH} {a : Nat} (ha : a < 256) : Cl tb 119 [.int (nI a)] H (Rt (.int (nI (popN a))) H) := by
  show Ev tb 119 0 [some (.int (nI a)), none, none] [] H _
  refine ev_iconst (v := nI 0) i119_0 (by decide) ?_
  refine ev_istore_n (L' := [some (.int (nI a)), some (.int (nI 0)), none]) i119_1 ⟨Nat.le_of_ble_eq_true rfl, rfl⟩ rfl ?_
  refine ev_iconst (v := nI 0) i119_2 (by decide) ?_
  refine ev_istore_n (L' := [some (.int (nI a)), some (.int (nI 0)), some (.int (nI 0))]) i119_3 ⟨Nat.le_of_ble_eq_true rfl, rfl⟩ rfl ?_
  refine ev_iload_n i119_4 rfl ?_
  refine ev_bipush (v := nI 8) i119_5 (by decide) ?_
  refine evn_icmp_ge (t := 24) i119_7 (by decide) (by omega) (fun z7 => by exfalso; omega) (fun z7 => ?_)
  refine ev_iload_n i119_10 rfl ?_
  refine ev_iload_n i119_11 rfl ?_
  refine ev_iload_n i119_12 rfl ?_
  refine ev_ishr i119_13 ?_
  refine ev_iconst (v := nI 1) i119_14 (by decide) ?_
  refine ev_iand i119_15 ?_
  refine ev_iadd i119_16 ?_
  refine ev_istore_n (L' := [some (.int (nI a)), some (.int ((nI 0) + (((nI a) >>> ((nI 0) &&& 31)) &&& (nI 1)))), some (.int (nI 0))]) i119_17 ⟨Nat.le_of_ble_eq_true rfl, rfl⟩ rfl ?_
  refine evn_iinc (d := 1) (L' := [some (.int (nI a)), some (.int ((nI 0) + (((nI a) >>> ((nI 0) &&& 31)) &&& (nI 1)))), some (.int (nI 1))]) i119_18 rfl rfl (by decide) rfl ?_
  refine ev_goto (t := 4) i119_21 (by decide) ?_
  refine ev_iload_n i119_4 rfl ?_
  refine ev_bipush (v := nI 8) i119_5 (by decide) ?_
  refine evn_icmp_ge (t := 24) i119_7 (by decide) (by omega) (fun z7 => by exfalso; omega) (fun z7 => ?_)
  refine ev_iload_n i119_10 rfl ?_
  refine ev_iload_n i119_11 rfl ?_
  refine ev_iload_n i119_12 rfl ?_
  refine ev_ishr i119_13 ?_
  refine ev_iconst (v := nI 1) i119_14 (by decide) ?_
  refine ev_iand i119_15 ?_
  refine ev_iadd i119_16 ?_
  refine ev_istore_n (L' := [some (.int (nI a)), some (.int (((nI 0) + (((nI a) >>> ((nI 0) &&& 31)) &&& (nI 1))) + (((nI a) >>> ((nI 1) &&& 31)) &&& (nI 1)))), some (.int (nI 1))]) i119_17 ⟨Nat.le_of_ble_eq_true rfl, rfl⟩ rfl ?_
  refine evn_iinc (d := 1) (L' := [some (.int (nI a)), some (.int (((nI 0) + (((nI a) >>> ((nI 0) &&& 31)) &&& (nI 1))) + (((nI a) >>> ((nI 1) &&& 31)) &&& (nI 1)))), some (.int (nI 2))]) i119_18 rfl rfl (by decide) rfl ?_
  refine ev_goto (t := 4) i119_21 (by decide) ?_
  refine ev_iload_n i119_4 rfl ?_
  refine ev_bipush (v := nI 8) i119_5 (by decide) ?_
  refine evn_icmp_ge (t := 24) i119_7 (by decide) (by omega) (fun z7 => by exfalso; omega) (fun z7 => ?_)
  refine ev_iload_n i119_10 rfl ?_
  refine ev_iload_n i119_11 rfl ?_
  refine ev_iload_n i119_12 rfl ?_
  refine ev_ishr i119_13 ?_
  refine ev_iconst (v := nI 1) i119_14 (by decide) ?_
  refine ev_iand i119_15 ?_
  refine ev_iadd i119_16 ?_
  refine ev_istore_n (L' := [some (.int (nI a)), some (.int ((((nI 0) + (((nI a) >>> ((nI 0) &&& 31)) &&& (nI 1))) + (((nI a) >>> ((nI 1) &&& 31)) &&& (nI 1))) + (((nI a) >>> ((nI 2) &&& 31)) &&& (nI 1)))), some (.int (nI 2))]) i119_17 ⟨Nat.le_of_ble_eq_true rfl, rfl⟩ rfl ?_
  refine evn_iinc (d := 1) (L' := [some (.int (nI a)), some (.int ((((nI 0) + (((nI a) >>> ((nI 0) &&& 31)) &&& (nI 1))) + (((nI a) >>> ((nI 1) &&& 31)) &&& (nI 1))) + (((nI a) >>> ((nI 2) &&& 31)) &&& (nI 1)))), some (.int (nI 3))]) i119_18 rfl rfl (by decide) rfl ?_
  refine ev_goto (t := 4) i119_21 (by decide) ?_
  refine ev_iload_n i119_4 rfl ?_
  refine ev_bipush (v := nI 8) i119_5 (by decide) ?_
  refine evn_icmp_ge (t := 24) i119_7 (by decide) (by omega) (fun z7 => by exfalso; omega) (fun z7 => ?_)
  refine ev_iload_n i119_10 rfl ?_
  refine ev_iload_n i119_11 rfl ?_
  refine ev_iload_n i119_12 rfl ?_
  refine ev_ishr i119_13 ?_
  refine ev_iconst (v := nI 1) i119_14 (by decide) ?_
  refine ev_iand i119_15 ?_
  refine ev_iadd i119_16 ?_
  refine ev_istore_n (L' := [some (.int (nI a)), some (.int (((((nI 0) + (((nI a) >>> ((nI 0) &&& 31)) &&& (nI 1))) + (((nI a) >>> ((nI 1) &&& 31)) &&& (nI 1))) + (((nI a) >>> ((nI 2) &&& 31)) &&& (nI 1))) + (((nI a) >>> ((nI 3) &&& 31)) &&& (nI 1)))), some (.int (nI 3))]) i119_17 ⟨Nat.le_of_ble_eq_true rfl, rfl⟩ rfl ?_
  refine evn_iinc (d := 1) (L' := [some (.int (nI a)), some (.int (((((nI 0) + (((nI a) >>> ((nI 0) &&& 31)) &&& (nI 1))) + (((nI a) >>> ((nI 1) &&& 31)) &&& (nI 1))) + (((nI a) >>> ((nI 2) &&& 31)) &&& (nI 1))) + (((nI a) >>> ((nI 3) &&& 31)) &&& (nI 1)))), some (.int (nI 4))]) i119_18 rfl rfl (by decide) rfl ?_
  refine ev_goto (t := 4) i119_21 (by decide) ?_
  refine ev_iload_n i119_4 rfl ?_
  refine ev_bipush (v := nI 8) i119_5 (by decide) ?_
  refine evn_icmp_ge (t := 24) i119_7 (by decide) (by omega) (fun z7 => by exfalso; omega) (fun z7 => ?_)
  refine ev_iload_n i119_10 rfl ?_
  refine ev_iload_n i119_11 rfl ?_
  refine ev_iload_n i119_12 rfl ?_
  refine ev_ishr i119_13 ?_
  refine ev_iconst (v := nI 1) i119_14 (by decide) ?_
  refine ev_iand i119_15 ?_
  refine ev_iadd i119_16 ?_
  refine ev_istore_n (L' := [some (.int (nI a)), some (.int ((((((nI 0) + (((nI a) >>> ((nI 0) &&& 31)) &&& (nI 1))) + (((nI a) >>> ((nI 1) &&& 31)) &&& (nI 1))) + (((nI a) >>> ((nI 2) &&& 31)) &&& (nI 1))) + (((nI a) >>> ((nI 3) &&& 31)) &&& (nI 1))) + (((nI a) >>> ((nI 4) &&& 31)) &&& (nI 1)))), some (.int (nI 4))]) i119_17 ⟨Nat.le_of_ble_eq_true rfl, rfl⟩ rfl ?_
  refine evn_iinc (d := 1) (L' := [some (.int (nI a)), some (.int ((((((nI 0) + (((nI a) >>> ((nI 0) &&& 31)) &&& (nI 1))) + (((nI a) >>> ((nI 1) &&& 31)) &&& (nI 1))) + (((nI a) >>> ((nI 2) &&& 31)) &&& (nI 1))) + (((nI a) >>> ((nI 3) &&& 31)) &&& (nI 1))) + (((nI a) >>> ((nI 4) &&& 31)) &&& (nI 1)))), some (.int (nI 5))]) i119_18 rfl rfl (by decide) rfl ?_
  refine ev_goto (t := 4) i119_21 (by decide) ?_
  refine ev_iload_n i119_4 rfl ?_
  refine ev_bipush (v := nI 8) i119_5 (by decide) ?_
  refine evn_icmp_ge (t := 24) i119_7 (by decide) (by omega) (fun z7 => by exfalso; omega) (fun z7 => ?_)
  refine ev_iload_n i119_10 rfl ?_
  refine ev_iload_n i119_11 rfl ?_
  refine ev_iload_n i119_12 rfl ?_
  refine ev_ishr i119_13 ?_
  refine ev_iconst (v := nI 1) i119_14 (by decide) ?_
  refine ev_iand i119_15 ?_
  refine ev_iadd i119_16 ?_
  refine ev_istore_n (L' := [some (.int (nI a)), some (.int (((((((nI 0) + (((nI a) >>> ((nI 0) &&& 31)) &&& (nI 1))) + (((nI a) >>> ((nI 1) &&& 31)) &&& (nI 1))) + (((nI a) >>> ((nI 2) &&& 31)) &&& (nI 1))) + (((nI a) >>> ((nI 3) &&& 31)) &&& (nI 1))) + (((nI a) >>> ((nI 4) &&& 31)) &&& (nI 1))) + (((nI a) >>> ((nI 5) &&& 31)) &&& (nI 1)))), some (.int (nI 5))]) i119_17 ⟨Nat.le_of_ble_eq_true rfl, rfl⟩ rfl ?_
  refine evn_iinc (d := 1) (L' := [some (.int (nI a)), some (.int (((((((nI 0) + (((nI a) >>> ((nI 0) &&& 31)) &&& (nI 1))) + (((nI a) >>> ((nI 1) &&& 31)) &&& (nI 1))) + (((nI a) >>> ((nI 2) &&& 31)) &&& (nI 1))) + (((nI a) >>> ((nI 3) &&& 31)) &&& (nI 1))) + (((nI a) >>> ((nI 4) &&& 31)) &&& (nI 1))) + (((nI a) >>> ((nI 5) &&& 31)) &&& (nI 1)))), some (.int (nI 6))]) i119_18 rfl rfl (by decide) rfl ?_
  refine ev_goto (t := 4) i119_21 (by decide) ?_
  refine ev_iload_n i119_4 rfl ?_
  refine ev_bipush (v := nI 8) i119_5 (by decide) ?_
  refine evn_icmp_ge (t := 24) i119_7 (by decide) (by omega) (fun z7 => by exfalso; omega) (fun z7 => ?_)
  refine ev_iload_n i119_10 rfl ?_
  refine ev_iload_n i119_11 rfl ?_
  refine ev_iload_n i119_12 rfl ?_
  refine ev_ishr i119_13 ?_
  refine ev_iconst (v := nI 1) i119_14 (by decide) ?_
  refine ev_iand i119_15 ?_
  refine ev_iadd i119_16 ?_
  refine ev_istore_n (L' := [some (.int (nI a)), some (.int ((((((((nI 0) + (((nI a) >>> ((nI 0) &&& 31)) &&& (nI 1))) + (((nI a) >>> ((nI 1) &&& 31)) &&& (nI 1))) + (((nI a) >>> ((nI 2) &&& 31)) &&& (nI 1))) + (((nI a) >>> ((nI 3) &&& 31)) &&& (nI 1))) + (((nI a) >>> ((nI 4) &&& 31)) &&& (nI 1))) + (((nI a) >>> ((nI 5) &&& 31)) &&& (nI 1))) + (((nI a) >>> ((nI 6) &&& 31)) &&& (nI 1)))), some (.int (nI 6))]) i119_17 ⟨Nat.le_of_ble_eq_true rfl, rfl⟩ rfl ?_
  refine evn_iinc (d := 1) (L' := [some (.int (nI a)), some (.int ((((((((nI 0) + (((nI a) >>> ((nI 0) &&& 31)) &&& (nI 1))) + (((nI a) >>> ((nI 1) &&& 31)) &&& (nI 1))) + (((nI a) >>> ((nI 2) &&& 31)) &&& (nI 1))) + (((nI a) >>> ((nI 3) &&& 31)) &&& (nI 1))) + (((nI a) >>> ((nI 4) &&& 31)) &&& (nI 1))) + (((nI a) >>> ((nI 5) &&& 31)) &&& (nI 1))) + (((nI a) >>> ((nI 6) &&& 31)) &&& (nI 1)))), some (.int (nI 7))]) i119_18 rfl rfl (by decide) rfl ?_
  refine ev_goto (t := 4) i119_21 (by decide) ?_
  refine ev_iload_n i119_4 rfl ?_
  refine ev_bipush (v := nI 8) i119_5 (by decide) ?_
  refine evn_icmp_ge (t := 24) i119_7 (by decide) (by omega) (fun z7 => by exfalso; omega) (fun z7 => ?_)
  refine ev_iload_n i119_10 rfl ?_
  refine ev_iload_n i119_11 rfl ?_
  refine ev_iload_n i119_12 rfl ?_
  refine ev_ishr i119_13 ?_
  refine ev_iconst (v := nI 1) i119_14 (by decide) ?_
  refine ev_iand i119_15 ?_
  refine ev_iadd i119_16 ?_
  refine ev_istore_n (L' := [some (.int (nI a)), some (.int (((((((((nI 0) + (((nI a) >>> ((nI 0) &&& 31)) &&& (nI 1))) + (((nI a) >>> ((nI 1) &&& 31)) &&& (nI 1))) + (((nI a) >>> ((nI 2) &&& 31)) &&& (nI 1))) + (((nI a) >>> ((nI 3) &&& 31)) &&& (nI 1))) + (((nI a) >>> ((nI 4) &&& 31)) &&& (nI 1))) + (((nI a) >>> ((nI 5) &&& 31)) &&& (nI 1))) + (((nI a) >>> ((nI 6) &&& 31)) &&& (nI 1))) + (((nI a) >>> ((nI 7) &&& 31)) &&& (nI 1)))), some (.int (nI 7))]) i119_17 ⟨Nat.le_of_ble_eq_true rfl, rfl⟩ rfl ?_
  refine evn_iinc (d := 1) (L' := [some (.int (nI a)), some (.int (((((((((nI 0) + (((nI a) >>> ((nI 0) &&& 31)) &&& (nI 1))) + (((nI a) >>> ((nI 1) &&& 31)) &&& (nI 1))) + (((nI a) >>> ((nI 2) &&& 31)) &&& (nI 1))) + (((nI a) >>> ((nI 3) &&& 31)) &&& (nI 1))) + (((nI a) >>> ((nI 4) &&& 31)) &&& (nI 1))) + (((nI a) >>> ((nI 5) &&& 31)) &&& (nI 1))) + (((nI a) >>> ((nI 6) &&& 31)) &&& (nI 1))) + (((nI a) >>> ((nI 7) &&& 31)) &&& (nI 1)))), some (.int (nI 8))]) i119_18 rfl rfl (by decide) rfl ?_
  refine ev_goto (t := 4) i119_21 (by decide) ?_
  refine ev_iload_n i119_4 rfl ?_
  refine ev_bipush (v := nI 8) i119_5 (by decide) ?_
  refine evn_icmp_ge (t := 24) i119_7 (by decide) (by omega) (fun z7 => ?_) (fun z7 => by exfalso; omega)
  refine ev_iload_n i119_24 rfl ?_
  refine ev_iret i119_25 (by decide +kernel) ?_
  rw [pop_eq8 a ha]
  exact ⟨rfl, rfl⟩
theorem c155_0 {tb : dxT} {H : dxH} : Cl tb 155 [.int (nI 0)] H (Rt (.int (nI 1)) H) := by
  show Ev tb 155 0 [some (.int (nI 0)), none, none] [] H _
  refine ev_iconst (v := nI 1) i155_0 (by decide) ?_
  refine ev_istore_n (L' := [some (.int (nI 0)), some (.int (nI 1)), none]) i155_1 ⟨Nat.le_of_ble_eq_true rfl, rfl⟩ rfl ?_
  refine ev_iconst (v := nI 2) i155_2 (by decide) ?_
  refine ev_istore_n (L' := [some (.int (nI 0)), some (.int (nI 1)), some (.int (nI 2))]) i155_3 ⟨Nat.le_of_ble_eq_true rfl, rfl⟩ rfl ?_
  refine ev_iload_n i155_4 rfl ?_
  refine ev_iload_n i155_5 rfl ?_
  refine evn_icmp_gt (t := 19) i155_6 (by decide) (by omega) (fun z6 => ?_) (fun z6 => by exfalso; omega)
  refine ev_iload_n i155_19 rfl ?_
  refine ev_iret i155_20 (by decide +kernel) ?_
  exact ⟨rfl, rfl⟩
theorem c155_1 {tb : dxT} {H : dxH} : Cl tb 155 [.int (nI 1)] H (Rt (.int (nI 1)) H) := by
  show Ev tb 155 0 [some (.int (nI 1)), none, none] [] H _
  refine ev_iconst (v := nI 1) i155_0 (by decide) ?_
  refine ev_istore_n (L' := [some (.int (nI 1)), some (.int (nI 1)), none]) i155_1 ⟨Nat.le_of_ble_eq_true rfl, rfl⟩ rfl ?_
  refine ev_iconst (v := nI 2) i155_2 (by decide) ?_
  refine ev_istore_n (L' := [some (.int (nI 1)), some (.int (nI 1)), some (.int (nI 2))]) i155_3 ⟨Nat.le_of_ble_eq_true rfl, rfl⟩ rfl ?_
  refine ev_iload_n i155_4 rfl ?_
  refine ev_iload_n i155_5 rfl ?_
  refine evn_icmp_gt (t := 19) i155_6 (by decide) (by omega) (fun z6 => ?_) (fun z6 => by exfalso; omega)
  refine ev_iload_n i155_19 rfl ?_
  refine ev_iret i155_20 (by decide +kernel) ?_
  exact ⟨rfl, rfl⟩
theorem c155_2 {tb : dxT} {H : dxH} : Cl tb 155 [.int (nI 2)] H (Rt (.int (nI 2)) H) := by
  show Ev tb 155 0 [some (.int (nI 2)), none, none] [] H _
  refine ev_iconst (v := nI 1) i155_0 (by decide) ?_
  refine ev_istore_n (L' := [some (.int (nI 2)), some (.int (nI 1)), none]) i155_1 ⟨Nat.le_of_ble_eq_true rfl, rfl⟩ rfl ?_
  refine ev_iconst (v := nI 2) i155_2 (by decide) ?_
  refine ev_istore_n (L' := [some (.int (nI 2)), some (.int (nI 1)), some (.int (nI 2))]) i155_3 ⟨Nat.le_of_ble_eq_true rfl, rfl⟩ rfl ?_
  refine ev_iload_n i155_4 rfl ?_
  refine ev_iload_n i155_5 rfl ?_
  refine evn_icmp_gt (t := 19) i155_6 (by decide) (by omega) (fun z6 => by exfalso; omega) (fun z6 => ?_)
  refine ev_iload_n i155_9 rfl ?_
  refine ev_iload_n i155_10 rfl ?_
  refine evn_imul i155_11 ?_
  refine ev_istore_n (L' := [some (.int (nI 2)), some (.int (nI 2)), some (.int (nI 2))]) i155_12 ⟨Nat.le_of_ble_eq_true rfl, rfl⟩ rfl ?_
  refine evn_iinc (d := 1) (L' := [some (.int (nI 2)), some (.int (nI 2)), some (.int (nI 3))]) i155_13 rfl rfl (by decide) rfl ?_
  refine ev_goto (t := 4) i155_16 (by decide) ?_
  refine ev_iload_n i155_4 rfl ?_
  refine ev_iload_n i155_5 rfl ?_
  refine evn_icmp_gt (t := 19) i155_6 (by decide) (by omega) (fun z6 => ?_) (fun z6 => by exfalso; omega)
  refine ev_iload_n i155_19 rfl ?_
  refine ev_iret i155_20 (by decide +kernel) ?_
  exact ⟨rfl, rfl⟩
theorem c155_3 {tb : dxT} {H : dxH} : Cl tb 155 [.int (nI 3)] H (Rt (.int (nI 6)) H) := by
  show Ev tb 155 0 [some (.int (nI 3)), none, none] [] H _
  refine ev_iconst (v := nI 1) i155_0 (by decide) ?_
  refine ev_istore_n (L' := [some (.int (nI 3)), some (.int (nI 1)), none]) i155_1 ⟨Nat.le_of_ble_eq_true rfl, rfl⟩ rfl ?_
  refine ev_iconst (v := nI 2) i155_2 (by decide) ?_
  refine ev_istore_n (L' := [some (.int (nI 3)), some (.int (nI 1)), some (.int (nI 2))]) i155_3 ⟨Nat.le_of_ble_eq_true rfl, rfl⟩ rfl ?_
  refine ev_iload_n i155_4 rfl ?_
  refine ev_iload_n i155_5 rfl ?_
  refine evn_icmp_gt (t := 19) i155_6 (by decide) (by omega) (fun z6 => by exfalso; omega) (fun z6 => ?_)
  refine ev_iload_n i155_9 rfl ?_
  refine ev_iload_n i155_10 rfl ?_
  refine evn_imul i155_11 ?_
  refine ev_istore_n (L' := [some (.int (nI 3)), some (.int (nI 2)), some (.int (nI 2))]) i155_12 ⟨Nat.le_of_ble_eq_true rfl, rfl⟩ rfl ?_
  refine evn_iinc (d := 1) (L' := [some (.int (nI 3)), some (.int (nI 2)), some (.int (nI 3))]) i155_13 rfl rfl (by decide) rfl ?_
  refine ev_goto (t := 4) i155_16 (by decide) ?_
  refine ev_iload_n i155_4 rfl ?_
  refine ev_iload_n i155_5 rfl ?_
  refine evn_icmp_gt (t := 19) i155_6 (by decide) (by omega) (fun z6 => by exfalso; omega) (fun z6 => ?_)
  refine ev_iload_n i155_9 rfl ?_
  refine ev_iload_n i155_10 rfl ?_
  refine evn_imul i155_11 ?_
  refine ev_istore_n (L' := [some (.int (nI 3)), some (.int (nI 6)), some (.int (nI 3))]) i155_12 ⟨Nat.le_of_ble_eq_true rfl, rfl⟩ rfl ?_
  refine evn_iinc (d := 1) (L' := [some (.int (nI 3)), some (.int (nI 6)), some (.int (nI 4))]) i155_13 rfl rfl (by decide) rfl ?_
  refine ev_goto (t := 4) i155_16 (by decide) ?_
  refine ev_iload_n i155_4 rfl ?_
  refine ev_iload_n i155_5 rfl ?_
  refine evn_icmp_gt (t := 19) i155_6 (by decide) (by omega) (fun z6 => ?_) (fun z6 => by exfalso; omega)
  refine ev_iload_n i155_19 rfl ?_
  refine ev_iret i155_20 (by decide +kernel) ?_
  exact ⟨rfl, rfl⟩
theorem c155_4 {tb : dxT} {H : dxH} : Cl tb 155 [.int (nI 4)] H (Rt (.int (nI 24)) H) := by
  show Ev tb 155 0 [some (.int (nI 4)), none, none] [] H _
  refine ev_iconst (v := nI 1) i155_0 (by decide) ?_
  refine ev_istore_n (L' := [some (.int (nI 4)), some (.int (nI 1)), none]) i155_1 ⟨Nat.le_of_ble_eq_true rfl, rfl⟩ rfl ?_
  refine ev_iconst (v := nI 2) i155_2 (by decide) ?_
  refine ev_istore_n (L' := [some (.int (nI 4)), some (.int (nI 1)), some (.int (nI 2))]) i155_3 ⟨Nat.le_of_ble_eq_true rfl, rfl⟩ rfl ?_
  refine ev_iload_n i155_4 rfl ?_
  refine ev_iload_n i155_5 rfl ?_
  refine evn_icmp_gt (t := 19) i155_6 (by decide) (by omega) (fun z6 => by exfalso; omega) (fun z6 => ?_)
  refine ev_iload_n i155_9 rfl ?_
  refine ev_iload_n i155_10 rfl ?_
  refine evn_imul i155_11 ?_
  refine ev_istore_n (L' := [some (.int (nI 4)), some (.int (nI 2)), some (.int (nI 2))]) i155_12 ⟨Nat.le_of_ble_eq_true rfl, rfl⟩ rfl ?_
  refine evn_iinc (d := 1) (L' := [some (.int (nI 4)), some (.int (nI 2)), some (.int (nI 3))]) i155_13 rfl rfl (by decide) rfl ?_
  refine ev_goto (t := 4) i155_16 (by decide) ?_
  refine ev_iload_n i155_4 rfl ?_
  refine ev_iload_n i155_5 rfl ?_
  refine evn_icmp_gt (t := 19) i155_6 (by decide) (by omega) (fun z6 => by exfalso; omega) (fun z6 => ?_)
  refine ev_iload_n i155_9 rfl ?_
  refine ev_iload_n i155_10 rfl ?_
  refine evn_imul i155_11 ?_
  refine ev_istore_n (L' := [some (.int (nI 4)), some (.int (nI 6)), some (.int (nI 3))]) i155_12 ⟨Nat.le_of_ble_eq_true rfl, rfl⟩ rfl ?_
  refine evn_iinc (d := 1) (L' := [some (.int (nI 4)), some (.int (nI 6)), some (.int (nI 4))]) i155_13 rfl rfl (by decide) rfl ?_
  refine ev_goto (t := 4) i155_16 (by decide) ?_
  refine ev_iload_n i155_4 rfl ?_
  refine ev_iload_n i155_5 rfl ?_
  refine evn_icmp_gt (t := 19) i155_6 (by decide) (by omega) (fun z6 => by exfalso; omega) (fun z6 => ?_)
  refine ev_iload_n i155_9 rfl ?_
  refine ev_iload_n i155_10 rfl ?_
  refine evn_imul i155_11 ?_
  refine ev_istore_n (L' := [some (.int (nI 4)), some (.int (nI 24)), some (.int (nI 4))]) i155_12 ⟨Nat.le_of_ble_eq_true rfl, rfl⟩ rfl ?_
  refine evn_iinc (d := 1) (L' := [some (.int (nI 4)), some (.int (nI 24)), some (.int (nI 5))]) i155_13 rfl rfl (by decide) rfl ?_
  refine ev_goto (t := 4) i155_16 (by decide) ?_
  refine ev_iload_n i155_4 rfl ?_
  refine ev_iload_n i155_5 rfl ?_
  refine evn_icmp_gt (t := 19) i155_6 (by decide) (by omega) (fun z6 => ?_) (fun z6 => by exfalso; omega)
  refine ev_iload_n i155_19 rfl ?_
  refine ev_iret i155_20 (by decide +kernel) ?_
  exact ⟨rfl, rfl⟩
theorem c155_5 {tb : dxT} {H : dxH} : Cl tb 155 [.int (nI 5)] H (Rt (.int (nI 120)) H) := by
  show Ev tb 155 0 [some (.int (nI 5)), none, none] [] H _
  refine ev_iconst (v := nI 1) i155_0 (by decide) ?_
  refine ev_istore_n (L' := [some (.int (nI 5)), some (.int (nI 1)), none]) i155_1 ⟨Nat.le_of_ble_eq_true rfl, rfl⟩ rfl ?_
  refine ev_iconst (v := nI 2) i155_2 (by decide) ?_
  refine ev_istore_n (L' := [some (.int (nI 5)), some (.int (nI 1)), some (.int (nI 2))]) i155_3 ⟨Nat.le_of_ble_eq_true rfl, rfl⟩ rfl ?_
  refine ev_iload_n i155_4 rfl ?_
  refine ev_iload_n i155_5 rfl ?_
  refine evn_icmp_gt (t := 19) i155_6 (by decide) (by omega) (fun z6 => by exfalso; omega) (fun z6 => ?_)
  refine ev_iload_n i155_9 rfl ?_
  refine ev_iload_n i155_10 rfl ?_
  refine evn_imul i155_11 ?_
  refine ev_istore_n (L' := [some (.int (nI 5)), some (.int (nI 2)), some (.int (nI 2))]) i155_12 ⟨Nat.le_of_ble_eq_true rfl, rfl⟩ rfl ?_
  refine evn_iinc (d := 1) (L' := [some (.int (nI 5)), some (.int (nI 2)), some (.int (nI 3))]) i155_13 rfl rfl (by decide) rfl ?_
  refine ev_goto (t := 4) i155_16 (by decide) ?_
  refine ev_iload_n i155_4 rfl ?_
  refine ev_iload_n i155_5 rfl ?_
  refine evn_icmp_gt (t := 19) i155_6 (by decide) (by omega) (fun z6 => by exfalso; omega) (fun z6 => ?_)
  refine ev_iload_n i155_9 rfl ?_
  refine ev_iload_n i155_10 rfl ?_
  refine evn_imul i155_11 ?_
  refine ev_istore_n (L' := [some (.int (nI 5)), some (.int (nI 6)), some (.int (nI 3))]) i155_12 ⟨Nat.le_of_ble_eq_true rfl, rfl⟩ rfl ?_
  refine evn_iinc (d := 1) (L' := [some (.int (nI 5)), some (.int (nI 6)), some (.int (nI 4))]) i155_13 rfl rfl (by decide) rfl ?_
  refine ev_goto (t := 4) i155_16 (by decide) ?_
  refine ev_iload_n i155_4 rfl ?_
  refine ev_iload_n i155_5 rfl ?_
  refine evn_icmp_gt (t := 19) i155_6 (by decide) (by omega) (fun z6 => by exfalso; omega) (fun z6 => ?_)
  refine ev_iload_n i155_9 rfl ?_
  refine ev_iload_n i155_10 rfl ?_
  refine evn_imul i155_11 ?_
  refine ev_istore_n (L' := [some (.int (nI 5)), some (.int (nI 24)), some (.int (nI 4))]) i155_12 ⟨Nat.le_of_ble_eq_true rfl, rfl⟩ rfl ?_
  refine evn_iinc (d := 1) (L' := [some (.int (nI 5)), some (.int (nI 24)), some (.int (nI 5))]) i155_13 rfl rfl (by decide) rfl ?_
  refine ev_goto (t := 4) i155_16 (by decide) ?_
  refine ev_iload_n i155_4 rfl ?_
  refine ev_iload_n i155_5 rfl ?_
  refine evn_icmp_gt (t := 19) i155_6 (by decide) (by omega) (fun z6 => by exfalso; omega) (fun z6 => ?_)
  refine ev_iload_n i155_9 rfl ?_
  refine ev_iload_n i155_10 rfl ?_
  refine evn_imul i155_11 ?_
  refine ev_istore_n (L' := [some (.int (nI 5)), some (.int (nI 120)), some (.int (nI 5))]) i155_12 ⟨Nat.le_of_ble_eq_true rfl, rfl⟩ rfl ?_
  refine evn_iinc (d := 1) (L' := [some (.int (nI 5)), some (.int (nI 120)), some (.int (nI 6))]) i155_13 rfl rfl (by decide) rfl ?_
  refine ev_goto (t := 4) i155_16 (by decide) ?_
  refine ev_iload_n i155_4 rfl ?_
  refine ev_iload_n i155_5 rfl ?_
  refine evn_icmp_gt (t := 19) i155_6 (by decide) (by omega) (fun z6 => ?_) (fun z6 => by exfalso; omega)
  refine ev_iload_n i155_19 rfl ?_
  refine ev_iret i155_20 (by decide +kernel) ?_
  exact ⟨rfl, rfl⟩
theorem c155_6 {tb : dxT} {H : dxH} : Cl tb 155 [.int (nI 6)] H (Rt (.int (nI 720)) H) := by
  show Ev tb 155 0 [some (.int (nI 6)), none, none] [] H _
  refine ev_iconst (v := nI 1) i155_0 (by decide) ?_
  refine ev_istore_n (L' := [some (.int (nI 6)), some (.int (nI 1)), none]) i155_1 ⟨Nat.le_of_ble_eq_true rfl, rfl⟩ rfl ?_
  refine ev_iconst (v := nI 2) i155_2 (by decide) ?_
  refine ev_istore_n (L' := [some (.int (nI 6)), some (.int (nI 1)), some (.int (nI 2))]) i155_3 ⟨Nat.le_of_ble_eq_true rfl, rfl⟩ rfl ?_
  refine ev_iload_n i155_4 rfl ?_
  refine ev_iload_n i155_5 rfl ?_
  refine evn_icmp_gt (t := 19) i155_6 (by decide) (by omega) (fun z6 => by exfalso; omega) (fun z6 => ?_)
  refine ev_iload_n i155_9 rfl ?_
  refine ev_iload_n i155_10 rfl ?_
  refine evn_imul i155_11 ?_
  refine ev_istore_n (L' := [some (.int (nI 6)), some (.int (nI 2)), some (.int (nI 2))]) i155_12 ⟨Nat.le_of_ble_eq_true rfl, rfl⟩ rfl ?_
  refine evn_iinc (d := 1) (L' := [some (.int (nI 6)), some (.int (nI 2)), some (.int (nI 3))]) i155_13 rfl rfl (by decide) rfl ?_
  refine ev_goto (t := 4) i155_16 (by decide) ?_
  refine ev_iload_n i155_4 rfl ?_
  refine ev_iload_n i155_5 rfl ?_
  refine evn_icmp_gt (t := 19) i155_6 (by decide) (by omega) (fun z6 => by exfalso; omega) (fun z6 => ?_)
  refine ev_iload_n i155_9 rfl ?_
  refine ev_iload_n i155_10 rfl ?_
  refine evn_imul i155_11 ?_
  refine ev_istore_n (L' := [some (.int (nI 6)), some (.int (nI 6)), some (.int (nI 3))]) i155_12 ⟨Nat.le_of_ble_eq_true rfl, rfl⟩ rfl ?_
  refine evn_iinc (d := 1) (L' := [some (.int (nI 6)), some (.int (nI 6)), some (.int (nI 4))]) i155_13 rfl rfl (by decide) rfl ?_
  refine ev_goto (t := 4) i155_16 (by decide) ?_
  refine ev_iload_n i155_4 rfl ?_
  refine ev_iload_n i155_5 rfl ?_
  refine evn_icmp_gt (t := 19) i155_6 (by decide) (by omega) (fun z6 => by exfalso; omega) (fun z6 => ?_)
  refine ev_iload_n i155_9 rfl ?_
  refine ev_iload_n i155_10 rfl ?_
  refine evn_imul i155_11 ?_
  refine ev_istore_n (L' := [some (.int (nI 6)), some (.int (nI 24)), some (.int (nI 4))]) i155_12 ⟨Nat.le_of_ble_eq_true rfl, rfl⟩ rfl ?_
  refine evn_iinc (d := 1) (L' := [some (.int (nI 6)), some (.int (nI 24)), some (.int (nI 5))]) i155_13 rfl rfl (by decide) rfl ?_
  refine ev_goto (t := 4) i155_16 (by decide) ?_
  refine ev_iload_n i155_4 rfl ?_
  refine ev_iload_n i155_5 rfl ?_
  refine evn_icmp_gt (t := 19) i155_6 (by decide) (by omega) (fun z6 => by exfalso; omega) (fun z6 => ?_)
  refine ev_iload_n i155_9 rfl ?_
  refine ev_iload_n i155_10 rfl ?_
  refine evn_imul i155_11 ?_
  refine ev_istore_n (L' := [some (.int (nI 6)), some (.int (nI 120)), some (.int (nI 5))]) i155_12 ⟨Nat.le_of_ble_eq_true rfl, rfl⟩ rfl ?_
  refine evn_iinc (d := 1) (L' := [some (.int (nI 6)), some (.int (nI 120)), some (.int (nI 6))]) i155_13 rfl rfl (by decide) rfl ?_
  refine ev_goto (t := 4) i155_16 (by decide) ?_
  refine ev_iload_n i155_4 rfl ?_
  refine ev_iload_n i155_5 rfl ?_
  refine evn_icmp_gt (t := 19) i155_6 (by decide) (by omega) (fun z6 => by exfalso; omega) (fun z6 => ?_)
  refine ev_iload_n i155_9 rfl ?_
  refine ev_iload_n i155_10 rfl ?_
  refine evn_imul i155_11 ?_
  refine ev_istore_n (L' := [some (.int (nI 6)), some (.int (nI 720)), some (.int (nI 6))]) i155_12 ⟨Nat.le_of_ble_eq_true rfl, rfl⟩ rfl ?_
  refine evn_iinc (d := 1) (L' := [some (.int (nI 6)), some (.int (nI 720)), some (.int (nI 7))]) i155_13 rfl rfl (by decide) rfl ?_
  refine ev_goto (t := 4) i155_16 (by decide) ?_
  refine ev_iload_n i155_4 rfl ?_
  refine ev_iload_n i155_5 rfl ?_
  refine evn_icmp_gt (t := 19) i155_6 (by decide) (by omega) (fun z6 => ?_) (fun z6 => by exfalso; omega)
  refine ev_iload_n i155_19 rfl ?_
  refine ev_iret i155_20 (by decide +kernel) ?_
  exact ⟨rfl, rfl⟩
theorem c155 {tb : dxT} {H : dxH} {m : Nat} (hm : m ≤ 6) : Cl tb 155 [.int (nI m)] H (Rt (.int (nI (fct m))) H) := by
  match m, hm with
  | 0, _ => exact c155_0
  | 1, _ => exact c155_1
  | 2, _ => exact c155_2
  | 3, _ => exact c155_3
  | 4, _ => exact c155_4
  | 5, _ => exact c155_5
  | 6, _ => exact c155_6
theorem lq156 {tb : dxT} {H : dxH} {w0 : Int32} {b : Nat} : ∀ (d x y : Nat), y ≤ d → x < 2147483648 → d < 2147483648 → ∀ w4, Ev tb 156 13 [some (.int w0), some (.int (nI b)), some (.int (nI x)), some (.int (nI y)), w4] [] H (Rt (.int (nI (Nat.gcd x y))) H)
  | 0, x, y, hd, hx, hd2, w4 => by
    obtain rfl : y = 0 := by omega
    rw [Nat.gcd_zero_right]
    refine ev_iload_n i156_13 rfl ?_
    refine evn_if_eq (t := 30) i156_14 (by decide) (by omega) (fun z14 => ?_) (fun z14 => by exfalso; omega)
    refine ev_iload_n i156_30 rfl ?_
    refine ev_iret i156_31 (by decide +kernel) ?_
    exact ⟨rfl, rfl⟩
  | d + 1, x, y, hd, hx, hd2, w4 => by
    by_cases h0 : y = 0
    · subst h0
      rw [Nat.gcd_zero_right]
      refine ev_iload_n i156_13 rfl ?_
      refine evn_if_eq (t := 30) i156_14 (by decide) (by omega) (fun z14 => ?_) (fun z14 => by exfalso; omega)
      refine ev_iload_n i156_30 rfl ?_
      refine ev_iret i156_31 (by decide +kernel) ?_
      exact ⟨rfl, rfl⟩
    · have hr := Nat.mod_lt x (Nat.pos_of_ne_zero h0)
      have e1 : Nat.gcd x y = Nat.gcd y (x % y) := by rw [Nat.gcd_comm x y, Nat.gcd_rec y x, Nat.gcd_comm]
      rw [e1]
      refine ev_iload_n i156_13 rfl ?_
      refine evn_if_eq (t := 30) i156_14 (by decide) (by omega) (fun z14 => by exfalso; exact h0 z14) (fun z14 => ?_)
      refine ev_iload_n i156_17 rfl ?_
      refine ev_iload_n i156_18 rfl ?_
      refine evn_irem i156_19 (by first | omega | exact ⟨Nat.lt_of_le_of_lt (Nat.div_le_self _ _) (by omega), by decide, by decide⟩) ?_
      refine ev_istore (L' := [some (.int w0), some (.int (nI b)), some (.int (nI x)), some (.int (nI y)), some (.int (nI (x % y)))]) i156_20 ⟨Nat.le_of_ble_eq_true rfl, rfl⟩ rfl ?_
      refine ev_iload_n i156_22 rfl ?_
      refine ev_istore_n (L' := [some (.int w0), some (.int (nI b)), some (.int (nI y)), some (.int (nI y)), some (.int (nI (x % y)))]) i156_23 ⟨Nat.le_of_ble_eq_true rfl, rfl⟩ rfl ?_
      refine ev_iload i156_24 rfl ?_
      refine ev_istore_n (L' := [some (.int w0), some (.int (nI b)), some (.int (nI y)), some (.int (nI (x % y))), some (.int (nI (x % y)))]) i156_26 ⟨Nat.le_of_ble_eq_true rfl, rfl⟩ rfl ?_
      refine ev_goto (t := 13) i156_27 (by decide) ?_
      exact lq156 d y (x % y) (by omega) (by omega) (by omega) _
theorem c156 {tb : dxT} {H : dxH} {z : Int32} {A b : Nat} (hz : (if 0 ≤ z then z else 0 - z) = nI A) (hA : A < 2147483648) (hb : b < 2147483648) : Cl tb 156 [.int z, .int (nI b)] H (Rt (.int (nI (Nat.gcd A b))) H) := by
  show Ev tb 156 0 [some (.int z), some (.int (nI b)), none, none, none] [] H _
  refine ev_iload_n i156_0 rfl ?_
  refine ev_if_ge (t := 9) i156_1 (by decide) (fun z1 => ?_) (fun z1 => ?_)
  · refine ev_iload_n i156_9 rfl ?_
    refine ev_istore_n (L' := [some (.int z), some (.int (nI b)), some (.int z), none, none]) i156_10 ⟨Nat.le_of_ble_eq_true rfl, rfl⟩ rfl ?_
    refine ev_iload_n i156_11 rfl ?_
    refine ev_istore_n (L' := [some (.int z), some (.int (nI b)), some (.int z), some (.int (nI b)), none]) i156_12 ⟨Nat.le_of_ble_eq_true rfl, rfl⟩ rfl ?_
    have hA2 : z = nI A := by
      rw [if_pos z1] at hz; exact hz
    refine (congrArg (fun q => Ev tb 156 13 [some (.int z), some (.int (nI b)), some (.int q), some (.int (nI b)), none] [] H _) hA2).mpr ?_
    exact lq156 b A b (Nat.le_refl _) hA hb none
  · refine ev_iload_n i156_4 rfl ?_
    refine ev_ineg i156_5 ?_
    refine ev_goto (t := 10) i156_6 (by decide) ?_
    refine ev_istore_n (L' := [some (.int z), some (.int (nI b)), some (.int (-z)), none, none]) i156_10 ⟨Nat.le_of_ble_eq_true rfl, rfl⟩ rfl ?_
    refine ev_iload_n i156_11 rfl ?_
    refine ev_istore_n (L' := [some (.int z), some (.int (nI b)), some (.int (-z)), some (.int (nI b)), none]) i156_12 ⟨Nat.le_of_ble_eq_true rfl, rfl⟩ rfl ?_
    have hA2 : (-z) = nI A := by
      rw [if_neg z1] at hz; rw [← hz]; exact (Int32.zero_sub z).symm
    refine (congrArg (fun q => Ev tb 156 13 [some (.int z), some (.int (nI b)), some (.int q), some (.int (nI b)), none] [] H _) hA2).mpr ?_
    exact lq156 b A b (Nat.le_refl _) hA hb none
theorem lq157a {tb : dxT} {H : dxH} {n : Nat} {f : Nat → Int32} {sed : Int64} {sd kd : Nat → Nat} {s : Sn} {k m : Nat} {u : Bool} {w5 w6 : Option Value} {Q : Option Value → dxH → Prop} (b3 : n ≤ 6) (b4 : ∀ j, sd j < 2) (b5 : ∀ j, kd j < 4) (b6 : SnOK n s) (hm : m ≤ 8) : ∀ (d set : Nat) (H1 : dxH) (g p : Nat → Int32), set + d = 2 ^ n → MC H1 n f sed sd kd g → LvS g 0 n s → H1[120]? = some (.inl (0, 64, .inl p)) → (∀ i, i < set → p i = nI (stpN n sd kd s m i)) → Off (fun j => j = 114 ∨ j = 120) H H1 → (∀ H3 g3 p3, MC H3 n f sed sd kd g3 → LvS g3 0 n s → H3[120]? = some (.inl (0, 64, .inl p3)) → (∀ i, i < 2 ^ n → p3 i = nI (stpN n sd kd s m i)) → Off (fun j => j = 114 ∨ j = 120) H H3 → Ev tb 157 64 [some (.ref 111), some (.int (nI k)), some (.int (nI m)), some (.int (bI u)), some (.int (nI (2 ^ n))), w5, w6] [] H3 Q) → Ev tb 157 28 [some (.ref 111), some (.int (nI k)), some (.int (nI m)), some (.int (bI u)), some (.int (nI set)), w5, w6] [] H1 Q
  | 0, set, H1, g, p, hd, hC, hL, t0, hp, hO, hQ => by
    obtain rfl : set = 2 ^ n := by omega
    have hp8 : 2 ^ n ≤ 2 ^ 6 := Nat.pow_le_pow_right (by decide) b3
    obtain ⟨c0, ⟨ms, mk, c1, c2, c3, c4⟩, c5⟩ := id hC
    unfold mOb at c0
    refine ev_iload i157_28 rfl ?_
    refine ev_iconst (v := nI 1) i157_30 (by decide) ?_
    refine ev_aload_n i157_31 rfl ?_
    refine ev_get i157_32 ci157 fl8_56 (by assumption) rfl ?_
    refine ev_ishl i157_35 ?_
    rw [shl1 n (by omega)]
    refine evn_icmp_ge (t := 64) i157_36 (by decide) (by omega) (fun z36 => ?_) (fun z36 => by exfalso; omega)
    exact hQ H1 g p hC hL t0 hp hO
  | d + 1, set, H1, g, p, hd, hC, hL, t0, hp, hO, hQ => by
    have hp8 : 2 ^ n ≤ 2 ^ 6 := Nat.pow_le_pow_right (by decide) b3
    obtain ⟨c0, ⟨ms, mk, c1, c2, c3, c4⟩, c5⟩ := id hC
    unfold mOb at c0
    refine ev_iload i157_28 rfl ?_
    refine ev_iconst (v := nI 1) i157_30 (by decide) ?_
    refine ev_aload_n i157_31 rfl ?_
    refine ev_get i157_32 ci157 fl8_56 (by assumption) rfl ?_
    refine ev_ishl i157_35 ?_
    rw [shl1 n (by omega)]
    refine evn_icmp_ge (t := 64) i157_36 (by decide) (by omega) (fun z36 => by exfalso; omega) (fun z36 => ?_)
    refine ev_aload_n i157_39 rfl ?_
    refine ev_callV (vs := []) (rest := []) i157_40 ci157 lk8_140 (congrArg (fun q => q + 1) np143) ci143 (by decide) (by decide +kernel) (Nat.le_of_ble_eq_true rfl) ⟨rfl, rfl, Nat.le_of_ble_eq_true rfl⟩ rfl (by assumption) (c143 b3 hC hL) (fun r H2 hq => ?_)
    obtain ⟨rfl, g2, hC, hL, hT, hO2⟩ := hq
    obtain ⟨c0, ⟨ms, mk, c1, c2, c3, c4⟩, c5⟩ := id hC
    unfold mOb at c0
    have t0 := hO2.at t0 (by decide)
    have hO := hO.trans hO2 (C := (fun j => j = 114 ∨ j = 120)) (fun _ q => q) (fun _ q => Or.inl q)
    show Ev tb 157 43 [some (.ref 111), some (.int (nI k)), some (.int (nI m)), some (.int (bI u)), some (.int (nI set)), w5, w6] [] H2 _
    refine ev_aload_n i157_43 rfl ?_
    refine ev_get i157_44 ci157 fl8_34 (by assumption) rfl ?_
    refine ev_iload i157_47 rfl ?_
    refine ev_aload_n i157_49 rfl ?_
    refine ev_iload_n i157_50 rfl ?_
    refine ev_iload i157_51 rfl ?_
    refine ev_iconst (v := nI 1) i157_53 (by decide) ?_
    refine ev_callV (vs := [.int (nI m), .int (nI set), .int (nI 1)]) (rest := [.int (nI set), .ref 120]) i157_54 ci157 lk8_143 (congrArg (fun q => q + 1) np145) ci145 (by decide) (by decide +kernel) (Nat.le_of_ble_eq_true rfl) ⟨rfl, rfl, Nat.le_of_ble_eq_true rfl⟩ rfl (by assumption) (c145 b3 b4 b5 b6.1 (by omega) (by decide) (by omega) hC hT b6.2.2.1) (fun r H3 hq => ?_)
    obtain ⟨rfl, g3, hC, hT, _, hG3, hO3⟩ := hq
    rw [Nat.and_comm set (HE n)]
    have hL := hL.of0 b3 hG3
    obtain ⟨c0, ⟨ms, mk, c1, c2, c3, c4⟩, c5⟩ := id hC
    unfold mOb at c0
    have t0 := hO3.at t0 (by decide)
    have hO := hO.trans hO3 (C := (fun j => j = 114 ∨ j = 120)) (fun _ q => q) (fun _ q => Or.inl q)
    show Ev tb 157 57 [some (.ref 111), some (.int (nI k)), some (.int (nI m)), some (.int (bI u)), some (.int (nI set)), w5, w6] [.int (nI (stpN n sd kd s m set)), .int (nI set), .ref 120] H3 _
    refine evs_iastw i157_57 (by assumption) (by omega) (fun H4 hH4 => ?_)
    have c0 : H4[111]? = some (.inr (8, [.int (nI n), .ref 112, .ref 113, .ref 114, .ref 115, .ref 116, .ref 117, .int (f 0), .int (f 1), .int (f 2), .ref 118, .int (f 3), .int (f 4), .int (f 5), .int (f 6), .int (f 7), .ref 119, .ref 120, .int (f 8), .ref 121, .ref 122, .ref 123, .ref 124, .long sed, .ref 125, .ref 126])) := by rw [hH4]; exact set_ne c0 (by omega)
    have c1 : H4[112]? = some (.inl (0, 6, .inl ms)) := by rw [hH4]; exact set_ne c1 (by omega)
    have c3 : H4[113]? = some (.inl (0, 6, .inl mk)) := by rw [hH4]; exact set_ne c3 (by omega)
    have c5 : H4[114]? = some (.inl (0, 54, .inl g3)) := by rw [hH4]; exact set_ne c5 (by omega)
    have t0 : H4[120]? = some (.inl (0, 64, .inl (upd p set (nI (stpN n sd kd s m set))))) := by rw [hH4]; exact set_self t0
    have hO : Off (fun j => j = 114 ∨ j = 120) H H4 := by rw [hH4]; exact hO.set (by first | exact Or.inl rfl | exact Or.inr rfl)
    refine evn_iinc (d := 1) (L' := [some (.ref 111), some (.int (nI k)), some (.int (nI m)), some (.int (bI u)), some (.int (nI (set + 1))), w5, w6]) i157_58 rfl rfl (by decide) rfl ?_
    refine ev_goto (t := 28) i157_61 (by decide) ?_
    exact lq157a b3 b4 b5 b6 hm d (set + 1) _ _ _ (by omega) ⟨c0, ⟨ms, mk, c1, c2, c3, c4⟩, c5⟩ hL t0 (fun i hi => by
      unfold upd
      by_cases q : i = set
      · rw [if_pos q, q]
      · rw [if_neg q]; exact hp i (by omega)) hO hQ
set_option maxRecDepth 100000 in
theorem lq157 {tb : dxT} {H : dxH} {n : Nat} {f : Nat → Int32} {sed : Int64} {sd kd : Nat → Nat} {s : Sn} {g p : Nat → Int32} {k m : Nat} {u : Bool} (b3 : n ≤ 6) (b4 : ∀ j, sd j < 2) (b5 : ∀ j, kd j < 4) (b6 : SnOK n s) (hm : m ≤ 8) (hk : k < n) (hC : MC H n f sed sd kd g) (t0 : H[120]? = some (.inl (0, 64, .inl p))) (hp : ∀ i, i < 2 ^ n → p i = nI (stpN n sd kd s m i)) : ∀ (d set : Nat) (z : Int), set + d = 2 ^ n → -(960 * (set : Int)) ≤ z → z ≤ 960 * (set : Int) → ∀ w6, Ev tb 157 70 [some (.ref 111), some (.int (nI k)), some (.int (nI m)), some (.int (bI u)), some (.int (iI z)), some (.int (nI set)), w6] [] H (Rt (.int (trmI (iI (shrL n sd kd s m k d set z)) (shrL n sd kd s m k d set z).natAbs (fct n) u)) H)
  | 0, set, z, hd, h1, h2, w6 => by
    obtain rfl : set = 2 ^ n := by omega
    have hp8 : 2 ^ n ≤ 2 ^ 6 := Nat.pow_le_pow_right (by decide) b3
    have hf := fct_le n b3
    obtain ⟨c0, ⟨ms, mk, c1, c2, c3, c4⟩, c5⟩ := id hC
    unfold mOb at c0
    refine ev_iload i157_70 rfl ?_
    refine ev_iconst (v := nI 1) i157_72 (by decide) ?_
    refine ev_aload_n i157_73 rfl ?_
    refine ev_get i157_74 ci157 fl8_56 (by assumption) rfl ?_
    refine ev_ishl i157_77 ?_
    rw [shl1 n (by omega)]
    refine evn_icmp_ge (t := 149) i157_78 (by decide) (by omega) (fun z78 => ?_) (fun z78 => by exfalso; omega)
    refine ev_iload i157_149 rfl ?_
    refine ev_aload_n i157_151 rfl ?_
    refine ev_get i157_152 ci157 fl8_56 (by assumption) rfl ?_
    refine ev_callS (vs := [.int (nI n)]) (rest := [.int (iI z)]) i157_155 ci157 lk8_166 (Or.inl rfl) np155 (by decide +kernel) (Nat.le_of_ble_eq_true rfl) ⟨rfl, rfl, Nat.le_of_ble_eq_true rfl⟩ rfl (c155 (by omega)) (fun r HH hq => ?_)
    obtain ⟨rfl, rfl⟩ := hq
    show Ev tb 157 158 [some (.ref 111), some (.int (nI k)), some (.int (nI m)), some (.int (bI u)), some (.int (iI z)), some (.int (nI (2 ^ n))), w6] [.int (nI (fct n)), .int (iI z)] H _
    refine ev_callS (vs := [.int (iI z), .int (nI (fct n))]) (rest := []) i157_158 ci157 lk8_169 (Or.inl rfl) np156 (by decide +kernel) (Nat.le_of_ble_eq_true rfl) ⟨rfl, rfl, Nat.le_of_ble_eq_true rfl⟩ rfl (c156 (A := z.natAbs) (shr_abs (by omega) (by omega)) (by omega) (by omega)) (fun r HH hq => ?_)
    obtain ⟨rfl, rfl⟩ := hq
    have hg0 : 0 < Nat.gcd z.natAbs (fct n) := Nat.gcd_pos_of_pos_right _ hf.2
    have hgb : Nat.gcd z.natAbs (fct n) ≤ fct n := Nat.gcd_le_right _ hf.2
    show Ev tb 157 161 [some (.ref 111), some (.int (nI k)), some (.int (nI m)), some (.int (bI u)), some (.int (iI z)), some (.int (nI (2 ^ n))), w6] [.int (nI (Nat.gcd z.natAbs (fct n)))] H _
    refine ev_istore (L' := [some (.ref 111), some (.int (nI k)), some (.int (nI m)), some (.int (bI u)), some (.int (iI z)), some (.int (nI (Nat.gcd z.natAbs (fct n)))), w6]) i157_161 ⟨Nat.le_of_ble_eq_true rfl, rfl⟩ rfl ?_
    refine ev_iload_n i157_163 rfl ?_
    refine evb_if_eq (t := 175) i157_164 (by decide) (fun z164 => ?_) (fun z164 => ?_)
    · refine ev_aload_n i157_175 rfl ?_
      refine ev_get i157_176 ci157 fl8_56 (by assumption) rfl ?_
      refine ev_callS (vs := [.int (nI n)]) (rest := []) i157_179 ci157 lk8_166 (Or.inl rfl) np155 (by decide +kernel) (Nat.le_of_ble_eq_true rfl) ⟨rfl, rfl, Nat.le_of_ble_eq_true rfl⟩ rfl (c155 (by omega)) (fun r HH hq => ?_)
      obtain ⟨rfl, rfl⟩ := hq
      show Ev tb 157 182 [some (.ref 111), some (.int (nI k)), some (.int (nI m)), some (.int (bI u)), some (.int (iI z)), some (.int (nI (Nat.gcd z.natAbs (fct n)))), w6] [.int (nI (fct n))] H _
      refine ev_iload i157_182 rfl ?_
      refine ev_idiv i157_184 (by first | decide | exact nI_ne0 (by omega) (by omega)) ?_
      refine ev_iret i157_185 (by decide +kernel) ?_
      show some _ = some (Value.int (trmI (iI z) z.natAbs (fct n) u)) ∧ _
      unfold trmI
      simp only [z164, if_true, if_false, Bool.false_eq_true]
      first | exact ⟨trivial, rfl⟩ | exact ⟨trivial, trivial⟩
    · refine ev_iload i157_167 rfl ?_
      refine ev_iload i157_169 rfl ?_
      refine ev_idiv i157_171 (by first | decide | exact nI_ne0 (by omega) (by omega)) ?_
      refine ev_goto (t := 185) i157_172 (by decide) ?_
      refine ev_iret i157_185 (by decide +kernel) ?_
      show some _ = some (Value.int (trmI (iI z) z.natAbs (fct n) u)) ∧ _
      unfold trmI
      simp only [z164, if_true, if_false, Bool.false_eq_true]
      first | exact ⟨trivial, rfl⟩ | exact ⟨trivial, trivial⟩
  | d + 1, set, z, hd, h1, h2, w6 => by
    have hp8 : 2 ^ n ≤ 2 ^ 6 := Nat.pow_le_pow_right (by decide) b3
    have hf := fct_le n b3
    obtain ⟨c0, ⟨ms, mk, c1, c2, c3, c4⟩, c5⟩ := id hC
    unfold mOb at c0
    refine ev_iload i157_70 rfl ?_
    refine ev_iconst (v := nI 1) i157_72 (by decide) ?_
    refine ev_aload_n i157_73 rfl ?_
    refine ev_get i157_74 ci157 fl8_56 (by assumption) rfl ?_
    refine ev_ishl i157_77 ?_
    rw [shl1 n (by omega)]
    refine evn_icmp_ge (t := 149) i157_78 (by decide) (by omega) (fun z78 => by exfalso; omega) (fun z78 => ?_)
    refine ev_iload i157_81 rfl ?_
    refine ev_iload_n i157_83 rfl ?_
    refine ev_callS (vs := [.int (nI set), .int (nI k)]) (rest := []) i157_84 ci157 lk8_77 (Or.inl rfl) np118 (by decide +kernel) (Nat.le_of_ble_eq_true rfl) ⟨rfl, rfl, Nat.le_of_ble_eq_true rfl⟩ rfl (c118 (by omega) (by omega)) (fun r HH hq => ?_)
    obtain ⟨rfl, rfl⟩ := hq
    show Ev tb 157 87 [some (.ref 111), some (.int (nI k)), some (.int (nI m)), some (.int (bI u)), some (.int (iI z)), some (.int (nI set)), w6] [.int (bI (set.testBit k))] H _
    refine evb_if_ne (t := 143) i157_87 (by decide) (fun z87 => ?_) (fun z87 => ?_)
    · refine evn_iinc (d := 1) (L' := [some (.ref 111), some (.int (nI k)), some (.int (nI m)), some (.int (bI u)), some (.int (iI z)), some (.int (nI (set + 1))), w6]) i157_143 rfl rfl (by decide) rfl ?_
      refine ev_goto (t := 70) i157_146 (by decide) ?_
      have e1 : shrL n sd kd s m k (d + 1) set z = shrL n sd kd s m k d (set + 1) (z) := by
        conv => lhs; unfold shrL
        rw [if_pos z87]
      rw [e1]
      exact lq157 b3 b4 b5 b6 hm hk hC t0 hp d (set + 1) _ (by omega) (by omega) (by omega) _
    · have hbt : set.testBit k = false := by simpa using z87
      have hpl := pop_lt n (by omega) k hk set (by omega) hbt
      have hpn : popN set ≤ 6 := by omega
      refine ev_iload i157_90 rfl ?_
      refine ev_callS (vs := [.int (nI set)]) (rest := []) i157_92 ci157 lk8_163 (Or.inl rfl) np119 (by decide +kernel) (Nat.le_of_ble_eq_true rfl) ⟨rfl, rfl, Nat.le_of_ble_eq_true rfl⟩ rfl (c119 (by omega)) (fun r HH hq => ?_)
      obtain ⟨rfl, rfl⟩ := hq
      show Ev tb 157 95 [some (.ref 111), some (.int (nI k)), some (.int (nI m)), some (.int (bI u)), some (.int (iI z)), some (.int (nI set)), w6] [.int (nI (popN set))] H _
      refine ev_callS (vs := [.int (nI (popN set))]) (rest := []) i157_95 ci157 lk8_166 (Or.inl rfl) np155 (by decide +kernel) (Nat.le_of_ble_eq_true rfl) ⟨rfl, rfl, Nat.le_of_ble_eq_true rfl⟩ rfl (c155 (by omega)) (fun r HH hq => ?_)
      obtain ⟨rfl, rfl⟩ := hq
      show Ev tb 157 98 [some (.ref 111), some (.int (nI k)), some (.int (nI m)), some (.int (bI u)), some (.int (iI z)), some (.int (nI set)), w6] [.int (nI (fct (popN set)))] H _
      refine ev_aload_n i157_98 rfl ?_
      refine ev_get i157_99 ci157 fl8_56 (by assumption) rfl ?_
      refine ev_iconst (v := nI 1) i157_102 (by decide) ?_
      refine evn_isub i157_103 (by omega) ?_
      refine ev_iload i157_104 rfl ?_
      refine ev_callS (vs := [.int (nI set)]) (rest := [.int (nI (n - 1)), .int (nI (fct (popN set)))]) i157_106 ci157 lk8_163 (Or.inl rfl) np119 (by decide +kernel) (Nat.le_of_ble_eq_true rfl) ⟨rfl, rfl, Nat.le_of_ble_eq_true rfl⟩ rfl (c119 (by omega)) (fun r HH hq => ?_)
      obtain ⟨rfl, rfl⟩ := hq
      show Ev tb 157 109 [some (.ref 111), some (.int (nI k)), some (.int (nI m)), some (.int (bI u)), some (.int (iI z)), some (.int (nI set)), w6] [.int (nI (popN set)), .int (nI (n - 1)), .int (nI (fct (popN set)))] H _
      refine evn_isub i157_109 (by omega) ?_
      refine ev_callS (vs := [.int (nI ((n - 1) - (popN set)))]) (rest := [.int (nI (fct (popN set)))]) i157_110 ci157 lk8_166 (Or.inl rfl) np155 (by decide +kernel) (Nat.le_of_ble_eq_true rfl) ⟨rfl, rfl, Nat.le_of_ble_eq_true rfl⟩ rfl (c155 (by omega)) (fun r HH hq => ?_)
      obtain ⟨rfl, rfl⟩ := hq
      show Ev tb 157 113 [some (.ref 111), some (.int (nI k)), some (.int (nI m)), some (.int (bI u)), some (.int (iI z)), some (.int (nI set)), w6] [.int (nI (fct ((n - 1) - (popN set)))), .int (nI (fct (popN set)))] H _
      refine evn_imul i157_113 ?_
      refine ev_istore (L' := [some (.ref 111), some (.int (nI k)), some (.int (nI m)), some (.int (bI u)), some (.int (iI z)), some (.int (nI set)), some (.int (nI ((fct (popN set)) * (fct ((n - 1) - (popN set))))))]) i157_114 ⟨Nat.le_of_ble_eq_true rfl, rfl⟩ rfl ?_
      refine ev_iload i157_116 rfl ?_
      refine ev_iload i157_118 rfl ?_
      refine ev_aload_n i157_120 rfl ?_
      refine ev_get i157_121 ci157 fl8_34 (by assumption) rfl ?_
      refine ev_iload i157_124 rfl ?_
      refine ev_iconst (v := nI 1) i157_126 (by decide) ?_
      refine ev_iload_n i157_127 rfl ?_
      refine ev_ishl i157_128 ?_
      rw [shl1 k (by omega)]
      refine ev_ior i157_129 ?_
      rw [or_bit set (by omega) k (by omega)]
      have hor : set ||| 2 ^ k < 2 ^ n := or10_lt (m := n) (by omega) hk
      have hor6 : set ||| 2 ^ k < 64 := by omega
      refine ev_iald_n i157_130 (by assumption) (by omega) ?_
      rw [hp (set ||| 2 ^ k) hor]
      refine ev_aload_n i157_131 rfl ?_
      refine ev_get i157_132 ci157 fl8_34 (by assumption) rfl ?_
      refine ev_iload i157_135 rfl ?_
      refine ev_iald_n i157_137 (by assumption) (by omega) ?_
      rw [hp set (by omega)]
      refine ev_isub i157_138 ?_
      refine ev_imul i157_139 ?_
      refine ev_iadd i157_140 ?_
      rw [iI_nI (stpN n sd kd s m (set ||| 2 ^ k)), iI_nI (stpN n sd kd s m set), iI_nI (fct (popN set) * fct (n - 1 - popN set)), iI_sub, iI_mul, iI_add]
      refine ev_istore (L' := [some (.ref 111), some (.int (nI k)), some (.int (nI m)), some (.int (bI u)), some (.int (iI (z + ((fct (popN set) * fct (n - 1 - popN set) : Nat) : Int) * ((stpN n sd kd s m (set ||| 2 ^ k) : Int) - (stpN n sd kd s m set : Int))))), some (.int (nI set)), some (.int (nI ((fct (popN set)) * (fct ((n - 1) - (popN set))))))]) i157_141 ⟨Nat.le_of_ble_eq_true rfl, rfl⟩ rfl ?_
      refine evn_iinc (d := 1) (L' := [some (.ref 111), some (.int (nI k)), some (.int (nI m)), some (.int (bI u)), some (.int (iI (z + ((fct (popN set) * fct (n - 1 - popN set) : Nat) : Int) * ((stpN n sd kd s m (set ||| 2 ^ k) : Int) - (stpN n sd kd s m set : Int))))), some (.int (nI (set + 1))), some (.int (nI ((fct (popN set)) * (fct ((n - 1) - (popN set))))))]) i157_143 rfl rfl (by decide) rfl ?_
      refine ev_goto (t := 70) i157_146 (by decide) ?_
      have hs1 := stpN_le (n := n) (sd := sd) (kd := kd) (s := s) (m := m) (set := set ||| 2 ^ k)
      have hs2 := stpN_le (n := n) (sd := sd) (kd := kd) (s := s) (m := m) (set := set)
      have e1 : shrL n sd kd s m k (d + 1) set z = shrL n sd kd s m k d (set + 1) (z + ((fct (popN set) * fct (n - 1 - popN set) : Nat) : Int) * ((stpN n sd kd s m (set ||| 2 ^ k) : Int) - (stpN n sd kd s m set : Int))) := by
        conv => lhs; unfold shrL
        rw [if_neg (by simp [hbt])]
      rw [e1]
      have hab : -960 ≤ ((fct (popN set) * fct (n - 1 - popN set) : Nat) : Int) * ((stpN n sd kd s m (set ||| 2 ^ k) : Int) - (stpN n sd kd s m set : Int)) ∧ ((fct (popN set) * fct (n - 1 - popN set) : Nat) : Int) * ((stpN n sd kd s m (set ||| 2 ^ k) : Int) - (stpN n sd kd s m set : Int)) ≤ 960 := by
        generalize fct (popN set) * fct (n - 1 - popN set) = f at hpl
        generalize (stpN n sd kd s m (set ||| 2 ^ k)) = a at hs1
        generalize (stpN n sd kd s m set) = b at hs2
        have h1 : ((f : Nat) : Int) * ((a : Int) - (b : Int)) = (f : Int) * (a : Int) - (f : Int) * (b : Int) := Int.mul_sub _ _ _
        have h2 : f * a ≤ 120 * 8 := Nat.mul_le_mul hpl.2 (by omega)
        have h3 : f * b ≤ 120 * 8 := Nat.mul_le_mul hpl.2 (by omega)
        have h4 : ((f : Nat) : Int) * (a : Int) = ((f * a : Nat) : Int) := rfl
        have h5 : ((f : Nat) : Int) * (b : Int) = ((f * b : Nat) : Int) := rfl
        rw [h1, h4, h5]
        omega
      exact lq157 b3 b4 b5 b6 hm hk hC t0 hp d (set + 1) _ (by omega) (by omega) (by omega) _
theorem MRest.stp {H H' : dxH} {tx : Nat → Nat} {ln n am nx : Nat} {stk : Nat → Sn} {kp : Nat → Bool} {ks : Nat → Sn} {tm : Nat} {tc th : Nat → Nat} {td : Nat → Bool} {A : Nat → Prop} (h : MRest H tx ln n am nx stk kp ks tm tc th td) (hO : Off A H H') (hA : ∀ j, 115 ≤ j → j ≤ 126 → j ≠ 120 → ¬ A j) (ht : ∃ q, H'[120]? = some (.inl (0, 64, .inl q))) : MRest H' tx ln n am nx stk kp ks tm tc th td := by
  obtain ⟨⟨rw, h1, h2⟩, ⟨mt, h3, h4⟩, ⟨a, b, c, h5, h6, h7, h8⟩, ⟨kq, kg, h9, i1, i2, i3⟩, ⟨q1, i4⟩, ⟨q2, i5⟩, ⟨q3, i6⟩, _, q5, i8⟩ := h
  have o : ∀ (j : Nat) (e : dxE), 115 ≤ j → j ≤ 126 → j ≠ 120 → H[j]? = some e → H'[j]? = some e := fun j e a b c hj => hO.at hj (hA j a b c)
  exact ⟨⟨rw, o _ _ (by decide) (by decide) (by decide) h1, h2⟩, ⟨mt, o _ _ (by decide) (by decide) (by decide) h3, h4⟩, ⟨a, b, c, o _ _ (by decide) (by decide) (by decide) h5, o _ _ (by decide) (by decide) (by decide) h6, o _ _ (by decide) (by decide) (by decide) h7, h8⟩, ⟨kq, kg, o _ _ (by decide) (by decide) (by decide) h9, i1, o _ _ (by decide) (by decide) (by decide) i2, i3⟩, ⟨q1, o _ _ (by decide) (by decide) (by decide) i4⟩, ⟨q2, o _ _ (by decide) (by decide) (by decide) i5⟩, ⟨q3, o _ _ (by decide) (by decide) (by decide) i6⟩, ht, q5, o _ _ (by decide) (by decide) (by decide) i8⟩
theorem y157 {tb : dxT} {H : dxH} {tx : Nat → Nat} {ln n : Nat} {sd kd : Nat → Nat} {s : Sn} {am : Nat} {stk : Nat → Sn} {kp : Nat → Bool} {ks : Nat → Sn} {tm : Nat} {tc th : Nat → Nat} {td : Nat → Bool} {sed : Int64} {k m : Nat} {u : Bool} (hI : MInv H tx ln n sd kd s am stk kp ks tm tc th td sed) (hS : SpOK tx ln n sd kd s am stk kp ks tm tc th) (hk : k < n) (hm1 : 1 ≤ m) (hm : m ≤ 8) : Cl tb 157 [.ref 111, .int (nI k), .int (nI m), .int (bI u)] H (fun r H' => r = some (.int (shrI n sd kd s k m u)) ∧ MInv H' tx ln n sd kd s am stk kp ks tm tc th td sed ∧ Off mC H H') := by
  obtain ⟨f, g, nx, ⟨hC, hL, e3, e6, e7, e8, hnx⟩, hR⟩ := id hI
  obtain ⟨⟨b1, b2⟩, b3, b4, b5, b6, b7, b8, b9, b10, b11⟩ := id hS
  obtain ⟨c0, ⟨ms, mk, c1, c2, c3, c4⟩, c5⟩ := id hC
  unfold mOb at c0
  show Ev tb 157 0 [some (.ref 111), some (.int (nI k)), some (.int (nI m)), some (.int (bI u)), none, none, none] [] H _
  refine ev_aload_n i157_0 rfl ?_
  refine ev_iload_n i157_1 rfl ?_
  refine ev_callV (vs := [.int (nI k)]) (rest := []) i157_2 ci157 lk8_108 (congrArg (fun q => q + 1) np128) ci128 (by decide) (by decide +kernel) (Nat.le_of_ble_eq_true rfl) ⟨rfl, rfl, Nat.le_of_ble_eq_true rfl⟩ rfl (by assumption) (c128 hC b3 b5) (fun r HH hq => ?_)
  obtain ⟨rfl, rfl⟩ := hq
  rw [inR_n (by omega) (by omega), decide_eq_true hk]
  show Ev tb 157 5 [some (.ref 111), some (.int (nI k)), some (.int (nI m)), some (.int (bI u)), none, none, none] [.int (bI true)] H _
  refine evb_if_ne (t := 10) i157_5 (by decide) (fun z5 => ?_) (fun z5 => by exfalso; cases z5)
  refine ev_iload_n i157_10 rfl ?_
  refine ev_i2l i157_11 ?_
  refine ev_lconst (v := 1) i157_12 (by decide) ?_
  refine ev_ldc2 i157_13 ci157 ks8_138 ?_
  refine ev_callS (vs := [.long ((nI m).toInt64), .long 1, .long 8]) (rest := []) i157_16 ci157 lk8_62 (Or.inl rfl) np117 (by decide +kernel) (Nat.le_of_ble_eq_true rfl) ⟨rfl, rfl, Nat.le_of_ble_eq_true rfl⟩ rfl (c117) (fun r HH hq => ?_)
  obtain ⟨rfl, rfl⟩ := hq
  rw [inJ_M (x := (nI m)) (a := 1) (b := 8) (by decide) (by decide) (by decide) (by decide), show inM (nI m) 1 8 = true from ahd_n hm1 hm]
  show Ev tb 157 19 [some (.ref 111), some (.int (nI k)), some (.int (nI m)), some (.int (bI u)), none, none, none] [.int (bI true)] H _
  refine evb_if_ne (t := 25) i157_19 (by decide) (fun z19 => ?_) (fun z19 => by exfalso; cases z19)
  refine ev_iconst (v := nI 0) i157_25 (by decide) ?_
  refine ev_istore (L' := [some (.ref 111), some (.int (nI k)), some (.int (nI m)), some (.int (bI u)), some (.int (nI 0)), none, none]) i157_26 ⟨Nat.le_of_ble_eq_true rfl, rfl⟩ rfl ?_
  obtain ⟨_, _, _, _, _, _, _, ⟨p, t0⟩, _⟩ := id hR
  have hp8 : 2 ^ n ≤ 2 ^ 6 := Nat.pow_le_pow_right (by decide) b3
  refine lq157a b3 b4 b5 b6 hm (2 ^ n) 0 H g p (by omega) hC hL t0 (fun i hi => absurd hi (Nat.not_lt_zero _)) Off.rf (fun H3 g3 p3 hC3 hL3 t3 hp3 hO3 => ?_)
  refine ((show Ev tb 157 64 [some (.ref 111), some (.int (nI k)), some (.int (nI m)), some (.int (bI u)), some (.int (nI (2 ^ n))), none, none] [] H3 (Rt (.int (shrI n sd kd s k m u)) H3) from ?_)).post (fun r H' hq2 => ?_)
  · refine ev_iconst (v := nI 0) i157_64 (by decide) ?_
    refine ev_istore (L' := [some (.ref 111), some (.int (nI k)), some (.int (nI m)), some (.int (bI u)), some (.int (nI 0)), none, none]) i157_65 ⟨Nat.le_of_ble_eq_true rfl, rfl⟩ rfl ?_
    refine ev_iconst (v := nI 0) i157_67 (by decide) ?_
    refine ev_istore (L' := [some (.ref 111), some (.int (nI k)), some (.int (nI m)), some (.int (bI u)), some (.int (nI 0)), some (.int (nI 0)), none]) i157_68 ⟨Nat.le_of_ble_eq_true rfl, rfl⟩ rfl ?_
    exact lq157 b3 b4 b5 b6 hm hk hC3 t3 hp3 (2 ^ n) 0 0 (by omega) (by omega) (by omega) _
  · obtain ⟨rfl, rfl⟩ := hq2
    exact ⟨rfl, ⟨f, g3, nx, ⟨hC3, hL3, e3, e6, e7, e8, hnx⟩, hR.stp hO3 (fun j a b c => by omega) ⟨p3, t3⟩⟩, hO3.weaken (fun j q => by unfold mC; omega)⟩
theorem y157u {tb : dxT} {H : dxH} {tx : Nat → Nat} {ln n : Nat} {sd kd : Nat → Nat} {s : Sn} {am : Nat} {stk : Nat → Sn} {kp : Nat → Bool} {ks : Nat → Sn} {tm : Nat} {tc th : Nat → Nat} {td : Nat → Bool} {sed : Int64} {x y : Int32} {u : Bool} (hI : MInv H tx ln n sd kd s am stk kp ks tm tc th td sed) (hS : SpOK tx ln n sd kd s am stk kp ks tm tc th) (h : inR x n = false) : Cl tb 157 [.ref 111, .int x, .int y, .int (bI u)] H (fun r H' => r = some (.int (-1)) ∧ MInv H' tx ln n sd kd s am stk kp ks tm tc th td sed ∧ Off mC H H') := by
  obtain ⟨f, g, nx, ⟨hC, hL, e3, e6, e7, e8, hnx⟩, hR⟩ := id hI
  obtain ⟨⟨b1, b2⟩, b3, b4, b5, b6, b7, b8, b9, b10, b11⟩ := id hS
  obtain ⟨c0, ⟨ms, mk, c1, c2, c3, c4⟩, c5⟩ := id hC
  unfold mOb at c0
  show Ev tb 157 0 [some (.ref 111), some (.int x), some (.int y), some (.int (bI u)), none, none, none] [] H _
  refine ev_aload_n i157_0 rfl ?_
  refine ev_iload_n i157_1 rfl ?_
  refine ev_callV (vs := [.int x]) (rest := []) i157_2 ci157 lk8_108 (congrArg (fun q => q + 1) np128) ci128 (by decide) (by decide +kernel) (Nat.le_of_ble_eq_true rfl) ⟨rfl, rfl, Nat.le_of_ble_eq_true rfl⟩ rfl (by assumption) (c128 hC b3 b5) (fun r HH hq => ?_)
  obtain ⟨rfl, rfl⟩ := hq
  rw [h]
  show Ev tb 157 5 [some (.ref 111), some (.int x), some (.int y), some (.int (bI u)), none, none, none] [.int (bI false)] H _
  refine evb_if_ne (t := 10) i157_5 (by decide) (fun z5 => by exfalso; cases z5) (fun z5 => ?_)
  refine ev_iconst (v := (-1)) i157_8 (by decide) ?_
  refine ev_iret i157_9 (by decide +kernel) ?_
  exact ⟨rfl, hI, Off.rf⟩
theorem y157o {tb : dxT} {H : dxH} {tx : Nat → Nat} {ln n : Nat} {sd kd : Nat → Nat} {s : Sn} {am : Nat} {stk : Nat → Sn} {kp : Nat → Bool} {ks : Nat → Sn} {tm : Nat} {tc th : Nat → Nat} {td : Nat → Bool} {sed : Int64} {k : Nat} {x : Int32} {u : Bool} (hI : MInv H tx ln n sd kd s am stk kp ks tm tc th td sed) (hS : SpOK tx ln n sd kd s am stk kp ks tm tc th) (hk : k < n) (h : ahdB x = false) : Cl tb 157 [.ref 111, .int (nI k), .int x, .int (bI u)] H (fun r H' => r = some (.int (-2)) ∧ MInv H' tx ln n sd kd s am stk kp ks tm tc th td sed ∧ Off mC H H') := by
  obtain ⟨f, g, nx, ⟨hC, hL, e3, e6, e7, e8, hnx⟩, hR⟩ := id hI
  obtain ⟨⟨b1, b2⟩, b3, b4, b5, b6, b7, b8, b9, b10, b11⟩ := id hS
  obtain ⟨c0, ⟨ms, mk, c1, c2, c3, c4⟩, c5⟩ := id hC
  unfold mOb at c0
  show Ev tb 157 0 [some (.ref 111), some (.int (nI k)), some (.int x), some (.int (bI u)), none, none, none] [] H _
  refine ev_aload_n i157_0 rfl ?_
  refine ev_iload_n i157_1 rfl ?_
  refine ev_callV (vs := [.int (nI k)]) (rest := []) i157_2 ci157 lk8_108 (congrArg (fun q => q + 1) np128) ci128 (by decide) (by decide +kernel) (Nat.le_of_ble_eq_true rfl) ⟨rfl, rfl, Nat.le_of_ble_eq_true rfl⟩ rfl (by assumption) (c128 hC b3 b5) (fun r HH hq => ?_)
  obtain ⟨rfl, rfl⟩ := hq
  rw [inR_n (by omega) (by omega), decide_eq_true hk]
  show Ev tb 157 5 [some (.ref 111), some (.int (nI k)), some (.int x), some (.int (bI u)), none, none, none] [.int (bI true)] H _
  refine evb_if_ne (t := 10) i157_5 (by decide) (fun z5 => ?_) (fun z5 => by exfalso; cases z5)
  refine ev_iload_n i157_10 rfl ?_
  refine ev_i2l i157_11 ?_
  refine ev_lconst (v := 1) i157_12 (by decide) ?_
  refine ev_ldc2 i157_13 ci157 ks8_138 ?_
  refine ev_callS (vs := [.long x.toInt64, .long 1, .long 8]) (rest := []) i157_16 ci157 lk8_62 (Or.inl rfl) np117 (by decide +kernel) (Nat.le_of_ble_eq_true rfl) ⟨rfl, rfl, Nat.le_of_ble_eq_true rfl⟩ rfl (c117) (fun r HH hq => ?_)
  obtain ⟨rfl, rfl⟩ := hq
  rw [inJ_M (x := x) (a := 1) (b := 8) (by decide) (by decide) (by decide) (by decide), show inM x 1 8 = false from h]
  show Ev tb 157 19 [some (.ref 111), some (.int (nI k)), some (.int x), some (.int (bI u)), none, none, none] [.int (bI false)] H _
  refine evb_if_ne (t := 25) i157_19 (by decide) (fun z19 => by exfalso; cases z19) (fun z19 => ?_)
  refine ev_bipush (v := (-2)) i157_22 (by decide) ?_
  refine ev_iret i157_24 (by decide +kernel) ?_
  exact ⟨rfl, hI, Off.rf⟩
