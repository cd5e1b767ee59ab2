/-! numbers: powers, factorials, common divisors, bits counted -/
def fct : Nat → Nat
  | 0 => 1
  | k + 1 => fct k * (k + 1)
def popN (a : Nat) : Nat := (a.testBit 0).toNat + (a.testBit 1).toNat + (a.testBit 2).toNat + (a.testBit 3).toNat + (a.testBit 4).toNat + (a.testBit 5).toNat + (a.testBit 6).toNat + (a.testBit 7).toNat + (a.testBit 8).toNat + (a.testBit 9).toNat
theorem lq114 {tb : dxT} {H : dxH} {b t : Nat} (ht : t < 1000) : ∀ d k : Nat, k + d = t → Ev tb 114 4 [some (.int (nI b)), some (.int (nI t)), some (.int (nI (b ^ k))), some (.int (nI k))] [] H (Rt (.int (nI (b ^ t))) H)
  | 0, k, hk => by
    obtain rfl : k = t := by omega
    show Ev tb 114 4 [some (.int (nI b)), some (.int (nI k)), some (.int (nI (b ^ k))), some (.int (nI k))] [] H _
    refine ev_iload_n i114_4 rfl ?_
    refine ev_iload_n i114_5 rfl ?_
    refine evn_icmp_ge (t := 19) i114_6 (by decide) (by omega) (fun z6 => ?_) (fun z6 => by exfalso; omega)
    refine ev_iload_n i114_19 rfl ?_
    refine ev_iret i114_20 (by decide +kernel) ?_
    exact ⟨rfl, rfl⟩
  | d + 1, k, hk => by
    show Ev tb 114 4 [some (.int (nI b)), some (.int (nI t)), some (.int (nI (b ^ k))), some (.int (nI k))] [] H _
    refine ev_iload_n i114_4 rfl ?_
    refine ev_iload_n i114_5 rfl ?_
    refine evn_icmp_ge (t := 19) i114_6 (by decide) (by omega) (fun z6 => by exfalso; omega) (fun z6 => ?_)
    refine ev_iload_n i114_9 rfl ?_
    refine ev_iload_n i114_10 rfl ?_
    refine evn_imul i114_11 ?_
    refine ev_istore_n (L' := [some (.int (nI b)), some (.int (nI t)), some (.int (nI ((b ^ k) * b))), some (.int (nI k))]) i114_12 ⟨Nat.le_of_ble_eq_true rfl, rfl⟩ rfl ?_
    refine evn_iinc (d := 1) (L' := [some (.int (nI b)), some (.int (nI t)), some (.int (nI ((b ^ k) * b))), some (.int (nI (k + 1)))]) i114_13 rfl rfl (by decide) rfl ?_
    refine ev_goto (t := 4) i114_16 (by decide) ?_
    have k1 := lq114 (tb := tb) (H := H) (b := b) ht d (k + 1) (by omega)
    rw [Nat.pow_succ] at k1
    exact k1
theorem c114 {tb : dxT} {H : dxH} {b t : Nat} (ht : t < 1000) : Cl tb 114 [.int (nI b), .int (nI t)] H (Rt (.int (nI (b ^ t))) H) := by
  show Ev tb 114 0 [some (.int (nI b)), some (.int (nI t)), none, none] [] H _
  refine ev_iconst (v := nI 1) i114_0 (by decide) ?_
  refine ev_istore_n (L' := [some (.int (nI b)), some (.int (nI t)), some (.int (nI 1)), none]) i114_1 ⟨Nat.le_of_ble_eq_true rfl, rfl⟩ rfl ?_
  refine ev_iconst (v := nI 0) i114_2 (by decide) ?_
  refine ev_istore_n (L' := [some (.int (nI b)), some (.int (nI t)), some (.int (nI 1)), some (.int (nI 0))]) i114_3 ⟨Nat.le_of_ble_eq_true rfl, rfl⟩ rfl ?_
  exact lq114 ht t 0 (Nat.zero_add t)
theorem c113 {tb : dxT} {H : dxH} {t : Nat} (ht : t < 1000) : Cl tb 113 [.int (nI t)] H (Rt (.int (nI (10 ^ t))) H) := by
  show Ev tb 113 0 [some (.int (nI t))] [] H _
  refine ev_bipush (v := nI 10) i113_0 (by decide) ?_
  refine ev_iload_n i113_2 rfl ?_
  refine ev_callS (vs := [.int (nI 10), .int (nI t)]) (rest := []) i113_3 ci113 lk7_234 (Or.inl rfl) np114 (by decide +kernel) (Nat.le_of_ble_eq_true rfl) ⟨rfl, rfl, Nat.le_of_ble_eq_true rfl⟩ rfl (c114 (by omega)) (fun r HH hq => ?_)
  obtain ⟨rfl, rfl⟩ := hq
  show Ev tb 113 6 [some (.int (nI t))] [.int (nI (10 ^ t))] H _
  refine ev_iret i113_6 (by decide +kernel) ?_
  exact ⟨rfl, rfl⟩
theorem c115_0 {tb : dxT} {H : dxH} : Cl tb 115 [.int (nI 0)] H (Rt (.int (nI 1)) H) := by
  show Ev tb 115 0 [some (.int (nI 0)), none, none] [] H _
  refine ev_iconst (v := nI 1) i115_0 (by decide) ?_
  refine ev_istore_n (L' := [some (.int (nI 0)), some (.int (nI 1)), none]) i115_1 ⟨Nat.le_of_ble_eq_true rfl, rfl⟩ rfl ?_
  refine ev_iconst (v := nI 2) i115_2 (by decide) ?_
  refine ev_istore_n (L' := [some (.int (nI 0)), some (.int (nI 1)), some (.int (nI 2))]) i115_3 ⟨Nat.le_of_ble_eq_true rfl, rfl⟩ rfl ?_
  refine ev_iload_n i115_4 rfl ?_
  refine ev_iload_n i115_5 rfl ?_
  refine evn_icmp_gt (t := 19) i115_6 (by decide) (by omega) (fun z6 => ?_) (fun z6 => by exfalso; omega)
  refine ev_iload_n i115_19 rfl ?_
  refine ev_iret i115_20 (by decide +kernel) ?_
  exact ⟨rfl, rfl⟩
theorem c115_1 {tb : dxT} {H : dxH} : Cl tb 115 [.int (nI 1)] H (Rt (.int (nI 1)) H) := by
  show Ev tb 115 0 [some (.int (nI 1)), none, none] [] H _
  refine ev_iconst (v := nI 1) i115_0 (by decide) ?_
  refine ev_istore_n (L' := [some (.int (nI 1)), some (.int (nI 1)), none]) i115_1 ⟨Nat.le_of_ble_eq_true rfl, rfl⟩ rfl ?_
  refine ev_iconst (v := nI 2) i115_2 (by decide) ?_
  refine ev_istore_n (L' := [some (.int (nI 1)), some (.int (nI 1)), some (.int (nI 2))]) i115_3 ⟨Nat.le_of_ble_eq_true rfl, rfl⟩ rfl ?_
  refine ev_iload_n i115_4 rfl ?_
  refine ev_iload_n i115_5 rfl ?_
  refine evn_icmp_gt (t := 19) i115_6 (by decide) (by omega) (fun z6 => ?_) (fun z6 => by exfalso; omega)
  refine ev_iload_n i115_19 rfl ?_
  refine ev_iret i115_20 (by decide +kernel) ?_
  exact ⟨rfl, rfl⟩
theorem c115_2 {tb : dxT} {H : dxH} : Cl tb 115 [.int (nI 2)] H (Rt (.int (nI 2)) H) := by
  show Ev tb 115 0 [some (.int (nI 2)), none, none] [] H _
  refine ev_iconst (v := nI 1) i115_0 (by decide) ?_
  refine ev_istore_n (L' := [some (.int (nI 2)), some (.int (nI 1)), none]) i115_1 ⟨Nat.le_of_ble_eq_true rfl, rfl⟩ rfl ?_
  refine ev_iconst (v := nI 2) i115_2 (by decide) ?_
  refine ev_istore_n (L' := [some (.int (nI 2)), some (.int (nI 1)), some (.int (nI 2))]) i115_3 ⟨Nat.le_of_ble_eq_true rfl, rfl⟩ rfl ?_
  refine ev_iload_n i115_4 rfl ?_
  refine ev_iload_n i115_5 rfl ?_
  refine evn_icmp_gt (t := 19) i115_6 (by decide) (by omega) (fun z6 => by exfalso; omega) (fun z6 => ?_)
  refine ev_iload_n i115_9 rfl ?_
  refine ev_iload_n i115_10 rfl ?_
  refine evn_imul i115_11 ?_
  refine ev_istore_n (L' := [some (.int (nI 2)), some (.int (nI 2)), some (.int (nI 2))]) i115_12 ⟨Nat.le_of_ble_eq_true rfl, rfl⟩ rfl ?_
  refine evn_iinc (d := 1) (L' := [some (.int (nI 2)), some (.int (nI 2)), some (.int (nI 3))]) i115_13 rfl rfl (by decide) rfl ?_
  refine ev_goto (t := 4) i115_16 (by decide) ?_
  refine ev_iload_n i115_4 rfl ?_
  refine ev_iload_n i115_5 rfl ?_
  refine evn_icmp_gt (t := 19) i115_6 (by decide) (by omega) (fun z6 => ?_) (fun z6 => by exfalso; omega)
  refine ev_iload_n i115_19 rfl ?_
  refine ev_iret i115_20 (by decide +kernel) ?_
  exact ⟨rfl, rfl⟩
theorem c115_3 {tb : dxT} {H : dxH} : Cl tb 115 [.int (nI 3)] H (Rt (.int (nI 6)) H) := by
  show Ev tb 115 0 [some (.int (nI 3)), none, none] [] H _
  refine ev_iconst (v := nI 1) i115_0 (by decide) ?_
  refine ev_istore_n (L' := [some (.int (nI 3)), some (.int (nI 1)), none]) i115_1 ⟨Nat.le_of_ble_eq_true rfl, rfl⟩ rfl ?_
  refine ev_iconst (v := nI 2) i115_2 (by decide) ?_
  refine ev_istore_n (L' := [some (.int (nI 3)), some (.int (nI 1)), some (.int (nI 2))]) i115_3 ⟨Nat.le_of_ble_eq_true rfl, rfl⟩ rfl ?_
  refine ev_iload_n i115_4 rfl ?_
  refine ev_iload_n i115_5 rfl ?_
  refine evn_icmp_gt (t := 19) i115_6 (by decide) (by omega) (fun z6 => by exfalso; omega) (fun z6 => ?_)
  refine ev_iload_n i115_9 rfl ?_
  refine ev_iload_n i115_10 rfl ?_
  refine evn_imul i115_11 ?_
  refine ev_istore_n (L' := [some (.int (nI 3)), some (.int (nI 2)), some (.int (nI 2))]) i115_12 ⟨Nat.le_of_ble_eq_true rfl, rfl⟩ rfl ?_
  refine evn_iinc (d := 1) (L' := [some (.int (nI 3)), some (.int (nI 2)), some (.int (nI 3))]) i115_13 rfl rfl (by decide) rfl ?_
  refine ev_goto (t := 4) i115_16 (by decide) ?_
  refine ev_iload_n i115_4 rfl ?_
  refine ev_iload_n i115_5 rfl ?_
  refine evn_icmp_gt (t := 19) i115_6 (by decide) (by omega) (fun z6 => by exfalso; omega) (fun z6 => ?_)
  refine ev_iload_n i115_9 rfl ?_
  refine ev_iload_n i115_10 rfl ?_
  refine evn_imul i115_11 ?_
  refine ev_istore_n (L' := [some (.int (nI 3)), some (.int (nI 6)), some (.int (nI 3))]) i115_12 ⟨Nat.le_of_ble_eq_true rfl, rfl⟩ rfl ?_
  refine evn_iinc (d := 1) (L' := [some (.int (nI 3)), some (.int (nI 6)), some (.int (nI 4))]) i115_13 rfl rfl (by decide) rfl ?_
  refine ev_goto (t := 4) i115_16 (by decide) ?_
  refine ev_iload_n i115_4 rfl ?_
  refine ev_iload_n i115_5 rfl ?_
  refine evn_icmp_gt (t := 19) i115_6 (by decide) (by omega) (fun z6 => ?_) (fun z6 => by exfalso; omega)
  refine ev_iload_n i115_19 rfl ?_
  refine ev_iret i115_20 (by decide +kernel) ?_
  exact ⟨rfl, rfl⟩
theorem c115_4 {tb : dxT} {H : dxH} : Cl tb 115 [.int (nI 4)] H (Rt (.int (nI 24)) H) := by
  show Ev tb 115 0 [some (.int (nI 4)), none, none] [] H _
  refine ev_iconst (v := nI 1) i115_0 (by decide) ?_
  refine ev_istore_n (L' := [some (.int (nI 4)), some (.int (nI 1)), none]) i115_1 ⟨Nat.le_of_ble_eq_true rfl, rfl⟩ rfl ?_
  refine ev_iconst (v := nI 2) i115_2 (by decide) ?_
  refine ev_istore_n (L' := [some (.int (nI 4)), some (.int (nI 1)), some (.int (nI 2))]) i115_3 ⟨Nat.le_of_ble_eq_true rfl, rfl⟩ rfl ?_
  refine ev_iload_n i115_4 rfl ?_
  refine ev_iload_n i115_5 rfl ?_
  refine evn_icmp_gt (t := 19) i115_6 (by decide) (by omega) (fun z6 => by exfalso; omega) (fun z6 => ?_)
  refine ev_iload_n i115_9 rfl ?_
  refine ev_iload_n i115_10 rfl ?_
  refine evn_imul i115_11 ?_
  refine ev_istore_n (L' := [some (.int (nI 4)), some (.int (nI 2)), some (.int (nI 2))]) i115_12 ⟨Nat.le_of_ble_eq_true rfl, rfl⟩ rfl ?_
  refine evn_iinc (d := 1) (L' := [some (.int (nI 4)), some (.int (nI 2)), some (.int (nI 3))]) i115_13 rfl rfl (by decide) rfl ?_
  refine ev_goto (t := 4) i115_16 (by decide) ?_
  refine ev_iload_n i115_4 rfl ?_
  refine ev_iload_n i115_5 rfl ?_
  refine evn_icmp_gt (t := 19) i115_6 (by decide) (by omega) (fun z6 => by exfalso; omega) (fun z6 => ?_)
  refine ev_iload_n i115_9 rfl ?_
  refine ev_iload_n i115_10 rfl ?_
  refine evn_imul i115_11 ?_
  refine ev_istore_n (L' := [some (.int (nI 4)), some (.int (nI 6)), some (.int (nI 3))]) i115_12 ⟨Nat.le_of_ble_eq_true rfl, rfl⟩ rfl ?_
  refine evn_iinc (d := 1) (L' := [some (.int (nI 4)), some (.int (nI 6)), some (.int (nI 4))]) i115_13 rfl rfl (by decide) rfl ?_
  refine ev_goto (t := 4) i115_16 (by decide) ?_
  refine ev_iload_n i115_4 rfl ?_
  refine ev_iload_n i115_5 rfl ?_
  refine evn_icmp_gt (t := 19) i115_6 (by decide) (by omega) (fun z6 => by exfalso; omega) (fun z6 => ?_)
  refine ev_iload_n i115_9 rfl ?_
  refine ev_iload_n i115_10 rfl ?_
  refine evn_imul i115_11 ?_
  refine ev_istore_n (L' := [some (.int (nI 4)), some (.int (nI 24)), some (.int (nI 4))]) i115_12 ⟨Nat.le_of_ble_eq_true rfl, rfl⟩ rfl ?_
  refine evn_iinc (d := 1) (L' := [some (.int (nI 4)), some (.int (nI 24)), some (.int (nI 5))]) i115_13 rfl rfl (by decide) rfl ?_
  refine ev_goto (t := 4) i115_16 (by decide) ?_
  refine ev_iload_n i115_4 rfl ?_
  refine ev_iload_n i115_5 rfl ?_
  refine evn_icmp_gt (t := 19) i115_6 (by decide) (by omega) (fun z6 => ?_) (fun z6 => by exfalso; omega)
  refine ev_iload_n i115_19 rfl ?_
  refine ev_iret i115_20 (by decide +kernel) ?_
  exact ⟨rfl, rfl⟩
theorem c115_5 {tb : dxT} {H : dxH} : Cl tb 115 [.int (nI 5)] H (Rt (.int (nI 120)) H) := by
  show Ev tb 115 0 [some (.int (nI 5)), none, none] [] H _
  refine ev_iconst (v := nI 1) i115_0 (by decide) ?_
  refine ev_istore_n (L' := [some (.int (nI 5)), some (.int (nI 1)), none]) i115_1 ⟨Nat.le_of_ble_eq_true rfl, rfl⟩ rfl ?_
  refine ev_iconst (v := nI 2) i115_2 (by decide) ?_
  refine ev_istore_n (L' := [some (.int (nI 5)), some (.int (nI 1)), some (.int (nI 2))]) i115_3 ⟨Nat.le_of_ble_eq_true rfl, rfl⟩ rfl ?_
  refine ev_iload_n i115_4 rfl ?_
  refine ev_iload_n i115_5 rfl ?_
  refine evn_icmp_gt (t := 19) i115_6 (by decide) (by omega) (fun z6 => by exfalso; omega) (fun z6 => ?_)
  refine ev_iload_n i115_9 rfl ?_
  refine ev_iload_n i115_10 rfl ?_
  refine evn_imul i115_11 ?_
  refine ev_istore_n (L' := [some (.int (nI 5)), some (.int (nI 2)), some (.int (nI 2))]) i115_12 ⟨Nat.le_of_ble_eq_true rfl, rfl⟩ rfl ?_
  refine evn_iinc (d := 1) (L' := [some (.int (nI 5)), some (.int (nI 2)), some (.int (nI 3))]) i115_13 rfl rfl (by decide) rfl ?_
  refine ev_goto (t := 4) i115_16 (by decide) ?_
  refine ev_iload_n i115_4 rfl ?_
  refine ev_iload_n i115_5 rfl ?_
  refine evn_icmp_gt (t := 19) i115_6 (by decide) (by omega) (fun z6 => by exfalso; omega) (fun z6 => ?_)
  refine ev_iload_n i115_9 rfl ?_
  refine ev_iload_n i115_10 rfl ?_
  refine evn_imul i115_11 ?_
  refine ev_istore_n (L' := [some (.int (nI 5)), some (.int (nI 6)), some (.int (nI 3))]) i115_12 ⟨Nat.le_of_ble_eq_true rfl, rfl⟩ rfl ?_
  refine evn_iinc (d := 1) (L' := [some (.int (nI 5)), some (.int (nI 6)), some (.int (nI 4))]) i115_13 rfl rfl (by decide) rfl ?_
  refine ev_goto (t := 4) i115_16 (by decide) ?_
  refine ev_iload_n i115_4 rfl ?_
  refine ev_iload_n i115_5 rfl ?_
  refine evn_icmp_gt (t := 19) i115_6 (by decide) (by omega) (fun z6 => by exfalso; omega) (fun z6 => ?_)
  refine ev_iload_n i115_9 rfl ?_
  refine ev_iload_n i115_10 rfl ?_
  refine evn_imul i115_11 ?_
  refine ev_istore_n (L' := [some (.int (nI 5)), some (.int (nI 24)), some (.int (nI 4))]) i115_12 ⟨Nat.le_of_ble_eq_true rfl, rfl⟩ rfl ?_
  refine evn_iinc (d := 1) (L' := [some (.int (nI 5)), some (.int (nI 24)), some (.int (nI 5))]) i115_13 rfl rfl (by decide) rfl ?_
  refine ev_goto (t := 4) i115_16 (by decide) ?_
  refine ev_iload_n i115_4 rfl ?_
  refine ev_iload_n i115_5 rfl ?_
  refine evn_icmp_gt (t := 19) i115_6 (by decide) (by omega) (fun z6 => by exfalso; omega) (fun z6 => ?_)
  refine ev_iload_n i115_9 rfl ?_
  refine ev_iload_n i115_10 rfl ?_
  refine evn_imul i115_11 ?_
  refine ev_istore_n (L' := [some (.int (nI 5)), some (.int (nI 120)), some (.int (nI 5))]) i115_12 ⟨Nat.le_of_ble_eq_true rfl, rfl⟩ rfl ?_
  refine evn_iinc (d := 1) (L' := [some (.int (nI 5)), some (.int (nI 120)), some (.int (nI 6))]) i115_13 rfl rfl (by decide) rfl ?_
  refine ev_goto (t := 4) i115_16 (by decide) ?_
  refine ev_iload_n i115_4 rfl ?_
  refine ev_iload_n i115_5 rfl ?_
  refine evn_icmp_gt (t := 19) i115_6 (by decide) (by omega) (fun z6 => ?_) (fun z6 => by exfalso; omega)
  refine ev_iload_n i115_19 rfl ?_
  refine ev_iret i115_20 (by decide +kernel) ?_
  exact ⟨rfl, rfl⟩
theorem c115_6 {tb : dxT} {H : dxH} : Cl tb 115 [.int (nI 6)] H (Rt (.int (nI 720)) H) := by
  show Ev tb 115 0 [some (.int (nI 6)), none, none] [] H _
  refine ev_iconst (v := nI 1) i115_0 (by decide) ?_
  refine ev_istore_n (L' := [some (.int (nI 6)), some (.int (nI 1)), none]) i115_1 ⟨Nat.le_of_ble_eq_true rfl, rfl⟩ rfl ?_
  refine ev_iconst (v := nI 2) i115_2 (by decide) ?_
  refine ev_istore_n (L' := [some (.int (nI 6)), some (.int (nI 1)), some (.int (nI 2))]) i115_3 ⟨Nat.le_of_ble_eq_true rfl, rfl⟩ rfl ?_
  refine ev_iload_n i115_4 rfl ?_
  refine ev_iload_n i115_5 rfl ?_
  refine evn_icmp_gt (t := 19) i115_6 (by decide) (by omega) (fun z6 => by exfalso; omega) (fun z6 => ?_)
  refine ev_iload_n i115_9 rfl ?_
  refine ev_iload_n i115_10 rfl ?_
  refine evn_imul i115_11 ?_
  refine ev_istore_n (L' := [some (.int (nI 6)), some (.int (nI 2)), some (.int (nI 2))]) i115_12 ⟨Nat.le_of_ble_eq_true rfl, rfl⟩ rfl ?_
  refine evn_iinc (d := 1) (L' := [some (.int (nI 6)), some (.int (nI 2)), some (.int (nI 3))]) i115_13 rfl rfl (by decide) rfl ?_
  refine ev_goto (t := 4) i115_16 (by decide) ?_
  refine ev_iload_n i115_4 rfl ?_
  refine ev_iload_n i115_5 rfl ?_
  refine evn_icmp_gt (t := 19) i115_6 (by decide) (by omega) (fun z6 => by exfalso; omega) (fun z6 => ?_)
  refine ev_iload_n i115_9 rfl ?_
  refine ev_iload_n i115_10 rfl ?_
  refine evn_imul i115_11 ?_
  refine ev_istore_n (L' := [some (.int (nI 6)), some (.int (nI 6)), some (.int (nI 3))]) i115_12 ⟨Nat.le_of_ble_eq_true rfl, rfl⟩ rfl ?_
  refine evn_iinc (d := 1) (L' := [some (.int (nI 6)), some (.int (nI 6)), some (.int (nI 4))]) i115_13 rfl rfl (by decide) rfl ?_
  refine ev_goto (t := 4) i115_16 (by decide) ?_
  refine ev_iload_n i115_4 rfl ?_
  refine ev_iload_n i115_5 rfl ?_
  refine evn_icmp_gt (t := 19) i115_6 (by decide) (by omega) (fun z6 => by exfalso; omega) (fun z6 => ?_)
  refine ev_iload_n i115_9 rfl ?_
  refine ev_iload_n i115_10 rfl ?_
  refine evn_imul i115_11 ?_
  refine ev_istore_n (L' := [some (.int (nI 6)), some (.int (nI 24)), some (.int (nI 4))]) i115_12 ⟨Nat.le_of_ble_eq_true rfl, rfl⟩ rfl ?_
  refine evn_iinc (d := 1) (L' := [some (.int (nI 6)), some (.int (nI 24)), some (.int (nI 5))]) i115_13 rfl rfl (by decide) rfl ?_
  refine ev_goto (t := 4) i115_16 (by decide) ?_
  refine ev_iload_n i115_4 rfl ?_
  refine ev_iload_n i115_5 rfl ?_
  refine evn_icmp_gt (t := 19) i115_6 (by decide) (by omega) (fun z6 => by exfalso; omega) (fun z6 => ?_)
  refine ev_iload_n i115_9 rfl ?_
  refine ev_iload_n i115_10 rfl ?_
  refine evn_imul i115_11 ?_
  refine ev_istore_n (L' := [some (.int (nI 6)), some (.int (nI 120)), some (.int (nI 5))]) i115_12 ⟨Nat.le_of_ble_eq_true rfl, rfl⟩ rfl ?_
  refine evn_iinc (d := 1) (L' := [some (.int (nI 6)), some (.int (nI 120)), some (.int (nI 6))]) i115_13 rfl rfl (by decide) rfl ?_
  refine ev_goto (t := 4) i115_16 (by decide) ?_
  refine ev_iload_n i115_4 rfl ?_
  refine ev_iload_n i115_5 rfl ?_
  refine evn_icmp_gt (t := 19) i115_6 (by decide) (by omega) (fun z6 => by exfalso; omega) (fun z6 => ?_)
  refine ev_iload_n i115_9 rfl ?_
  refine ev_iload_n i115_10 rfl ?_
  refine evn_imul i115_11 ?_
  refine ev_istore_n (L' := [some (.int (nI 6)), some (.int (nI 720)), some (.int (nI 6))]) i115_12 ⟨Nat.le_of_ble_eq_true rfl, rfl⟩ rfl ?_
  refine evn_iinc (d := 1) (L' := [some (.int (nI 6)), some (.int (nI 720)), some (.int (nI 7))]) i115_13 rfl rfl (by decide) rfl ?_
  refine ev_goto (t := 4) i115_16 (by decide) ?_
  refine ev_iload_n i115_4 rfl ?_
  refine ev_iload_n i115_5 rfl ?_
  refine evn_icmp_gt (t := 19) i115_6 (by decide) (by omega) (fun z6 => ?_) (fun z6 => by exfalso; omega)
  refine ev_iload_n i115_19 rfl ?_
  refine ev_iret i115_20 (by decide +kernel) ?_
  exact ⟨rfl, rfl⟩
theorem c115 {tb : dxT} {H : dxH} {m : Nat} (hm : m ≤ 6) : Cl tb 115 [.int (nI m)] H (Rt (.int (nI (fct m))) H) := by
  match m, hm with
  | 0, _ => exact c115_0
  | 1, _ => exact c115_1
  | 2, _ => exact c115_2
  | 3, _ => exact c115_3
  | 4, _ => exact c115_4
  | 5, _ => exact c115_5
  | 6, _ => exact c115_6
theorem pop_eq : ∀ a, a < 1024 → (((((((((nI a) - ((((nI a).toUInt32 >>> ((nI 1).toUInt32 &&& Int32.toUInt32 31)).toInt32) &&& 1431655765)) &&& 858993459) + (((((nI a) - ((((nI a).toUInt32 >>> ((nI 1).toUInt32 &&& Int32.toUInt32 31)).toInt32) &&& 1431655765)).toUInt32 >>> ((nI 2).toUInt32 &&& Int32.toUInt32 31)).toInt32) &&& 858993459)) + ((((((nI a) - ((((nI a).toUInt32 >>> ((nI 1).toUInt32 &&& Int32.toUInt32 31)).toInt32) &&& 1431655765)) &&& 858993459) + (((((nI a) - ((((nI a).toUInt32 >>> ((nI 1).toUInt32 &&& Int32.toUInt32 31)).toInt32) &&& 1431655765)).toUInt32 >>> ((nI 2).toUInt32 &&& Int32.toUInt32 31)).toInt32) &&& 858993459)).toUInt32 >>> ((nI 4).toUInt32 &&& Int32.toUInt32 31)).toInt32)) &&& 252645135) + ((((((((nI a) - ((((nI a).toUInt32 >>> ((nI 1).toUInt32 &&& Int32.toUInt32 31)).toInt32) &&& 1431655765)) &&& 858993459) + (((((nI a) - ((((nI a).toUInt32 >>> ((nI 1).toUInt32 &&& Int32.toUInt32 31)).toInt32) &&& 1431655765)).toUInt32 >>> ((nI 2).toUInt32 &&& Int32.toUInt32 31)).toInt32) &&& 858993459)) + ((((((nI a) - ((((nI a).toUInt32 >>> ((nI 1).toUInt32 &&& Int32.toUInt32 31)).toInt32) &&& 1431655765)) &&& 858993459) + (((((nI a) - ((((nI a).toUInt32 >>> ((nI 1).toUInt32 &&& Int32.toUInt32 31)).toInt32) &&& 1431655765)).toUInt32 >>> ((nI 2).toUInt32 &&& Int32.toUInt32 31)).toInt32) &&& 858993459)).toUInt32 >>> ((nI 4).toUInt32 &&& Int32.toUInt32 31)).toInt32)) &&& 252645135).toUInt32 >>> ((nI 8).toUInt32 &&& Int32.toUInt32 31)).toInt32)) + (((((((((nI a) - ((((nI a).toUInt32 >>> ((nI 1).toUInt32 &&& Int32.toUInt32 31)).toInt32) &&& 1431655765)) &&& 858993459) + (((((nI a) - ((((nI a).toUInt32 >>> ((nI 1).toUInt32 &&& Int32.toUInt32 31)).toInt32) &&& 1431655765)).toUInt32 >>> ((nI 2).toUInt32 &&& Int32.toUInt32 31)).toInt32) &&& 858993459)) + ((((((nI a) - ((((nI a).toUInt32 >>> ((nI 1).toUInt32 &&& Int32.toUInt32 31)).toInt32) &&& 1431655765)) &&& 858993459) + (((((nI a) - ((((nI a).toUInt32 >>> ((nI 1).toUInt32 &&& Int32.toUInt32 31)).toInt32) &&& 1431655765)).toUInt32 >>> ((nI 2).toUInt32 &&& Int32.toUInt32 31)).toInt32) &&& 858993459)).toUInt32 >>> ((nI 4).toUInt32 &&& Int32.toUInt32 31)).toInt32)) &&& 252645135) + ((((((((nI a) - ((((nI a).toUInt32 >>> ((nI 1).toUInt32 &&& Int32.toUInt32 31)).toInt32) &&& 1431655765)) &&& 858993459) + (((((nI a) - ((((nI a).toUInt32 >>> ((nI 1).toUInt32 &&& Int32.toUInt32 31)).toInt32) &&& 1431655765)).toUInt32 >>> ((nI 2).toUInt32 &&& Int32.toUInt32 31)).toInt32) &&& 858993459)) + ((((((nI a) - ((((nI a).toUInt32 >>> ((nI 1).toUInt32 &&& Int32.toUInt32 31)).toInt32) &&& 1431655765)) &&& 858993459) + (((((nI a) - ((((nI a).toUInt32 >>> ((nI 1).toUInt32 &&& Int32.toUInt32 31)).toInt32) &&& 1431655765)).toUInt32 >>> ((nI 2).toUInt32 &&& Int32.toUInt32 31)).toInt32) &&& 858993459)).toUInt32 >>> ((nI 4).toUInt32 &&& Int32.toUInt32 31)).toInt32)) &&& 252645135).toUInt32 >>> ((nI 8).toUInt32 &&& Int32.toUInt32 31)).toInt32)).toUInt32 >>> ((nI 16).toUInt32 &&& Int32.toUInt32 31)).toInt32)) &&& (nI 63)) = nI (popN a) := by decide +kernel
theorem c172 {tb : dxT} {H : dxH} {a : Nat} (ha : a < 1024) : Cl tb 172 [.int (nI a)] H (Rt (.int (nI (popN a))) H) := by
  show Ev tb 172 0 [some (.int (nI a))] [] H _
  refine ev_iload_n i172_0 rfl ?_
  refine ev_iload_n i172_1 rfl ?_
  refine ev_iconst (v := nI 1) i172_2 (by decide) ?_
  refine ev_iushr i172_3 ?_
  refine ev_ldcw i172_4 ci172 ks10_265 ?_
  refine ev_iand i172_7 ?_
  refine ev_isub i172_8 ?_
  refine ev_istore_n (L' := [some (.int ((nI a) - ((((nI a).toUInt32 >>> ((nI 1).toUInt32 &&& Int32.toUInt32 31)).toInt32) &&& 1431655765)))]) i172_9 ⟨Nat.le_of_ble_eq_true rfl, rfl⟩ rfl ?_
  refine ev_iload_n i172_10 rfl ?_
  refine ev_ldcw i172_11 ci172 ks10_266 ?_
  refine ev_iand i172_14 ?_
  refine ev_iload_n i172_15 rfl ?_
  refine ev_iconst (v := nI 2) i172_16 (by decide) ?_
  refine ev_iushr i172_17 ?_
  refine ev_ldcw i172_18 ci172 ks10_266 ?_
  refine ev_iand i172_21 ?_
  refine ev_iadd i172_22 ?_
  refine ev_istore_n (L' := [some (.int ((((nI a) - ((((nI a).toUInt32 >>> ((nI 1).toUInt32 &&& Int32.toUInt32 31)).toInt32) &&& 1431655765)) &&& 858993459) + (((((nI a) - ((((nI a).toUInt32 >>> ((nI 1).toUInt32 &&& Int32.toUInt32 31)).toInt32) &&& 1431655765)).toUInt32 >>> ((nI 2).toUInt32 &&& Int32.toUInt32 31)).toInt32) &&& 858993459)))]) i172_23 ⟨Nat.le_of_ble_eq_true rfl, rfl⟩ rfl ?_
  refine ev_iload_n i172_24 rfl ?_
  refine ev_iload_n i172_25 rfl ?_
  refine ev_iconst (v := nI 4) i172_26 (by decide) ?_
  refine ev_iushr i172_27 ?_
  refine ev_iadd i172_28 ?_
  refine ev_ldcw i172_29 ci172 ks10_267 ?_
  refine ev_iand i172_32 ?_
  refine ev_istore_n (L' := [some (.int ((((((nI a) - ((((nI a).toUInt32 >>> ((nI 1).toUInt32 &&& Int32.toUInt32 31)).toInt32) &&& 1431655765)) &&& 858993459) + (((((nI a) - ((((nI a).toUInt32 >>> ((nI 1).toUInt32 &&& Int32.toUInt32 31)).toInt32) &&& 1431655765)).toUInt32 >>> ((nI 2).toUInt32 &&& Int32.toUInt32 31)).toInt32) &&& 858993459)) + ((((((nI a) - ((((nI a).toUInt32 >>> ((nI 1).toUInt32 &&& Int32.toUInt32 31)).toInt32) &&& 1431655765)) &&& 858993459) + (((((nI a) - ((((nI a).toUInt32 >>> ((nI 1).toUInt32 &&& Int32.toUInt32 31)).toInt32) &&& 1431655765)).toUInt32 >>> ((nI 2).toUInt32 &&& Int32.toUInt32 31)).toInt32) &&& 858993459)).toUInt32 >>> ((nI 4).toUInt32 &&& Int32.toUInt32 31)).toInt32)) &&& 252645135))]) i172_33 ⟨Nat.le_of_ble_eq_true rfl, rfl⟩ rfl ?_
  refine ev_iload_n i172_34 rfl ?_
  refine ev_iload_n i172_35 rfl ?_
  refine ev_bipush (v := nI 8) i172_36 (by decide) ?_
  refine ev_iushr i172_38 ?_
  refine ev_iadd i172_39 ?_
  refine ev_istore_n (L' := [some (.int (((((((nI a) - ((((nI a).toUInt32 >>> ((nI 1).toUInt32 &&& Int32.toUInt32 31)).toInt32) &&& 1431655765)) &&& 858993459) + (((((nI a) - ((((nI a).toUInt32 >>> ((nI 1).toUInt32 &&& Int32.toUInt32 31)).toInt32) &&& 1431655765)).toUInt32 >>> ((nI 2).toUInt32 &&& Int32.toUInt32 31)).toInt32) &&& 858993459)) + ((((((nI a) - ((((nI a).toUInt32 >>> ((nI 1).toUInt32 &&& Int32.toUInt32 31)).toInt32) &&& 1431655765)) &&& 858993459) + (((((nI a) - ((((nI a).toUInt32 >>> ((nI 1).toUInt32 &&& Int32.toUInt32 31)).toInt32) &&& 1431655765)).toUInt32 >>> ((nI 2).toUInt32 &&& Int32.toUInt32 31)).toInt32) &&& 858993459)).toUInt32 >>> ((nI 4).toUInt32 &&& Int32.toUInt32 31)).toInt32)) &&& 252645135) + ((((((((nI a) - ((((nI a).toUInt32 >>> ((nI 1).toUInt32 &&& Int32.toUInt32 31)).toInt32) &&& 1431655765)) &&& 858993459) + (((((nI a) - ((((nI a).toUInt32 >>> ((nI 1).toUInt32 &&& Int32.toUInt32 31)).toInt32) &&& 1431655765)).toUInt32 >>> ((nI 2).toUInt32 &&& Int32.toUInt32 31)).toInt32) &&& 858993459)) + ((((((nI a) - ((((nI a).toUInt32 >>> ((nI 1).toUInt32 &&& Int32.toUInt32 31)).toInt32) &&& 1431655765)) &&& 858993459) + (((((nI a) - ((((nI a).toUInt32 >>> ((nI 1).toUInt32 &&& Int32.toUInt32 31)).toInt32) &&& 1431655765)).toUInt32 >>> ((nI 2).toUInt32 &&& Int32.toUInt32 31)).toInt32) &&& 858993459)).toUInt32 >>> ((nI 4).toUInt32 &&& Int32.toUInt32 31)).toInt32)) &&& 252645135).toUInt32 >>> ((nI 8).toUInt32 &&& Int32.toUInt32 31)).toInt32)))]) i172_40 ⟨Nat.le_of_ble_eq_true rfl, rfl⟩ rfl ?_
  refine ev_iload_n i172_41 rfl ?_
  refine ev_iload_n i172_42 rfl ?_
  refine ev_bipush (v := nI 16) i172_43 (by decide) ?_
  refine ev_iushr i172_45 ?_
  refine ev_iadd i172_46 ?_
  refine ev_istore_n (L' := [some (.int ((((((((nI a) - ((((nI a).toUInt32 >>> ((nI 1).toUInt32 &&& Int32.toUInt32 31)).toInt32) &&& 1431655765)) &&& 858993459) + (((((nI a) - ((((nI a).toUInt32 >>> ((nI 1).toUInt32 &&& Int32.toUInt32 31)).toInt32) &&& 1431655765)).toUInt32 >>> ((nI 2).toUInt32 &&& Int32.toUInt32 31)).toInt32) &&& 858993459)) + ((((((nI a) - ((((nI a).toUInt32 >>> ((nI 1).toUInt32 &&& Int32.toUInt32 31)).toInt32) &&& 1431655765)) &&& 858993459) + (((((nI a) - ((((nI a).toUInt32 >>> ((nI 1).toUInt32 &&& Int32.toUInt32 31)).toInt32) &&& 1431655765)).toUInt32 >>> ((nI 2).toUInt32 &&& Int32.toUInt32 31)).toInt32) &&& 858993459)).toUInt32 >>> ((nI 4).toUInt32 &&& Int32.toUInt32 31)).toInt32)) &&& 252645135) + ((((((((nI a) - ((((nI a).toUInt32 >>> ((nI 1).toUInt32 &&& Int32.toUInt32 31)).toInt32) &&& 1431655765)) &&& 858993459) + (((((nI a) - ((((nI a).toUInt32 >>> ((nI 1).toUInt32 &&& Int32.toUInt32 31)).toInt32) &&& 1431655765)).toUInt32 >>> ((nI 2).toUInt32 &&& Int32.toUInt32 31)).toInt32) &&& 858993459)) + ((((((nI a) - ((((nI a).toUInt32 >>> ((nI 1).toUInt32 &&& Int32.toUInt32 31)).toInt32) &&& 1431655765)) &&& 858993459) + (((((nI a) - ((((nI a).toUInt32 >>> ((nI 1).toUInt32 &&& Int32.toUInt32 31)).toInt32) &&& 1431655765)).toUInt32 >>> ((nI 2).toUInt32 &&& Int32.toUInt32 31)).toInt32) &&& 858993459)).toUInt32 >>> ((nI 4).toUInt32 &&& Int32.toUInt32 31)).toInt32)) &&& 252645135).toUInt32 >>> ((nI 8).toUInt32 &&& Int32.toUInt32 31)).toInt32)) + (((((((((nI a) - ((((nI a).toUInt32 >>> ((nI 1).toUInt32 &&& Int32.toUInt32 31)).toInt32) &&& 1431655765)) &&& 858993459) + (((((nI a) - ((((nI a).toUInt32 >>> ((nI 1).toUInt32 &&& Int32.toUInt32 31)).toInt32) &&& 1431655765)).toUInt32 >>> ((nI 2).toUInt32 &&& Int32.toUInt32 31)).toInt32) &&& 858993459)) + ((((((nI a) - ((((nI a).toUInt32 >>> ((nI 1).toUInt32 &&& Int32.toUInt32 31)).toInt32) &&& 1431655765)) &&& 858993459) + (((((nI a) - ((((nI a).toUInt32 >>> ((nI 1).toUInt32 &&& Int32.toUInt32 31)).toInt32) &&& 1431655765)).toUInt32 >>> ((nI 2).toUInt32 &&& Int32.toUInt32 31)).toInt32) &&& 858993459)).toUInt32 >>> ((nI 4).toUInt32 &&& Int32.toUInt32 31)).toInt32)) &&& 252645135) + ((((((((nI a) - ((((nI a).toUInt32 >>> ((nI 1).toUInt32 &&& Int32.toUInt32 31)).toInt32) &&& 1431655765)) &&& 858993459) + (((((nI a) - ((((nI a).toUInt32 >>> ((nI 1).toUInt32 &&& Int32.toUInt32 31)).toInt32) &&& 1431655765)).toUInt32 >>> ((nI 2).toUInt32 &&& Int32.toUInt32 31)).toInt32) &&& 858993459)) + ((((((nI a) - ((((nI a).toUInt32 >>> ((nI 1).toUInt32 &&& Int32.toUInt32 31)).toInt32) &&& 1431655765)) &&& 858993459) + (((((nI a) - ((((nI a).toUInt32 >>> ((nI 1).toUInt32 &&& Int32.toUInt32 31)).toInt32) &&& 1431655765)).toUInt32 >>> ((nI 2).toUInt32 &&& Int32.toUInt32 31)).toInt32) &&& 858993459)).toUInt32 >>> ((nI 4).toUInt32 &&& Int32.toUInt32 31)).toInt32)) &&& 252645135).toUInt32 >>> ((nI 8).toUInt32 &&& Int32.toUInt32 31)).toInt32)).toUInt32 >>> ((nI 16).toUInt32 &&& Int32.toUInt32 31)).toInt32)))]) i172_47 ⟨Nat.le_of_ble_eq_true rfl, rfl⟩ rfl ?_
  refine ev_iload_n i172_48 rfl ?_
  refine ev_bipush (v := nI 63) i172_49 (by decide) ?_
  refine ev_iand i172_51 ?_
  refine ev_iret i172_52 (by decide +kernel) ?_
  rw [pop_eq a ha]
  exact ⟨rfl, rfl⟩
theorem mod_half {x y : Nat} (h0 : 0 < y) (h : y ≤ x) : 2 * (x % y) < x + 1 - 0 ∧ 2 * (x % y) ≤ x := by
  have h1 := Nat.mod_lt x h0
  have h2 := Nat.div_add_mod x y
  have h3 : 1 ≤ x / y := (Nat.one_le_div_iff h0).mpr h
  have h4 : y * 1 ≤ y * (x / y) := Nat.mul_le_mul_left y h3
  omega
theorem lq112 {tb : dxT} {H : dxH} : ∀ (q k x y : Nat), x < 2147483648 → y < 2 ^ q → k + 2 * q < 64 → q ≤ 30 → ∀ (a0 b0 : Nat) (w : Option Value), Ev tb 112 7 [some (.int (nI a0)), some (.int (nI b0)), some (.int (nI x)), some (.int (nI y)), some (.int (nI k)), w] [] H (Rt (.int (nI (Nat.gcd x y))) H)
  | 0, k, x, y, hx, hy, hk, hq, a0, b0, w => by
    obtain rfl : y = 0 := by omega
    rw [Nat.gcd_zero_right]
    show Ev tb 112 7 [some (.int (nI a0)), some (.int (nI b0)), some (.int (nI x)), some (.int (nI 0)), some (.int (nI k)), w] [] H _
    refine ev_iload i112_7 rfl ?_
    refine ev_bipush (v := nI 64) i112_9 (by decide) ?_
    refine evn_icmp_ge (t := 34) i112_11 (by decide) (by omega) (fun z11 => by exfalso; omega) (fun z11 => ?_)
    refine ev_iload_n i112_14 rfl ?_
    refine evn_if_eq (t := 34) i112_15 (by decide) (by omega) (fun z15 => ?_) (fun z15 => by exfalso; omega)
    refine ev_iload_n i112_34 rfl ?_
    refine ev_iret i112_35 (by decide +kernel) ?_
    exact ⟨rfl, rfl⟩
  | q + 1, k, x, y, hx, hy, hk, hq, a0, b0, w => by
    have hpw : 2 ^ (q + 1) ≤ 2 ^ 31 := Nat.pow_le_pow_right (by decide) (by omega)
    by_cases h0 : y = 0
    · subst h0
      rw [Nat.gcd_zero_right]
      show Ev tb 112 7 [some (.int (nI a0)), some (.int (nI b0)), some (.int (nI x)), some (.int (nI 0)), some (.int (nI k)), w] [] H _
      refine ev_iload i112_7 rfl ?_
      refine ev_bipush (v := nI 64) i112_9 (by decide) ?_
      refine evn_icmp_ge (t := 34) i112_11 (by decide) (by omega) (fun z11 => by exfalso; omega) (fun z11 => ?_)
      refine ev_iload_n i112_14 rfl ?_
      refine evn_if_eq (t := 34) i112_15 (by decide) (by omega) (fun z15 => ?_) (fun z15 => by exfalso; omega)
      refine ev_iload_n i112_34 rfl ?_
      refine ev_iret i112_35 (by decide +kernel) ?_
      exact ⟨rfl, rfl⟩
    · have hr := Nat.mod_lt x (Nat.pos_of_ne_zero h0)
      have e1 : Nat.gcd x y = Nat.gcd y (x % y) := by rw [Nat.gcd_comm x y, Nat.gcd_rec y x, Nat.gcd_comm]
      rw [e1]
      show Ev tb 112 7 [some (.int (nI a0)), some (.int (nI b0)), some (.int (nI x)), some (.int (nI y)), some (.int (nI k)), w] [] H _
      refine ev_iload i112_7 rfl ?_
      refine ev_bipush (v := nI 64) i112_9 (by decide) ?_
      refine evn_icmp_ge (t := 34) i112_11 (by decide) (by omega) (fun z11a => by exfalso; omega) (fun z11a => ?_)
      refine ev_iload_n i112_14 rfl ?_
      refine evn_if_eq (t := 34) i112_15 (by decide) (by omega) (fun z15a => by exfalso; exact h0 z15a) (fun z15a => ?_)
      refine ev_iload_n i112_18 rfl ?_
      refine ev_iload_n i112_19 rfl ?_
      refine evn_irem i112_20 (by first | omega | exact ⟨Nat.lt_of_le_of_lt (Nat.div_le_self _ _) (by omega), by decide, by decide⟩) ?_
      refine ev_istore (L' := [some (.int (nI a0)), some (.int (nI b0)), some (.int (nI x)), some (.int (nI y)), some (.int (nI k)), some (.int (nI (x % y)))]) i112_21 ⟨Nat.le_of_ble_eq_true rfl, rfl⟩ rfl ?_
      refine ev_iload_n i112_23 rfl ?_
      refine ev_istore_n (L' := [some (.int (nI a0)), some (.int (nI b0)), some (.int (nI y)), some (.int (nI y)), some (.int (nI k)), some (.int (nI (x % y)))]) i112_24 ⟨Nat.le_of_ble_eq_true rfl, rfl⟩ rfl ?_
      refine ev_iload i112_25 rfl ?_
      refine ev_istore_n (L' := [some (.int (nI a0)), some (.int (nI b0)), some (.int (nI y)), some (.int (nI (x % y))), some (.int (nI k)), some (.int (nI (x % y)))]) i112_27 ⟨Nat.le_of_ble_eq_true rfl, rfl⟩ rfl ?_
      refine evn_iinc (d := 1) (L' := [some (.int (nI a0)), some (.int (nI b0)), some (.int (nI y)), some (.int (nI (x % y))), some (.int (nI (k + 1))), some (.int (nI (x % y)))]) i112_28 rfl rfl (by decide) rfl ?_
      refine ev_goto (t := 7) i112_31 (by decide) ?_
      by_cases h1 : x % y = 0
      · rw [h1, Nat.gcd_zero_right]
        show Ev tb 112 7 [some (.int (nI a0)), some (.int (nI b0)), some (.int (nI y)), some (.int (nI 0)), some (.int (nI (k + 1))), some (.int (nI 0))] [] H _
        refine ev_iload i112_7 rfl ?_
        refine ev_bipush (v := nI 64) i112_9 (by decide) ?_
        refine evn_icmp_ge (t := 34) i112_11 (by decide) (by omega) (fun z11 => by exfalso; omega) (fun z11 => ?_)
        refine ev_iload_n i112_14 rfl ?_
        refine evn_if_eq (t := 34) i112_15 (by decide) (by omega) (fun z15 => ?_) (fun z15 => by exfalso; omega)
        refine ev_iload_n i112_34 rfl ?_
        refine ev_iret i112_35 (by decide +kernel) ?_
        exact ⟨rfl, rfl⟩
      · have e2 : Nat.gcd y (x % y) = Nat.gcd (x % y) (y % (x % y)) := by rw [Nat.gcd_comm y (x % y), Nat.gcd_rec (x % y) y, Nat.gcd_comm]
        rw [e2]
        have hh := (mod_half (x := y) (y := x % y) (Nat.pos_of_ne_zero h1) (Nat.le_of_lt hr)).2
        have hpq : 2 ^ (q + 1) = 2 ^ q * 2 := Nat.pow_succ 2 q
        show Ev tb 112 7 [some (.int (nI a0)), some (.int (nI b0)), some (.int (nI y)), some (.int (nI (x % y))), some (.int (nI (k + 1))), some (.int (nI (x % y)))] [] H _
        refine ev_iload i112_7 rfl ?_
        refine ev_bipush (v := nI 64) i112_9 (by decide) ?_
        refine evn_icmp_ge (t := 34) i112_11 (by decide) (by omega) (fun z11b => by exfalso; omega) (fun z11b => ?_)
        refine ev_iload_n i112_14 rfl ?_
        refine evn_if_eq (t := 34) i112_15 (by decide) (by omega) (fun z15b => by exfalso; exact h1 z15b) (fun z15b => ?_)
        refine ev_iload_n i112_18 rfl ?_
        refine ev_iload_n i112_19 rfl ?_
        refine evn_irem i112_20 (by first | omega | exact ⟨Nat.lt_of_le_of_lt (Nat.div_le_self _ _) (by omega), by decide, by decide⟩) ?_
        refine ev_istore (L' := [some (.int (nI a0)), some (.int (nI b0)), some (.int (nI y)), some (.int (nI (x % y))), some (.int (nI (k + 1))), some (.int (nI (y % (x % y))))]) i112_21 ⟨Nat.le_of_ble_eq_true rfl, rfl⟩ rfl ?_
        refine ev_iload_n i112_23 rfl ?_
        refine ev_istore_n (L' := [some (.int (nI a0)), some (.int (nI b0)), some (.int (nI (x % y))), some (.int (nI (x % y))), some (.int (nI (k + 1))), some (.int (nI (y % (x % y))))]) i112_24 ⟨Nat.le_of_ble_eq_true rfl, rfl⟩ rfl ?_
        refine ev_iload i112_25 rfl ?_
        refine ev_istore_n (L' := [some (.int (nI a0)), some (.int (nI b0)), some (.int (nI (x % y))), some (.int (nI (y % (x % y)))), some (.int (nI (k + 1))), some (.int (nI (y % (x % y))))]) i112_27 ⟨Nat.le_of_ble_eq_true rfl, rfl⟩ rfl ?_
        refine evn_iinc (d := 1) (L' := [some (.int (nI a0)), some (.int (nI b0)), some (.int (nI (x % y))), some (.int (nI (y % (x % y)))), some (.int (nI ((k + 1) + 1))), some (.int (nI (y % (x % y))))]) i112_28 rfl rfl (by decide) rfl ?_
        refine ev_goto (t := 7) i112_31 (by decide) ?_
        exact lq112 q (k + 1 + 1) (x % y) (y % (x % y)) (by omega) (by omega) (by omega) (by omega) _ _ _
theorem c112 {tb : dxT} {H : dxH} {x y : Nat} (hx : x < 2147483648) (hy : y < 2 ^ 21) : Cl tb 112 [.int (nI x), .int (nI y)] H (Rt (.int (nI (Nat.gcd x y))) H) := by
  have hy2 : y < 2097152 := hy
  show Ev tb 112 0 [some (.int (nI x)), some (.int (nI y)), none, none, none, none] [] H _
  refine ev_iload_n i112_0 rfl ?_
  refine ev_istore_n (L' := [some (.int (nI x)), some (.int (nI y)), some (.int (nI x)), none, none, none]) i112_1 ⟨Nat.le_of_ble_eq_true rfl, rfl⟩ rfl ?_
  refine ev_iload_n i112_2 rfl ?_
  refine ev_istore_n (L' := [some (.int (nI x)), some (.int (nI y)), some (.int (nI x)), some (.int (nI y)), none, none]) i112_3 ⟨Nat.le_of_ble_eq_true rfl, rfl⟩ rfl ?_
  refine ev_iconst (v := nI 0) i112_4 (by decide) ?_
  refine ev_istore (L' := [some (.int (nI x)), some (.int (nI y)), some (.int (nI x)), some (.int (nI y)), some (.int (nI 0)), none]) i112_5 ⟨Nat.le_of_ble_eq_true rfl, rfl⟩ rfl ?_
  exact lq112 21 0 x y hx hy (by decide) (by decide) _ _ _
def trmI (z : Int32) (A b : Nat) (u : Bool) : Int32 := (if u = true then z else nI b) / nI (Nat.gcd A b)
theorem c111 {tb : dxT} {H : dxH} {z : Int32} {A b : Nat} {u : Bool} (hz : (if 0 ≤ z then z else 0 - z) = nI A) (hA : A < 2147483648) (hb : b < 2 ^ 21) (h0 : 0 < b) : Cl tb 111 [.int z, .int (nI b), .int (bI u)] H (Rt (.int (trmI z A b u)) H) := by
  have hg0 : 0 < Nat.gcd A b := Nat.gcd_pos_of_pos_right A h0
  have hgb : Nat.gcd A b ≤ b := Nat.gcd_le_right A h0
  have hb2 : b < 2097152 := hb
  unfold trmI
  show Ev tb 111 0 [some (.int z), some (.int (nI b)), some (.int (bI u)), none] [] H _
  refine ev_iload_n i111_0 rfl ?_
  refine ev_abs i111_1 ci111 lk7_286 (by decide +kernel) rfl ?_
  rw [hz]
  refine ev_iload_n i111_4 rfl ?_
  refine ev_callS (vs := [.int (nI A), .int (nI b)]) (rest := []) i111_5 ci111 lk7_291 (Or.inl rfl) np112 (by decide +kernel) (Nat.le_of_ble_eq_true rfl) ⟨rfl, rfl, Nat.le_of_ble_eq_true rfl⟩ rfl (c112 hA hb) (fun r HH hq => ?_)
  obtain ⟨rfl, rfl⟩ := hq
  show Ev tb 111 8 [some (.int z), some (.int (nI b)), some (.int (bI u)), none] [.int (nI (Nat.gcd A b))] H _
  refine ev_istore_n (L' := [some (.int z), some (.int (nI b)), some (.int (bI u)), some (.int (nI (Nat.gcd A b)))]) i111_8 ⟨Nat.le_of_ble_eq_true rfl, rfl⟩ rfl ?_
  refine ev_iload_n i111_9 rfl ?_
  refine evn_if_ne (t := 23) i111_10 (by decide) (by omega) (fun z10 => ?_) (fun z10 => by exfalso; omega)
  refine ev_iload_n i111_23 rfl ?_
  refine evb_if_eq (t := 31) i111_24 (by decide) (fun z24 => ?_) (fun z24 => ?_)
  · refine ev_iload_n i111_31 rfl ?_
    refine ev_iload_n i111_32 rfl ?_
    skip
    refine ev_idiv i111_33 (by first | decide | exact nI_ne0 (by omega) (by omega)) ?_
    refine ev_iret i111_34 (by decide +kernel) ?_
    simp only [*, if_true, if_false, Bool.false_eq_true]
    exact ⟨rfl, rfl⟩
  · refine ev_iload_n i111_27 rfl ?_
    refine ev_goto (t := 32) i111_28 (by decide) ?_
    refine ev_iload_n i111_32 rfl ?_
    skip
    refine ev_idiv i111_33 (by first | decide | exact nI_ne0 (by omega) (by omega)) ?_
    refine ev_iret i111_34 (by decide +kernel) ?_
    simp only [*, if_true, if_false, Bool.false_eq_true]
    exact ⟨rfl, rfl⟩
