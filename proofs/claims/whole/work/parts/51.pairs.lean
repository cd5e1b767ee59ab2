/-! both answer the same: call by call  -/
theorem CInv.offm {H H' : dxH} {tx : Nat → Nat} {ln n : Nat} {sd kd : Nat → Nat} {s : Sn} {am : Nat} {stk : Nat → Sn} {kp : Nat → Bool} {ks : Nat → Sn} {tm : Nat} {tc th : Nat → Nat} {td : Nat → Bool} {sed : Int64} (h : CInv H tx ln n sd kd s am stk kp ks tm tc th td sed) (hO : Off mC H H') : CInv H' tx ln n sd kd s am stk kp ks tm tc th td sed := by
  obtain ⟨h1, h2, h3, h4, h5, h6, h7, h8⟩ := h
  have no : ∀ j, j ≤ 110 → ¬ mC j := fun j a q => by unfold mC at q; omega
  exact ⟨h1.off hO (no _ (by decide)), h2.off hO (no _ (by decide)) (no _ (by decide)), h3.off hO (no _ (by decide)) (no _ (by decide)) (no _ (by decide)), h4.off hO (fun j a b => no _ (by omega)), h5.off hO (fun j a b => no _ (by omega)), h6.off hO (fun j a b => no _ (by omega)), h7.off hO (fun j a b => no _ (by omega)), h8.off hO (fun j a b => no _ (by omega)) (fun j a b => no _ (by omega))⟩
theorem MInv.offx {H H' : dxH} {tx : Nat → Nat} {ln n : Nat} {sd kd : Nat → Nat} {s : Sn} {am : Nat} {stk : Nat → Sn} {kp : Nat → Bool} {ks : Nat → Sn} {tm : Nat} {tc th : Nat → Nat} {td : Nat → Bool} {sed : Int64} (h : MInv H tx ln n sd kd s am stk kp ks tm tc th td sed) (hO : Off xC H H') : MInv H' tx ln n sd kd s am stk kp ks tm tc th td sed := by
  obtain ⟨f, g, nx, ⟨⟨c0, ⟨ms, mk, c1, c2, c3, c4⟩, c5⟩, h2, h3⟩, h4⟩ := h
  have no : ∀ j, 111 ≤ j → ¬ xC j := fun j a q => by unfold xC at q; omega
  exact ⟨f, g, nx, ⟨⟨hO.at c0 (no _ (by decide)), ⟨ms, mk, hO.at c1 (no _ (by decide)), c2, hO.at c3 (no _ (by decide)), c4⟩, hO.at c5 (no _ (by decide))⟩, h2, h3⟩, h4.off hO (fun j a b => no _ (by omega))⟩
/-- what holds at every turn of the law's loop -/
def Good (H : dxH) : Prop := ∃ (tx : Nat → Nat) (ln n : Nat) (sd kd : Nat → Nat) (s : Sn) (am : Nat) (stk : Nat → Sn) (kp : Nat → Bool) (ks : Nat → Sn) (tm : Nat) (tc th : Nat → Nat) (td : Nat → Bool) (sed : Int64), CInv H tx ln n sd kd s am stk kp ks tm tc th td sed ∧ MInv H tx ln n sd kd s am stk kp ks tm tc th td sed ∧ SpOK tx ln n sd kd s am stk kp ks tm tc th
def PrP (tb : dxT) (kx : Nat) (vx : List Value) (ky : Nat) (vy : List Value) (H : dxH) (v : Value) : Prop := Cl tb kx vx H (fun r H1 => r = some v ∧ (∃ fs, H1[111]? = some (.inr (8, fs))) ∧ Cl tb ky vy H1 (fun r H2 => r = some v ∧ Good H2 ∧ H2.length = H.length))
theorem pair_of {tb : dxT} {H : dxH} {kx ky : Nat} {vx vy : List Value} {v : Value} {tx : Nat → Nat} {ln n : Nat} {sd kd : Nat → Nat} {s : Sn} {am : Nat} {stk : Nat → Sn} {kp : Nat → Bool} {ks : Nat → Sn} {tm : Nat} {tc th : Nat → Nat} {td : Nat → Bool} {sed : Int64} {tx2 : Nat → Nat} {ln2 n2 : Nat} {sd2 kd2 : Nat → Nat} {s2 : Sn} {am2 : Nat} {stk2 : Nat → Sn} {kp2 : Nat → Bool} {ks2 : Nat → Sn} {tm2 : Nat} {tc2 th2 : Nat → Nat} {td2 : Nat → Bool} {sed2 : Int64} (hx : Cl tb kx vx H (fun r H' => r = some v ∧ CInv H' tx2 ln2 n2 sd2 kd2 s2 am2 stk2 kp2 ks2 tm2 tc2 th2 td2 sed2 ∧ Off xC H H')) (hM : MInv H tx ln n sd kd s am stk kp ks tm tc th td sed) (hy : ∀ H1, MInv H1 tx ln n sd kd s am stk kp ks tm tc th td sed → Cl tb ky vy H1 (fun r H' => r = some v ∧ MInv H' tx2 ln2 n2 sd2 kd2 s2 am2 stk2 kp2 ks2 tm2 tc2 th2 td2 sed2 ∧ Off mC H1 H')) (hS : SpOK tx2 ln2 n2 sd2 kd2 s2 am2 stk2 kp2 ks2 tm2 tc2 th2) : PrP tb kx vx ky vy H v := by
  refine hx.post (fun r H1 h => ?_)
  obtain ⟨e, hC, hO⟩ := h
  have hM1 := hM.offx hO
  obtain ⟨f, g, nx, ⟨⟨c0, _⟩, _⟩, _⟩ := id hM1
  refine ⟨e, ⟨_, c0⟩, (hy H1 hM1).post (fun r H2 h2 => ?_)⟩
  obtain ⟨e2, hM2, hO2⟩ := h2
  exact ⟨e2, ⟨_, _, _, _, _, _, _, _, _, _, _, _, _, _, _, hC.offm hO2, hM2, hS⟩, hO2.1.trans hO.1⟩
theorem sp_write {tx : Nat → Nat} {ln n : Nat} {sd kd : Nat → Nat} {s : Sn} {am : Nat} {stk : Nat → Sn} {kp : Nat → Bool} {ks : Nat → Sn} {tm : Nat} {tc th : Nat → Nat} {c : Nat} (hc : c < 256) (hl : ln < 64) (hS : SpOK tx ln n sd kd s am stk kp ks tm tc th) : SpOK (updN tx ln c) (ln + 1) n sd kd s am stk kp ks tm tc th := by
  obtain ⟨⟨b1, b2⟩, b3, b4, b5, b6, b7, b8, b9, b10, b11⟩ := id hS
  exact ⟨⟨by omega, updN_lt b2 hc⟩, b3, b4, b5, b6, b7, b8, b9, b10, b11⟩
theorem sp_wipe {tx : Nat → Nat} {ln n : Nat} {sd kd : Nat → Nat} {s : Sn} {am : Nat} {stk : Nat → Sn} {kp : Nat → Bool} {ks : Nat → Sn} {tm : Nat} {tc th : Nat → Nat} (hS : SpOK tx ln n sd kd s am stk kp ks tm tc th) : SpOK tx 0 n sd kd s am stk kp ks tm tc th := by
  obtain ⟨⟨b1, b2⟩, b3, b4, b5, b6, b7, b8, b9, b10, b11⟩ := id hS
  exact ⟨⟨by omega, b2⟩, b3, b4, b5, b6, b7, b8, b9, b10, b11⟩
theorem push_ok {n am : Nat} {s : Sn} {stk : Nat → Sn} (h : am ≤ 14 ∧ ∀ i, i < am → SnOK n (stk i)) (hs : SnOK n s) : pushN am ≤ 14 ∧ ∀ i, i < pushN am → SnOK n (pushS s stk i) := by
  unfold pushN
  refine ⟨by split <;> omega, fun i hi => ?_⟩
  cases i with
  | zero => exact hs
  | succ i => exact h.2 i (by split at hi <;> omega)
theorem sp_hour {tx : Nat → Nat} {ln n : Nat} {sd kd : Nat → Nat} {s : Sn} {am : Nat} {stk : Nat → Sn} {kp : Nat → Bool} {ks : Nat → Sn} {tm : Nat} {tc th : Nat → Nat} {rg : Bool} (hS : SpOK tx ln n sd kd s am stk kp ks tm tc th) : SpOK tx ln n sd kd (s.1, s.2.1, hrF (HE n) sd kd s.1 s.2.1 rg s.2.2) (pushN am) (pushS s stk) kp ks tm tc th := by
  obtain ⟨⟨b1, b2⟩, b3, b4, b5, b6, b7, b8, b9, b10, b11⟩ := id hS
  exact ⟨⟨b1, b2⟩, b3, b4, b5, ⟨b6.1, b6.2.1, hrF_ok b6.1 b4 b6.2.2.1, b6.2.2.2⟩, push_ok b7 b6, b8, b9, b10, b11⟩
theorem sp_move {tx : Nat → Nat} {ln n : Nat} {sd kd : Nat → Nat} {s : Sn} {am : Nat} {stk : Nat → Sn} {kp : Nat → Bool} {ks : Nat → Sn} {tm : Nat} {tc th : Nat → Nat} {k c : Nat} (hk : k < n) (hc : c < 10) (h : grzB (HE n) s.1 c = false) (hS : SpOK tx ln n sd kd s am stk kp ks tm tc th) : SpOK tx ln n sd kd (updN s.1 k c, s.2) (pushN am) (pushS s stk) kp ks tm tc th := by
  obtain ⟨⟨b1, b2⟩, b3, b4, b5, b6, b7, b8, b9, b10, b11⟩ := id hS
  have hg : ∀ i, i < n → ¬ s.1 i = c := fun i hi q => by
    have := (grz_HE (ce := s.1) (c := c) b3).mpr ⟨i, hi, q⟩
    rw [h] at this
    cases this
  refine ⟨⟨b1, b2⟩, b3, b4, b5, ⟨updN_lt b6.1 hc, b6.2.1.up (by omega), b6.2.2.1, fun i j hi hj hij => ?_⟩, push_ok b7 b6, b8, b9, b10, b11⟩
  replace hij : updN s.1 k c i = updN s.1 k c j := hij
  unfold updN at hij
  by_cases q : i = k <;> by_cases q2 : j = k
  · omega
  · rw [if_pos q, if_neg q2] at hij
    exact absurd hij.symm (hg j hj)
  · rw [if_neg q, if_pos q2] at hij
    exact absurd hij (hg i hi)
  · rw [if_neg q, if_neg q2] at hij
    exact b6.2.2.2 i j hi hj hij
theorem sp_sow {tx : Nat → Nat} {ln n : Nat} {sd kd : Nat → Nat} {s : Sn} {am : Nat} {stk : Nat → Sn} {kp : Nat → Bool} {ks : Nat → Sn} {tm : Nat} {tc th : Nat → Nat} {c : Nat} (hc : c < 10) (h : s.2.2.1 c < 9) (hS : SpOK tx ln n sd kd s am stk kp ks tm tc th) : SpOK tx ln n sd kd (s.1, s.2.1, updN s.2.2.1 c (s.2.2.1 c + 1), s.2.2.2) (pushN am) (pushS s stk) kp ks tm tc th := by
  obtain ⟨⟨b1, b2⟩, b3, b4, b5, b6, b7, b8, b9, b10, b11⟩ := id hS
  exact ⟨⟨b1, b2⟩, b3, b4, b5, ⟨b6.1, b6.2.1, ⟨updN_lt b6.2.2.1.1 (by omega), b6.2.2.1.2.1, b6.2.2.1.2.2.1.up hc, b6.2.2.1.2.2.2⟩, b6.2.2.2⟩, push_ok b7 b6, b8, b9, b10, b11⟩
theorem sp_snow {tx : Nat → Nat} {ln n : Nat} {sd kd : Nat → Nat} {s : Sn} {am : Nat} {stk : Nat → Sn} {kp : Nat → Bool} {ks : Nat → Sn} {tm : Nat} {tc th : Nat → Nat} (hS : SpOK tx ln n sd kd s am stk kp ks tm tc th) : SpOK tx ln n sd kd (s.1, !s.2.1, s.2.2) (pushN am) (pushS s stk) kp ks tm tc th := by
  obtain ⟨⟨b1, b2⟩, b3, b4, b5, b6, b7, b8, b9, b10, b11⟩ := id hS
  exact ⟨⟨b1, b2⟩, b3, b4, b5, b6, push_ok b7 b6, b8, b9, b10, b11⟩
theorem sp_undo {tx : Nat → Nat} {ln n : Nat} {sd kd : Nat → Nat} {s : Sn} {am : Nat} {stk : Nat → Sn} {kp : Nat → Bool} {ks : Nat → Sn} {tm : Nat} {tc th : Nat → Nat} (h : 0 < am) (hS : SpOK tx ln n sd kd s am stk kp ks tm tc th) : SpOK tx ln n sd kd (stk 0) (am - 1) (fun i => stk (i + 1)) kp ks tm tc th := by
  obtain ⟨⟨b1, b2⟩, b3, b4, b5, b6, b7, b8, b9, b10, b11⟩ := id hS
  exact ⟨⟨b1, b2⟩, b3, b4, b5, b7.2 0 h, ⟨by omega, fun i hi => b7.2 (i + 1) (by omega)⟩, b8, b9, b10, b11⟩
theorem sp_tell {tx : Nat → Nat} {ln n : Nat} {sd kd : Nat → Nat} {s : Sn} {am : Nat} {stk : Nat → Sn} {kp : Nat → Bool} {ks : Nat → Sn} {tm : Nat} {tc th : Nat → Nat} {k h : Nat} (hk : k < n) (hh : h < 8) (hm : tm < 6) (hS : SpOK tx ln n sd kd s am stk kp ks tm tc th) : SpOK tx ln n sd kd s am stk kp ks (tm + 1) (updN tc tm k) (updN th tm h) := by
  obtain ⟨⟨b1, b2⟩, b3, b4, b5, b6, b7, b8, b9, b10, b11⟩ := id hS
  exact ⟨⟨b1, b2⟩, b3, b4, b5, b6, b7, b8, by omega, updN_lt b10 (by omega), updN_lt b11 hh⟩
theorem sp_untell {tx : Nat → Nat} {ln n : Nat} {sd kd : Nat → Nat} {s : Sn} {am : Nat} {stk : Nat → Sn} {kp : Nat → Bool} {ks : Nat → Sn} {tm : Nat} {tc th : Nat → Nat} (hS : SpOK tx ln n sd kd s am stk kp ks tm tc th) : SpOK tx ln n sd kd s am stk kp ks 0 tc th := by
  obtain ⟨⟨b1, b2⟩, b3, b4, b5, b6, b7, b8, b9, b10, b11⟩ := id hS
  exact ⟨⟨b1, b2⟩, b3, b4, b5, b6, b7, b8, by omega, b10, b11⟩
theorem sp_keep {tx : Nat → Nat} {ln n : Nat} {sd kd : Nat → Nat} {s : Sn} {am : Nat} {stk : Nat → Sn} {kp : Nat → Bool} {ks : Nat → Sn} {tm : Nat} {tc th : Nat → Nat} {i : Nat} (hS : SpOK tx ln n sd kd s am stk kp ks tm tc th) : SpOK tx ln n sd kd s am stk (updB kp i true) (updS ks i s) tm tc th := by
  obtain ⟨⟨b1, b2⟩, b3, b4, b5, b6, b7, b8, b9, b10, b11⟩ := id hS
  refine ⟨⟨b1, b2⟩, b3, b4, b5, b6, b7, fun j hj hq => ?_, b9, b10, b11⟩
  unfold updS
  unfold updB at hq
  by_cases q : j = i
  · rw [if_pos q]; exact b6
  · rw [if_neg q] at hq ⊢; exact b8 j hj hq
theorem sp_again {tx : Nat → Nat} {ln n : Nat} {sd kd : Nat → Nat} {s : Sn} {am : Nat} {stk : Nat → Sn} {kp : Nat → Bool} {ks : Nat → Sn} {tm : Nat} {tc th : Nat → Nat} {i : Nat} (hi : i < 2) (h : kp i = true) (hS : SpOK tx ln n sd kd s am stk kp ks tm tc th) : SpOK tx ln n sd kd (ks i) 0 stk kp ks tm tc th := by
  obtain ⟨⟨b1, b2⟩, b3, b4, b5, b6, b7, b8, b9, b10, b11⟩ := id hS
  exact ⟨⟨b1, b2⟩, b3, b4, b5, b8 i hi h, ⟨by omega, fun j hj => absurd hj (Nat.not_lt_zero _)⟩, b8, b9, b10, b11⟩
theorem pr_write {tb : dxT} {H : dxH} (x : Int32) (hG : Good H) : ∃ v : Int32, PrP tb 67 [.ref 0, .int x] 120 [.ref 111, .int x] H (.int v) := by
  obtain ⟨tx, ln, n, sd, kd, s, am, stk, kp, ks, tm, tc, th, td, sed, hC, hM, hS⟩ := hG
  have b3 := hS.2.1
  rcases Bool.eq_false_or_eq_true (inR x 256) with h0 | h0
  · obtain ⟨c, hc, rfl⟩ := inR_of (by omega) h0
    by_cases hl : ln < 64
    · exact ⟨_, pair_of (x67t hC hS hc hl) hM (fun H1 hM1 => y120t hM1 hS hc hl) (sp_write hc hl hS)⟩
    · exact ⟨_, pair_of (x67f hC hS hc hl) hM (fun H1 hM1 => y120f hM1 hS hc hl) hS⟩
  · exact ⟨_, pair_of (x67o hC hS h0) hM (fun H1 hM1 => y120o hM1 hS h0) hS⟩
theorem pr_wipe {tb : dxT} {H : dxH} (hG : Good H) : ∃ v : Int32, PrP tb 68 [.ref 0] 121 [.ref 111] H (.int v) := by
  obtain ⟨tx, ln, n, sd, kd, s, am, stk, kp, ks, tm, tc, th, td, sed, hC, hM, hS⟩ := hG
  have b3 := hS.2.1
  exact ⟨_, pair_of (x68 hC hS ) hM (fun H1 hM1 => y121 hM1 hS ) (sp_wipe hS)⟩
theorem pr_fault {tb : dxT} {H : dxH} (hTb : tbOK tb) (hG : Good H) : ∃ v : Int32, PrP tb 69 [.ref 0] 126 [.ref 111] H (.int v) := by
  obtain ⟨tx, ln, n, sd, kd, s, am, stk, kp, ks, tm, tc, th, td, sed, hC, hM, hS⟩ := hG
  have b3 := hS.2.1
  exact ⟨_, pair_of (x69 hC hS hTb) hM (fun H1 hM1 => y126 hM1 hS) hS⟩
theorem pr_pass {tb : dxT} {H : dxH} (hTb : tbOK tb) (hG : Good H) : ∃ v : Int32, PrP tb 70 [.ref 0] 127 [.ref 111] H (.int v) := by
  obtain ⟨tx, ln, n, sd, kd, s, am, stk, kp, ks, tm, tc, th, td, sed, hC, hM, hS⟩ := hG
  have b3 := hS.2.1
  by_cases h0 : fplP tx ln = -9
  · exact ⟨_, pair_of (x70 hC hS hTb h0) hM (fun H1 hM1 => y127 hM1 hS h0) (tel_sp hS h0 (fun i hi => by rcases (show i = 0 ∨ i = 1 by omega) with rfl | rfl <;> rfl))⟩
  · exact ⟨_, pair_of (x70f hC hS hTb h0) hM (fun H1 hM1 => y127f hM1 hS h0) hS⟩
theorem pr_clover {tb : dxT} {H : dxH} (x : Int32) (hG : Good H) : ∃ v : Int32, PrP tb 71 [.ref 0, .int x] 129 [.ref 111, .int x] H (.int v) := by
  obtain ⟨tx, ln, n, sd, kd, s, am, stk, kp, ks, tm, tc, th, td, sed, hC, hM, hS⟩ := hG
  have b3 := hS.2.1
  rcases Bool.eq_false_or_eq_true (inR x 10) with h0 | h0
  · obtain ⟨c, hc, rfl⟩ := inR_of (by omega) h0
    exact ⟨_, pair_of (x71t hC hS hc) hM (fun H1 hM1 => y129t hM1 hS hc) hS⟩
  · exact ⟨_, pair_of (x71f hC hS h0) hM (fun H1 hM1 => y129f hM1 hS h0) hS⟩
theorem pr_cow {tb : dxT} {H : dxH} (x : Int32) (y : Int32) (hG : Good H) : ∃ v : Int32, PrP tb 72 [.ref 0, .int x, .int y] 131 [.ref 111, .int x, .int y] H (.int v) := by
  obtain ⟨tx, ln, n, sd, kd, s, am, stk, kp, ks, tm, tc, th, td, sed, hC, hM, hS⟩ := hG
  have b3 := hS.2.1
  rcases Bool.eq_false_or_eq_true (inR x n) with h0 | h0
  · obtain ⟨k, hk, rfl⟩ := inR_of (by omega) h0
    rcases Bool.eq_false_or_eq_true (inR y 5) with h0 | h0
    · obtain ⟨c, hc, rfl⟩ := inR_of (by omega) h0
      rcases (show c = 0 ∨ c = 1 ∨ c = 2 ∨ c = 3 ∨ c = 4 by omega) with rfl | rfl | rfl | rfl | rfl
      · exact ⟨_, pair_of (x72_0 hC hS hk) hM (fun H1 hM1 => y131_0 hM1 hS hk) hS⟩
      · exact ⟨_, pair_of (x72_1 hC hS hk) hM (fun H1 hM1 => y131_1 hM1 hS hk) hS⟩
      · exact ⟨_, pair_of (x72_2 hC hS hk) hM (fun H1 hM1 => y131_2 hM1 hS hk) hS⟩
      · exact ⟨_, pair_of (x72_3 hC hS hk) hM (fun H1 hM1 => y131_3 hM1 hS hk) hS⟩
      · exact ⟨_, pair_of (x72_4 hC hS hk) hM (fun H1 hM1 => y131_4 hM1 hS hk) hS⟩
    · exact ⟨_, pair_of (x72o hC hS hk h0) hM (fun H1 hM1 => y131o hM1 hS hk h0) hS⟩
  · exact ⟨_, pair_of (x72u hC hS h0) hM (fun H1 hM1 => y131u hM1 hS h0) hS⟩
theorem pr_hour {tb : dxT} {H : dxH} (b : Bool) (hG : Good H) : ∃ v : Int32, PrP tb 73 [.ref 0, .int (bI b)] 137 [.ref 111, .int (bI b)] H (.int v) := by
  obtain ⟨tx, ln, n, sd, kd, s, am, stk, kp, ks, tm, tc, th, td, sed, hC, hM, hS⟩ := hG
  have b3 := hS.2.1
  exact ⟨_, pair_of (x73 hC hS ) hM (fun H1 hM1 => y137 hM1 hS ) (sp_hour hS)⟩
theorem pr_move {tb : dxT} {H : dxH} (x : Int32) (y : Int32) (hG : Good H) : ∃ v : Int32, PrP tb 74 [.ref 0, .int x, .int y] 139 [.ref 111, .int x, .int y] H (.int v) := by
  obtain ⟨tx, ln, n, sd, kd, s, am, stk, kp, ks, tm, tc, th, td, sed, hC, hM, hS⟩ := hG
  have b3 := hS.2.1
  rcases Bool.eq_false_or_eq_true (inR x n) with h0 | h0
  · obtain ⟨k, hk, rfl⟩ := inR_of (by omega) h0
    rcases Bool.eq_false_or_eq_true (inR y 10) with h0 | h0
    · obtain ⟨c, hc, rfl⟩ := inR_of (by omega) h0
      rcases Bool.eq_false_or_eq_true (grzB (HE n) s.1 c) with h1 | h1
      · exact ⟨_, pair_of (x74s hC hS hk hc h1) hM (fun H1 hM1 => y139s hM1 hS hk hc h1) hS⟩
      · exact ⟨_, pair_of (x74 hC hS hk hc h1) hM (fun H1 hM1 => y139 hM1 hS hk hc h1) (sp_move hk hc h1 hS)⟩
    · exact ⟨_, pair_of (x74o hC hS hk h0) hM (fun H1 hM1 => y139o hM1 hS hk h0) hS⟩
  · exact ⟨_, pair_of (x74u hC hS h0) hM (fun H1 hM1 => y139u hM1 hS h0) hS⟩
theorem pr_sow {tb : dxT} {H : dxH} (x : Int32) (hG : Good H) : ∃ v : Int32, PrP tb 75 [.ref 0, .int x] 140 [.ref 111, .int x] H (.int v) := by
  obtain ⟨tx, ln, n, sd, kd, s, am, stk, kp, ks, tm, tc, th, td, sed, hC, hM, hS⟩ := hG
  have b3 := hS.2.1
  rcases Bool.eq_false_or_eq_true (inR x 10) with h0 | h0
  · obtain ⟨c, hc, rfl⟩ := inR_of (by omega) h0
    by_cases hl : s.2.2.1 c < 9
    · exact ⟨_, pair_of (x75 hC hS hc hl) hM (fun H1 hM1 => y140 hM1 hS hc hl) (sp_sow hc hl hS)⟩
    · exact ⟨_, pair_of (x75f hC hS hc hl) hM (fun H1 hM1 => y140f hM1 hS hc hl) hS⟩
  · exact ⟨_, pair_of (x75o hC hS h0) hM (fun H1 hM1 => y140o hM1 hS h0) hS⟩
theorem pr_snow {tb : dxT} {H : dxH} (hG : Good H) : ∃ v : Int32, PrP tb 76 [.ref 0] 141 [.ref 111] H (.int v) := by
  obtain ⟨tx, ln, n, sd, kd, s, am, stk, kp, ks, tm, tc, th, td, sed, hC, hM, hS⟩ := hG
  have b3 := hS.2.1
  exact ⟨_, pair_of (x76 hC hS ) hM (fun H1 hM1 => y141 hM1 hS ) (sp_snow hS)⟩
theorem pr_undo {tb : dxT} {H : dxH} (hG : Good H) : ∃ v : Int32, PrP tb 77 [.ref 0] 142 [.ref 111] H (.int v) := by
  obtain ⟨tx, ln, n, sd, kd, s, am, stk, kp, ks, tm, tc, th, td, sed, hC, hM, hS⟩ := hG
  have b3 := hS.2.1
  by_cases h0 : am = 0
  · exact ⟨_, pair_of (x77e hC hS h0) hM (fun H1 hM1 => y142e hM1 hS h0) hS⟩
  · have h1 : 0 < am := by omega
    exact ⟨_, pair_of (x77 hC hS h1) hM (fun H1 hM1 => y142 hM1 hS h1) (sp_undo h1 hS)⟩
theorem pr_sorts {tb : dxT} {H : dxH} (x : Int32) (hG : Good H) : ∃ v : Int32, PrP tb 78 [.ref 0, .int x] 144 [.ref 111, .int x] H (.int v) := by
  obtain ⟨tx, ln, n, sd, kd, s, am, stk, kp, ks, tm, tc, th, td, sed, hC, hM, hS⟩ := hG
  have b3 := hS.2.1
  rcases Bool.eq_false_or_eq_true (ahdB x) with h0 | h0
  · obtain ⟨m, hm1, hm, rfl⟩ := ahd_of h0
    exact ⟨_, pair_of (x78 hC hS hm1 hm) hM (fun H1 hM1 => y144 hM1 hS hm1 hm) hS⟩
  · exact ⟨_, pair_of (x78f hC hS h0) hM (fun H1 hM1 => y144f hM1 hS h0) hS⟩
theorem pr_on {tb : dxT} {H : dxH} (x : Int32) (hG : Good H) : ∃ v : Int32, PrP tb 79 [.ref 0, .int x] 146 [.ref 111, .int x] H (.int v) := by
  obtain ⟨tx, ln, n, sd, kd, s, am, stk, kp, ks, tm, tc, th, td, sed, hC, hM, hS⟩ := hG
  have b3 := hS.2.1
  rcases Bool.eq_false_or_eq_true (ahdB x) with h0 | h0
  · obtain ⟨m, hm1, hm, rfl⟩ := ahd_of h0
    exact ⟨_, pair_of (x79 hC hS hm1 hm) hM (fun H1 hM1 => y146 hM1 hS hm1 hm) hS⟩
  · exact ⟨_, pair_of (x79f hC hS h0) hM (fun H1 hM1 => y146f hM1 hS h0) hS⟩
theorem pr_milk {tb : dxT} {H : dxH} (y : Int32) (x : Int32) (hG : Good H) : ∃ v : Int32, PrP tb 80 [.ref 0, .int y, .int x] 147 [.ref 111, .int y, .int x] H (.int v) := by
  obtain ⟨tx, ln, n, sd, kd, s, am, stk, kp, ks, tm, tc, th, td, sed, hC, hM, hS⟩ := hG
  have b3 := hS.2.1
  rcases Bool.eq_false_or_eq_true (inR y 2) with h0 | h0
  · obtain ⟨q, hq, rfl⟩ := inR_of (by omega) h0
    rcases Bool.eq_false_or_eq_true (ahdB x) with h0 | h0
    · obtain ⟨m, hm1, hm, rfl⟩ := ahd_of h0
      exact ⟨_, pair_of (x80 hC hS hq hm1 hm) hM (fun H1 hM1 => y147 hM1 hS hq hm1 hm) hS⟩
    · exact ⟨_, pair_of (x80f hC hS hq h0) hM (fun H1 hM1 => y147f hM1 hS hq h0) hS⟩
  · exact ⟨_, pair_of (x80s hC hS h0) hM (fun H1 hM1 => y147s hM1 hS h0) hS⟩
theorem pr_graze {tb : dxT} {H : dxH} (y : Int32) (x : Int32) (u : Bool) (z : Int32) (hG : Good H) : ∃ v : Int32, PrP tb 81 [.ref 0, .int y, .int x, .int (bI u), .int z] 150 [.ref 111, .int y, .int x, .int (bI u), .int z] H (.int v) := by
  obtain ⟨tx, ln, n, sd, kd, s, am, stk, kp, ks, tm, tc, th, td, sed, hC, hM, hS⟩ := hG
  have b3 := hS.2.1
  rcases Bool.eq_false_or_eq_true (inR y 2) with h0 | h0
  · obtain ⟨q, hq, rfl⟩ := inR_of (by omega) h0
    rcases Bool.eq_false_or_eq_true (ahdB x) with h0 | h0
    · obtain ⟨m, hm1, hm, rfl⟩ := ahd_of h0
      rcases Bool.eq_false_or_eq_true (inR z 3) with h0 | h0
      · obtain ⟨w, hw, rfl⟩ := inR_of (by omega) h0
        rcases (show q = 0 ∨ q = 1 by omega) with rfl | rfl
        · have hw2 : w ≤ 2 := by omega
          exact ⟨_, pair_of (x81_0 hC hS hm1 hm hw2) hM (fun H1 hM1 => y150 hM1 hS hq hm1 hm hw2) hS⟩
        · have hw2 : w ≤ 2 := by omega
          exact ⟨_, pair_of (x81_1 hC hS hm1 hm hw2) hM (fun H1 hM1 => y150 hM1 hS hq hm1 hm hw2) hS⟩
      · exact ⟨_, pair_of (x81o hC hS hq hm1 hm h0) hM (fun H1 hM1 => y150o hM1 hS hq hm1 hm h0) hS⟩
    · exact ⟨_, pair_of (x81f hC hS hq h0) hM (fun H1 hM1 => y150f hM1 hS hq h0) hS⟩
  · exact ⟨_, pair_of (x81s hC hS h0) hM (fun H1 hM1 => y150s hM1 hS h0) hS⟩
theorem pr_fewest {tb : dxT} {H : dxH} (x : Int32) (u : Bool) (hG : Good H) : ∃ v : Int32, PrP tb 82 [.ref 0, .int x, .int (bI u)] 152 [.ref 111, .int x, .int (bI u)] H (.int v) := by
  obtain ⟨tx, ln, n, sd, kd, s, am, stk, kp, ks, tm, tc, th, td, sed, hC, hM, hS⟩ := hG
  have b3 := hS.2.1
  rcases Bool.eq_false_or_eq_true (ahdB x) with h0 | h0
  · obtain ⟨m, hm1, hm, rfl⟩ := ahd_of h0
    exact ⟨_, pair_of (x82 hC hS hm1 hm) hM (fun H1 hM1 => y152 hM1 hS hm1 hm) hS⟩
  · exact ⟨_, pair_of (x82f hC hS h0) hM (fun H1 hM1 => y152f hM1 hS h0) hS⟩
theorem pr_judge {tb : dxT} {H : dxH} (x : Int32) (y : Int32) (hG : Good H) : ∃ v : Int32, PrP tb 83 [.ref 0, .int x, .int y] 154 [.ref 111, .int x, .int y] H (.int v) := by
  obtain ⟨tx, ln, n, sd, kd, s, am, stk, kp, ks, tm, tc, th, td, sed, hC, hM, hS⟩ := hG
  have b3 := hS.2.1
  rcases Bool.eq_false_or_eq_true (ahdB x) with h0 | h0
  · obtain ⟨m, hm1, hm, rfl⟩ := ahd_of h0
    have hp8 : 10 ^ m ≤ 10 ^ 8 := Nat.pow_le_pow_right (by decide) hm
    rcases Bool.eq_false_or_eq_true (inR y (10 ^ m)) with h0 | h0
    · obtain ⟨r, hr, rfl⟩ := inR_of (by omega) h0
      exact ⟨_, pair_of (x83 hC hS hm1 hm hr) hM (fun H1 hM1 => y154 hM1 hS hm1 hm hr) hS⟩
    · exact ⟨_, pair_of (x83o hC hS hm1 hm h0) hM (fun H1 hM1 => y154o hM1 hS hm1 hm h0) hS⟩
  · exact ⟨_, pair_of (x83f hC hS h0) hM (fun H1 hM1 => y154f hM1 hS h0) hS⟩
theorem pr_share {tb : dxT} {H : dxH} (x : Int32) (y : Int32) (u : Bool) (hG : Good H) : ∃ v : Int32, PrP tb 84 [.ref 0, .int x, .int y, .int (bI u)] 157 [.ref 111, .int x, .int y, .int (bI u)] H (.int v) := by
  obtain ⟨tx, ln, n, sd, kd, s, am, stk, kp, ks, tm, tc, th, td, sed, hC, hM, hS⟩ := hG
  have b3 := hS.2.1
  rcases Bool.eq_false_or_eq_true (inR x n) with h0 | h0
  · obtain ⟨k, hk, rfl⟩ := inR_of (by omega) h0
    rcases Bool.eq_false_or_eq_true (ahdB y) with h0 | h0
    · obtain ⟨m, hm1, hm, rfl⟩ := ahd_of h0
      exact ⟨_, pair_of (x84 hC hS hk hm1 hm) hM (fun H1 hM1 => y157 hM1 hS hk hm1 hm) hS⟩
    · exact ⟨_, pair_of (x84o hC hS hk h0) hM (fun H1 hM1 => y157o hM1 hS hk h0) hS⟩
  · exact ⟨_, pair_of (x84u hC hS h0) hM (fun H1 hM1 => y157u hM1 hS h0) hS⟩
theorem pr_rang {tb : dxT} {H : dxH} (x : Int32) (y : Int32) (hG : Good H) : ∃ v : Int32, PrP tb 85 [.ref 0, .int x, .int y] 158 [.ref 111, .int x, .int y] H (.int v) := by
  obtain ⟨tx, ln, n, sd, kd, s, am, stk, kp, ks, tm, tc, th, td, sed, hC, hM, hS⟩ := hG
  have b3 := hS.2.1
  rcases Bool.eq_false_or_eq_true (ahdB x) with h0 | h0
  · obtain ⟨m, hm1, hm, rfl⟩ := ahd_of h0
    have hp8 : 2 ^ m ≤ 2 ^ 8 := Nat.pow_le_pow_right (by decide) hm
    rcases Bool.eq_false_or_eq_true (inR y (2 ^ m)) with h0 | h0
    · obtain ⟨r, hr, rfl⟩ := inR_of (by omega) h0
      exact ⟨_, pair_of (x85 hC hS hm1 hm hr) hM (fun H1 hM1 => y158 hM1 hS hm1 hm hr) hS⟩
    · exact ⟨_, pair_of (x85o hC hS hm1 hm h0) hM (fun H1 hM1 => y158o hM1 hS hm1 hm h0) hS⟩
  · exact ⟨_, pair_of (x85f hC hS h0) hM (fun H1 hM1 => y158f hM1 hS h0) hS⟩
theorem pr_tell {tb : dxT} {H : dxH} (x : Int32) (y : Int32) (b : Bool) (hG : Good H) : ∃ v : Int32, PrP tb 86 [.ref 0, .int x, .int y, .int (bI b)] 159 [.ref 111, .int x, .int y, .int (bI b)] H (.int v) := by
  obtain ⟨tx, ln, n, sd, kd, s, am, stk, kp, ks, tm, tc, th, td, sed, hC, hM, hS⟩ := hG
  have b3 := hS.2.1
  rcases Bool.eq_false_or_eq_true (inR x n) with h0 | h0
  · obtain ⟨k, hk, rfl⟩ := inR_of (by omega) h0
    rcases Bool.eq_false_or_eq_true (inR y 8) with h0 | h0
    · obtain ⟨q, hq, rfl⟩ := inR_of (by omega) h0
      by_cases hl : tm < 6
      · exact ⟨_, pair_of (x86 hC hS hk hq hl) hM (fun H1 hM1 => y159 hM1 hS hk hq hl) (sp_tell hk hq hl hS)⟩
      · exact ⟨_, pair_of (x86f hC hS hk hq hl) hM (fun H1 hM1 => y159f hM1 hS hk hq hl) hS⟩
    · exact ⟨_, pair_of (x86o hC hS hk h0) hM (fun H1 hM1 => y159o hM1 hS hk h0) hS⟩
  · exact ⟨_, pair_of (x86u hC hS h0) hM (fun H1 hM1 => y159u hM1 hS h0) hS⟩
theorem pr_untell {tb : dxT} {H : dxH} (hG : Good H) : ∃ v : Int32, PrP tb 87 [.ref 0] 160 [.ref 111] H (.int v) := by
  obtain ⟨tx, ln, n, sd, kd, s, am, stk, kp, ks, tm, tc, th, td, sed, hC, hM, hS⟩ := hG
  have b3 := hS.2.1
  exact ⟨_, pair_of (x87 hC hS ) hM (fun H1 hM1 => y160 hM1 hS ) (sp_untell hS)⟩
theorem pr_full {tb : dxT} {H : dxH} (x : Int32) (hG : Good H) : ∃ v : Int32, PrP tb 88 [.ref 0, .int x] 162 [.ref 111, .int x] H (.int v) := by
  obtain ⟨tx, ln, n, sd, kd, s, am, stk, kp, ks, tm, tc, th, td, sed, hC, hM, hS⟩ := hG
  have b3 := hS.2.1
  rcases Bool.eq_false_or_eq_true (inR x n) with h0 | h0
  · obtain ⟨k, hk, rfl⟩ := inR_of (by omega) h0
    exact ⟨_, pair_of (x88 hC hS hk) hM (fun H1 hM1 => y162 hM1 hS hk) hS⟩
  · exact ⟨_, pair_of (x88u hC hS h0) hM (fun H1 hM1 => y162u hM1 hS h0) hS⟩
theorem pr_rests {tb : dxT} {H : dxH} (x : Int32) (y : Int32) (hG : Good H) : ∃ v : Int32, PrP tb 89 [.ref 0, .int x, .int y] 165 [.ref 111, .int x, .int y] H (.int v) := by
  obtain ⟨tx, ln, n, sd, kd, s, am, stk, kp, ks, tm, tc, th, td, sed, hC, hM, hS⟩ := hG
  have b3 := hS.2.1
  rcases Bool.eq_false_or_eq_true (ahdB x) with h0 | h0
  · obtain ⟨m, hm1, hm, rfl⟩ := ahd_of h0
    rcases Bool.eq_false_or_eq_true (inR y 2) with h0 | h0
    · obtain ⟨q, hq, rfl⟩ := inR_of (by omega) h0
      have hq1 : q ≤ 1 := by omega
      exact ⟨_, pair_of (x89 hC hS hm1 hm hq1) hM (fun H1 hM1 => y165 hM1 hS hm1 hm hq1) hS⟩
    · exact ⟨_, pair_of (x89o hC hS hm1 hm h0) hM (fun H1 hM1 => y165o hM1 hS hm1 hm h0) hS⟩
  · exact ⟨_, pair_of (x89f hC hS h0) hM (fun H1 hM1 => y165f hM1 hS h0) hS⟩
theorem inM_of {x : Int32} {a b : Nat} (hb : b < 2147483648) (hab : a ≤ b) (h : inM x a b = true) : ∃ m : Nat, a ≤ m ∧ m ≤ b ∧ x = nI m := by
  have h1 := of_decide_eq_true h
  have h2 := Int32.le_iff_toInt_le.mp h1.1
  have h3 := Int32.le_iff_toInt_le.mp h1.2
  rw [nI_toInt (by omega)] at h2 h3
  refine ⟨x.toInt.toNat, by omega, by omega, ?_⟩
  apply Int32.toInt_inj.mp
  rw [nI_toInt (by omega)]
  omega
theorem pr_chance {tb : dxT} {H : dxH} (x : Int32) (y : Int32) (u : Bool) (hG : Good H) : ∃ v : Int32, PrP tb 90 [.ref 0, .int x, .int y, .int (bI u)] 166 [.ref 111, .int x, .int y, .int (bI u)] H (.int v) := by
  obtain ⟨tx, ln, n, sd, kd, s, am, stk, kp, ks, tm, tc, th, td, sed, hC, hM, hS⟩ := hG
  have b3 := hS.2.1
  rcases Bool.eq_false_or_eq_true (inM x 1 6) with h0 | h0
  · obtain ⟨m, hm1, hm, rfl⟩ := inM_of (by decide) (by decide) h0
    rcases Bool.eq_false_or_eq_true (inM y 0 10) with h0 | h0
    · obtain ⟨q, hq1, hq2, rfl⟩ := inM_of (by decide) (by decide) h0
      exact ⟨_, pair_of (x90 hC hS hm1 hm hq2) hM (fun H1 hM1 => y166 hM1 hS hm1 hm hq2) hS⟩
    · exact ⟨_, pair_of (x90o hC hS hm1 hm h0) hM (fun H1 hM1 => y166o hM1 hS hm1 hm h0) hS⟩
  · exact ⟨_, pair_of (x90f hC hS h0) hM (fun H1 hM1 => y166f hM1 hS h0) hS⟩
theorem pr_seed {tb : dxT} {H : dxH} (z : Int64) (hG : Good H) : ∃ v : Int64, PrP tb 91 [.ref 0, .long z] 167 [.ref 111, .long z] H (.long v) := by
  obtain ⟨tx, ln, n, sd, kd, s, am, stk, kp, ks, tm, tc, th, td, sed, hC, hM, hS⟩ := hG
  have b3 := hS.2.1
  exact ⟨_, pair_of (x91 hC hS ) hM (fun H1 hM1 => y167 hM1 hS ) hS⟩
theorem pr_summers {tb : dxT} {H : dxH} (x : Int32) (hG : Good H) : ∃ v : Int32, PrP tb 92 [.ref 0, .int x] 168 [.ref 111, .int x] H (.int v) := by
  obtain ⟨tx, ln, n, sd, kd, s, am, stk, kp, ks, tm, tc, th, td, sed, hC, hM, hS⟩ := hG
  have b3 := hS.2.1
  rcases Bool.eq_false_or_eq_true (sumB x) with h0 | h0
  · rw [sumB_M] at h0
    obtain ⟨m, hm1, hm, rfl⟩ := inM_of (by decide) (by decide) h0
    exact ⟨_, pair_of (x92 hC hS hm1 hm) hM (fun H1 hM1 => y168 hM1 hS hm1 hm) hS⟩
  · exact ⟨_, pair_of (x92f hC hS h0) hM (fun H1 hM1 => y168f hM1 hS h0) hS⟩
theorem pr_keep {tb : dxT} {H : dxH} (x : Int32) (hG : Good H) : ∃ v : Int32, PrP tb 93 [.ref 0, .int x] 169 [.ref 111, .int x] H (.int v) := by
  obtain ⟨tx, ln, n, sd, kd, s, am, stk, kp, ks, tm, tc, th, td, sed, hC, hM, hS⟩ := hG
  have b3 := hS.2.1
  rcases Bool.eq_false_or_eq_true (inR x 2) with h0 | h0
  · obtain ⟨i, hi, rfl⟩ := inR_of (by omega) h0
    exact ⟨_, pair_of (x93 hC hS hi) hM (fun H1 hM1 => y169 hM1 hS hi) (sp_keep hS)⟩
  · exact ⟨_, pair_of (x93u hC hS h0) hM (fun H1 hM1 => y169u hM1 hS h0) hS⟩
theorem pr_again {tb : dxT} {H : dxH} (x : Int32) (hG : Good H) : ∃ v : Int32, PrP tb 94 [.ref 0, .int x] 170 [.ref 111, .int x] H (.int v) := by
  obtain ⟨tx, ln, n, sd, kd, s, am, stk, kp, ks, tm, tc, th, td, sed, hC, hM, hS⟩ := hG
  have b3 := hS.2.1
  rcases Bool.eq_false_or_eq_true (inR x 2) with h0 | h0
  · obtain ⟨i, hi, rfl⟩ := inR_of (by omega) h0
    rcases Bool.eq_false_or_eq_true (kp i) with h1 | h1
    · exact ⟨_, pair_of (x94 hC hS hi h1) hM (fun H1 hM1 => y170 hM1 hS hi h1) (sp_again hi h1 hS)⟩
    · exact ⟨_, pair_of (x94s hC hS hi h1) hM (fun H1 hM1 => y170e hM1 hS hi h1) hS⟩
  · exact ⟨_, pair_of (x94u hC hS h0) hM (fun H1 hM1 => y170u hM1 hS h0) hS⟩
theorem pr_count {tb : dxT} {H : dxH} (x : Int32) (hG : Good H) : ∃ v : Int32, PrP tb 95 [.ref 0, .int x] 171 [.ref 111, .int x] H (.int v) := by
  obtain ⟨tx, ln, n, sd, kd, s, am, stk, kp, ks, tm, tc, th, td, sed, hC, hM, hS⟩ := hG
  have b3 := hS.2.1
  rcases Bool.eq_false_or_eq_true (inR x 10) with h0 | h0
  · obtain ⟨c, hc, rfl⟩ := inR_of (by omega) h0
    rcases (show c = 0 ∨ c = 1 ∨ c = 2 ∨ c = 3 ∨ c = 4 ∨ c = 5 ∨ c = 6 ∨ c = 7 ∨ c = 8 ∨ c = 9 by omega) with rfl | rfl | rfl | rfl | rfl | rfl | rfl | rfl | rfl | rfl
    · exact ⟨_, pair_of (x95_0 hC hS ) hM (fun H1 hM1 => y171_0 hM1 hS ) hS⟩
    · exact ⟨_, pair_of (x95_1 hC hS ) hM (fun H1 hM1 => y171_1 hM1 hS ) hS⟩
    · exact ⟨_, pair_of (x95_2 hC hS ) hM (fun H1 hM1 => y171_2 hM1 hS ) hS⟩
    · exact ⟨_, pair_of (x95_3 hC hS ) hM (fun H1 hM1 => y171_3 hM1 hS ) hS⟩
    · exact ⟨_, pair_of (x95_4 hC hS ) hM (fun H1 hM1 => y171_4 hM1 hS ) hS⟩
    · exact ⟨_, pair_of (x95_5 hC hS ) hM (fun H1 hM1 => y171_5 hM1 hS ) hS⟩
    · exact ⟨_, pair_of (x95_6 hC hS ) hM (fun H1 hM1 => y171_6 hM1 hS ) hS⟩
    · exact ⟨_, pair_of (x95_7 hC hS ) hM (fun H1 hM1 => y171_7 hM1 hS ) hS⟩
    · exact ⟨_, pair_of (x95_8 hC hS ) hM (fun H1 hM1 => y171_8 hM1 hS ) hS⟩
    · exact ⟨_, pair_of (x95_9 hC hS ) hM (fun H1 hM1 => y171_9 hM1 hS ) hS⟩
  · exact ⟨_, pair_of (x95o hC hS h0) hM (fun H1 hM1 => y171o hM1 hS h0) hS⟩
