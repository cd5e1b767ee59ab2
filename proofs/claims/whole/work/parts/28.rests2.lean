/-! the class's calls: sides at rest, refusals of chance  -/
/-- free cells from c on -/
def freN (he : Nat) (ce : Nat → Nat) : Nat → Nat → Nat
  | 0, _ => 0
  | d + 1, c => (if grzB he ce c = true then 0 else 1) + freN he ce d (c + 1)
/-- beasts of a side from k on -/
def owN (p : Nat → Bool) : Nat → Nat → Nat
  | 0, _ => 0
  | d + 1, k => (if p k = true then 1 else 0) + owN p d (k + 1)
theorem addC_len {l : List Nat} {c : Nat} : (addC l c).length ≤ l.length + 1 := by
  unfold addC
  split
  · rw [List.length_append]; exact Nat.le_refl _
  · omega
theorem mv_len {he : Nat} {ce : Nat → Nat} {k : Nat} : ∀ (d c : Nat) (l : List Nat), (upto (mvF he ce k) d c l).length ≤ l.length + freN he ce d c
  | 0, _, _ => Nat.le_refl _
  | d + 1, c, l => by
    have h := mv_len (he := he) (ce := ce) (k := k) d (c + 1) (mvF he ce k c l)
    unfold upto freN
    by_cases hg : grzB he ce c = true
    · rw [if_pos hg]
      have e : mvF he ce k c l = l := by unfold mvF; exact if_pos hg
      rw [e] at h ⊢
      omega
    · rw [if_neg hg]
      have e : (mvF he ce k c l).length ≤ l.length + 1 := by unfold mvF; rw [if_neg hg]; exact addC_len
      omega
theorem ch_len {he : Nat} {sd ce : Nat → Nat} {q : Nat} : ∀ (d k : Nat) (l : List Nat), (upto (chF he sd ce q) d k l).length ≤ l.length + owN (fun i => he.testBit i && decide (sd i = q)) d k * freN he ce 10 0
  | 0, _, _ => by unfold upto owN; omega
  | d + 1, k, l => by
    have h := ch_len (he := he) (sd := sd) (ce := ce) (q := q) d (k + 1) (chF he sd ce q k l)
    unfold upto owN
    by_cases hg : (he.testBit k && decide (sd k = q)) = true
    · rw [if_pos hg, Nat.add_mul]
      have e : (chF he sd ce q k l).length ≤ l.length + freN he ce 10 0 := by unfold chF; rw [if_pos hg]; exact mv_len 10 0 l
      omega
    · rw [if_neg hg, Nat.add_mul]
      have e : chF he sd ce q k l = l := by unfold chF; exact if_neg hg
      rw [e] at h ⊢
      omega
theorem ow_two {n : Nat} {sd : Nat → Nat} : ∀ (d k : Nat), owN (fun i => (HE n).testBit i && decide (sd i = 0)) d k + owN (fun i => (HE n).testBit i && decide (sd i = 1)) d k ≤ n - k
  | 0, _ => by unfold owN; omega
  | d + 1, k => by
    have h := ow_two (n := n) (sd := sd) d (k + 1)
    unfold owN
    simp only [HE_bit] at h ⊢
    by_cases hk : k < n <;> by_cases h0 : sd k = 0 <;> by_cases h1 : sd k = 1 <;> simp [hk, h0, h1] <;> omega
theorem grz_HE {n : Nat} {ce : Nat → Nat} {c : Nat} (hn : n ≤ 6) : grzB (HE n) ce c = true ↔ ∃ i, i < n ∧ ce i = c := by
  unfold grzB
  rw [anyB_iff]
  constructor
  · rintro ⟨i, _, h2, h3⟩
    rw [HE_bit, Bool.and_eq_true] at h3
    exact ⟨i, of_decide_eq_true h3.1, of_decide_eq_true h3.2⟩
  · rintro ⟨i, h1, h2⟩
    refine ⟨i, Nat.zero_le _, by omega, ?_⟩
    rw [HE_bit, Bool.and_eq_true]
    exact ⟨decide_eq_true h1, decide_eq_true h2⟩
theorem fre_next {n : Nat} {ce : Nat → Nat} (hn : n + 1 ≤ 6) (hi : ∀ i, i < n → ce i ≠ ce n) : ∀ (d c : Nat), freN (HE (n + 1)) ce d c + (if c ≤ ce n ∧ ce n < c + d then 1 else 0) ≤ freN (HE n) ce d c
  | 0, c => by unfold freN; rw [if_neg (by omega)]; exact Nat.le_refl _
  | d + 1, c => by
    have h := fre_next hn hi d (c + 1)
    have e1 := grz_HE (n := n) (ce := ce) (c := c) (by omega)
    have e2 := grz_HE (n := n + 1) (ce := ce) (c := c) hn
    unfold freN
    by_cases hc : ce n = c
    · have g1 : ¬ grzB (HE n) ce c = true := fun q => by
        obtain ⟨i, h1, h2⟩ := e1.mp q
        exact hi i h1 (h2.trans hc.symm)
      have g2 : grzB (HE (n + 1)) ce c = true := e2.mpr ⟨n, by omega, hc⟩
      rw [if_neg g1, if_pos g2, if_pos (by omega)]
      rw [if_neg (by omega)] at h
      omega
    · have g : (grzB (HE (n + 1)) ce c = true) ↔ (grzB (HE n) ce c = true) := by
        rw [e1, e2]
        constructor
        · rintro ⟨i, h1, h2⟩
          rcases Nat.lt_succ_iff_lt_or_eq.mp h1 with h3 | h3
          · exact ⟨i, h3, h2⟩
          · rw [h3] at h2; exact absurd h2 hc
        · rintro ⟨i, h1, h2⟩
          exact ⟨i, by omega, h2⟩
      have gg : (if grzB (HE (n + 1)) ce c = true then 0 else 1) = (if grzB (HE n) ce c = true then 0 else 1) := by
        by_cases q : grzB (HE n) ce c = true
        · rw [if_pos q, if_pos (g.mpr q)]
        · rw [if_neg q, if_neg (fun u => q (g.mp u))]
      rw [gg]
      by_cases hq : c ≤ ce n ∧ ce n < c + (d + 1)
      · rw [if_pos hq]
        rw [if_pos (by omega)] at h
        omega
      · rw [if_neg hq]
        rw [if_neg (by omega)] at h
        omega
theorem fre_le {ce : Nat → Nat} (hce : ∀ j, ce j < 10) : ∀ (n : Nat), n ≤ 6 → (∀ i j, i < n → j < n → ce i = ce j → i = j) → freN (HE n) ce 10 0 + n ≤ 10
  | 0, _, _ => by
    have h : ∀ d c, freN (HE 0) ce d c ≤ d := by
      intro d
      induction d with
      | zero => intro c; exact Nat.le_refl _
      | succ d ih =>
        intro c
        unfold freN
        have := ih (c + 1)
        split <;> omega
    exact h 10 0
  | n + 1, hn, hi => by
    have h1 := fre_le hce n (by omega) (fun i j a b => hi i j (by omega) (by omega))
    have h2 := fre_next hn (fun i a q => absurd (hi i n (by omega) (by omega) q) (by omega)) 10 0
    have h3 := hce n
    rw [if_pos (by omega)] at h2
    omega
theorem c176 : ∀ n a b, n ≤ 6 → a + b ≤ n → (1 + a * (10 - n)) * (1 + b * (10 - n)) ≤ 176 := by
  have h : ∀ n : Fin 7, ∀ a : Fin 7, ∀ b : Fin 7, a.1 + b.1 ≤ n.1 → (1 + a.1 * (10 - n.1)) * (1 + b.1 * (10 - n.1)) ≤ 176 := by decide +kernel
  intro n a b h1 h2
  exact h ⟨n, by omega⟩ ⟨a, by omega⟩ ⟨b, by omega⟩ h2
theorem chs_len {n : Nat} {sd : Nat → Nat} {s : Sn} (hn : n ≤ 6) (hs : SnOK n s) : (chs n sd s 0).length * (chs n sd s 1).length ≤ 176 := by
  have hf := fre_le hs.1 n hn hs.2.2.2
  have h0 := ch_len (he := HE n) (sd := sd) (ce := s.1) (q := 0) 6 0 [0]
  have h1 := ch_len (he := HE n) (sd := sd) (ce := s.1) (q := 1) 6 0 [0]
  have h2 := ow_two (n := n) (sd := sd) 6 0
  refine Nat.le_trans (Nat.mul_le_mul (Nat.le_trans h0 ?_) (Nat.le_trans h1 ?_)) (c176 n _ _ hn h2)
  · exact Nat.add_le_add_left (Nat.mul_le_mul_left _ (by omega)) 1
  · exact Nat.add_le_add_left (Nat.mul_le_mul_left _ (by omega)) 1
theorem prOK0 {n : Nat} {sd kd : Nat → Nat} {s : Sn} {m : Nat} {l0 l1 : List Nat} {f : Nat → Int32} : prOK n sd kd s m l0 l1 0 0 f := fun a b _ _ h => by omega
theorem x89 {tb : dxT} {H : dxH} {tx : Nat → Nat} {ln n : Nat} {sd kd : Nat → Nat} {s : Sn} {am : Nat} {stk : Nat → Sn} {kp : Nat → Bool} {ks : Nat → Sn} {tm : Nat} {tc th : Nat → Nat} {td : Nat → Bool} {sed : Int64} {m v : Nat} (hI : CInv H tx ln n sd kd s am stk kp ks tm tc th td sed) (hS : SpOK tx ln n sd kd s am stk kp ks tm tc th) (hm1 : 1 ≤ m) (hm : m ≤ 8) (hv : v ≤ 1) : Cl tb 89 [.ref 0, .int (nI m), .int (nI v)] H (fun r H' => r = some (.int (if v = 0 then nI (rstP n sd kd s m).1 else (rstP n sd kd s m).2)) ∧ CInv H' tx ln n sd kd s am stk kp ks tm tc th td sed ∧ Off xC H H') := by
  obtain ⟨f0, fT, fH, fM, fA, fK, fL, fP⟩ := id hI
  obtain ⟨⟨b1, b2⟩, b3, b4, b5, b6, b7, b8, b9, b10, b11⟩ := id hS
  have hT := fP.1
  have g0 := f0
  unfold CC at g0
  obtain ⟨m0, m1, m2, m3, m4⟩ := id fM
  obtain ⟨_, _, _, _, _, _, _, _, ⟨t0, _⟩, _⟩ := id hT
  have hb : HE n < 64 := HE_lt b3
  have ha : 6 ≤ 6 := Nat.le_refl 6
  obtain ⟨_, ⟨ya, hYa⟩, ⟨yb, hYb⟩, fp, hp⟩ := id fP
  have hla := chs_len (sd := sd) b3 b6
  show Ev tb 89 0 [some (.ref 0), some (.int (nI m)), some (.int (nI v)), none, none, none, none, none, none, none] [] H _
  refine ev_iload_n i89_0 rfl ?_
  refine ev_callS (vs := [.int (nI m)]) (rest := []) i89_1 ci89 lk7_156 (Or.inl rfl) np99 (by decide +kernel) (Nat.le_of_ble_eq_true rfl) ⟨rfl, rfl, Nat.le_of_ble_eq_true rfl⟩ rfl (c99t (by omega) (by omega)) (fun r HH hq => ?_)
  obtain ⟨rfl, rfl⟩ := hq
  show Ev tb 89 4 [some (.ref 0), some (.int (nI m)), some (.int (nI v)), none, none, none, none, none, none, none] [.int (bI true)] H _
  refine evb_if_eq (t := 16) i89_4 (by decide) (fun z4 => by exfalso; cases z4) (fun z4 => ?_)
  refine ev_iload_n i89_7 rfl ?_
  refine evn_if_lt (t := 16) i89_8 (by decide) (by omega) ?_
  refine ev_iload_n i89_11 rfl ?_
  refine ev_iconst (v := nI 1) i89_12 (by decide) ?_
  refine evn_icmp_le (t := 19) i89_13 (by decide) (by omega) (fun z13 => ?_) (fun z13 => by exfalso; omega)
  refine ev_aload_n i89_19 rfl ?_
  refine ev_iconst (v := nI 0) i89_20 (by decide) ?_
  refine ev_callV (vs := [.int (nI 0)]) (rest := []) i89_21 ci89 lk7_175 (congrArg (fun q => q + 1) np108) ci108 (by decide) (by decide +kernel) (Nat.le_of_ble_eq_true rfl) ⟨rfl, rfl, Nat.le_of_ble_eq_true rfl⟩ rfl (by assumption) (c108_0 f0 fH fM hT b3 b4 b5 b6 hYa) (fun r H1 hq => ?_)
  obtain ⟨rfl, hY0, hO1⟩ := hq
  have f0 := f0.off hO1 (by unfold chC; omega)
  have fH := fH.off hO1 (by unfold chC; omega) (by unfold chC; omega) (by unfold chC; omega)
  have fM := fM.off hO1 (fun j u1 u2 => by unfold chC; omega)
  have hT := hT.off hO1 (fun j u1 u2 => by unfold chC; omega)
  have hp := hO1.at hp (by unfold chC; omega)
  have hYb := hYb.off hO1 (by unfold chC; omega) (by unfold chC; omega)
  have g0 := f0
  unfold CC at g0
  show Ev tb 89 24 [some (.ref 0), some (.int (nI m)), some (.int (nI v)), none, none, none, none, none, none, none] [.ref 106] H1 _
  refine ev_astore_n (L' := [some (.ref 0), some (.int (nI m)), some (.int (nI v)), some (.ref 106), none, none, none, none, none, none]) i89_24 ⟨Nat.le_of_ble_eq_true rfl, rfl⟩ rfl ?_
  refine ev_aload_n i89_25 rfl ?_
  refine ev_iconst (v := nI 1) i89_26 (by decide) ?_
  refine ev_callV (vs := [.int (nI 1)]) (rest := []) i89_27 ci89 lk7_175 (congrArg (fun q => q + 1) np108) ci108 (by decide) (by decide +kernel) (Nat.le_of_ble_eq_true rfl) ⟨rfl, rfl, Nat.le_of_ble_eq_true rfl⟩ rfl (by assumption) (c108_1 f0 fH fM hT b3 b4 b5 b6 hYb) (fun r H2 hq => ?_)
  obtain ⟨rfl, hY1, hO2⟩ := hq
  have f0 := f0.off hO2 (by unfold chC; omega)
  have fH := fH.off hO2 (by unfold chC; omega) (by unfold chC; omega) (by unfold chC; omega)
  have fM := fM.off hO2 (fun j u1 u2 => by unfold chC; omega)
  have hT := hT.off hO2 (fun j u1 u2 => by unfold chC; omega)
  have hp := hO2.at hp (by unfold chC; omega)
  have hY0 := hY0.off hO2 (by unfold chC; omega) (by unfold chC; omega)
  have g0 := f0
  unfold CC at g0
  show Ev tb 89 30 [some (.ref 0), some (.int (nI m)), some (.int (nI v)), some (.ref 106), none, none, none, none, none, none] [.ref 108] H2 _
  refine ev_astore (L' := [some (.ref 0), some (.int (nI m)), some (.int (nI v)), some (.ref 106), some (.ref 108), none, none, none, none, none]) i89_30 ⟨Nat.le_of_ble_eq_true rfl, rfl⟩ rfl ?_
  refine ev_iconst (v := nI 0) i89_32 (by decide) ?_
  refine ev_istore (L' := [some (.ref 0), some (.int (nI m)), some (.int (nI v)), some (.ref 106), some (.ref 108), some (.int (nI 0)), none, none, none, none]) i89_33 ⟨Nat.le_of_ble_eq_true rfl, rfl⟩ rfl ?_
  refine ev_iconst (v := nI 0) i89_35 (by decide) ?_
  refine ev_istore (L' := [some (.ref 0), some (.int (nI m)), some (.int (nI v)), some (.ref 106), some (.ref 108), some (.int (nI 0)), some (.int (nI 0)), none, none, none]) i89_36 ⟨Nat.le_of_ble_eq_true rfl, rfl⟩ rfl ?_
  have hl0 := hY0.1
  refine (congrArg (fun q => Ev tb 89 38 [some (.ref 0), some (.int (nI m)), some (.int (nI v)), some (.ref 106), some (.ref 108), some (.int (nI q)), some (.int (nI 0)), none, none, none] [] H2 _) (Nat.zero_mul (chs n sd s 1).length)).mp ?_
  refine lq89b b3 b4 b5 b6 hm hla f0 fH fM hY0 hY1 none (chs n sd s 0).length 0 H2 _ (Nat.zero_add _) Off.rf hT hp prOK0 (fun H3 f3 w7 w8 hO3 hT3 hp3 hok => ?_) none none
  refine ev_iconst (v := nI 0) i89_108 (by decide) ?_
  refine ev_istore (L' := [some (.ref 0), some (.int (nI m)), some (.int (nI v)), some (.ref 106), some (.ref 108), some (.int (nI ((chs n sd s 0).length * (chs n sd s 1).length))), some (.int (nI 0)), w7, w8, none]) i89_109 ⟨Nat.le_of_ble_eq_true rfl, rfl⟩ rfl ?_
  refine ev_bipush (v := (-9)) i89_111 (by decide) ?_
  refine ev_istore (L' := [some (.ref 0), some (.int (nI m)), some (.int (nI v)), some (.ref 106), some (.ref 108), some (.int (nI ((chs n sd s 0).length * (chs n sd s 1).length))), some (.int (nI 0)), some (.int (-9)), w8, none]) i89_113 ⟨Nat.le_of_ble_eq_true rfl, rfl⟩ rfl ?_
  refine ev_iconst (v := nI 0) i89_115 (by decide) ?_
  refine ev_istore (L' := [some (.ref 0), some (.int (nI m)), some (.int (nI v)), some (.ref 106), some (.ref 108), some (.int (nI ((chs n sd s 0).length * (chs n sd s 1).length))), some (.int (nI 0)), some (.int (-9)), some (.int (nI 0)), none]) i89_116 ⟨Nat.le_of_ble_eq_true rfl, rfl⟩ rfl ?_
  refine lq89d b3 hla (f0.off hO3 (by unfold mdC; omega)) (hY0.off hO3 (by unfold mdC; omega) (by unfold mdC; omega)) (hY1.off hO3 (by unfold mdC; omega) (by unfold mdC; omega)) hp3 hok (chs n sd s 0).length 0 0 _ (Nat.zero_add _) (by omega) (fun w9 => ?_) _
  show Ev tb 89 207 [some (.ref 0), some (.int (nI m)), some (.int (nI v)), some (.ref 106), some (.ref 108), some (.int (nI ((chs n sd s 0).length * (chs n sd s 1).length))), some (.int (nI ((rstP n sd kd s m).1))), some (.int ((rstP n sd kd s m).2)), some (.int (nI ((chs n sd s 0).length))), w9] [] H3 _
  refine ev_iload_n i89_207 rfl ?_
  refine evn_if_ne (t := 216) i89_208 (by decide) (by omega) (fun z208 => ?_) (fun z208 => ?_)
  · refine ev_iload i89_216 rfl ?_
    refine ev_iret i89_218 (by decide +kernel) ?_
    have hz : v = 1 := by omega
    rw [hz]
    have hW : Off tmC H H3 := (hO1.trans (hO2.trans hO3 (fun _ q => Or.inl q) (fun _ q => Or.inr q)) (fun _ q => Or.inl q) (fun _ q => Or.inr q)).weaken (fun j q => by unfold chC mdC at q; unfold tmC; omega)
    exact ⟨rfl, hI.tmp hW ⟨hT3, ⟨_, hY0.off hO3 (by unfold mdC; omega) (by unfold mdC; omega)⟩, ⟨_, hY1.off hO3 (by unfold mdC; omega) (by unfold mdC; omega)⟩, _, hp3⟩, hW.weaken (fun j q => by unfold tmC at q; unfold xC; omega)⟩
  · refine ev_iload i89_211 rfl ?_
    refine ev_goto (t := 218) i89_213 (by decide) ?_
    refine ev_iret i89_218 (by decide +kernel) ?_
    have hz : v = 0 := z208
    rw [hz]
    have hW : Off tmC H H3 := (hO1.trans (hO2.trans hO3 (fun _ q => Or.inl q) (fun _ q => Or.inr q)) (fun _ q => Or.inl q) (fun _ q => Or.inr q)).weaken (fun j q => by unfold chC mdC at q; unfold tmC; omega)
    exact ⟨rfl, hI.tmp hW ⟨hT3, ⟨_, hY0.off hO3 (by unfold mdC; omega) (by unfold mdC; omega)⟩, ⟨_, hY1.off hO3 (by unfold mdC; omega) (by unfold mdC; omega)⟩, _, hp3⟩, hW.weaken (fun j q => by unfold tmC at q; unfold xC; omega)⟩
theorem x89f {tb : dxT} {H : dxH} {tx : Nat → Nat} {ln n : Nat} {sd kd : Nat → Nat} {s : Sn} {am : Nat} {stk : Nat → Sn} {kp : Nat → Bool} {ks : Nat → Sn} {tm : Nat} {tc th : Nat → Nat} {td : Nat → Bool} {sed : Int64} {x y : Int32} (hI : CInv H tx ln n sd kd s am stk kp ks tm tc th td sed) (hS : SpOK tx ln n sd kd s am stk kp ks tm tc th) (h : ahdB x = false) : Cl tb 89 [.ref 0, .int x, .int y] H (fun r H' => r = some (.int (-2)) ∧ CInv H' tx ln n sd kd s am stk kp ks tm tc th td sed ∧ Off xC H H') := by
  obtain ⟨f0, fT, fH, fM, fA, fK, fL, fP⟩ := id hI
  obtain ⟨⟨b1, b2⟩, b3, b4, b5, b6, b7, b8, b9, b10, b11⟩ := id hS
  show Ev tb 89 0 [some (.ref 0), some (.int x), some (.int y), none, none, none, none, none, none, none] [] H _
  refine ev_iload_n i89_0 rfl ?_
  refine ev_callS (vs := [.int x]) (rest := []) i89_1 ci89 lk7_156 (Or.inl rfl) np99 (by decide +kernel) (Nat.le_of_ble_eq_true rfl) ⟨rfl, rfl, Nat.le_of_ble_eq_true rfl⟩ rfl (c99f (by assumption)) (fun r HH hq => ?_)
  obtain ⟨rfl, rfl⟩ := hq
  show Ev tb 89 4 [some (.ref 0), some (.int x), some (.int y), none, none, none, none, none, none, none] [.int (bI false)] H _
  refine evb_if_eq (t := 16) i89_4 (by decide) (fun z4 => ?_) (fun z4 => by exfalso; cases z4)
  refine ev_bipush (v := (-2)) i89_16 (by decide) ?_
  refine ev_iret i89_18 (by decide +kernel) ?_
  exact ⟨rfl, hI, Off.rf⟩
theorem x89o {tb : dxT} {H : dxH} {tx : Nat → Nat} {ln n : Nat} {sd kd : Nat → Nat} {s : Sn} {am : Nat} {stk : Nat → Sn} {kp : Nat → Bool} {ks : Nat → Sn} {tm : Nat} {tc th : Nat → Nat} {td : Nat → Bool} {sed : Int64} {m : Nat} {y : Int32} (hI : CInv H tx ln n sd kd s am stk kp ks tm tc th td sed) (hS : SpOK tx ln n sd kd s am stk kp ks tm tc th) (hm1 : 1 ≤ m) (hm : m ≤ 8) (h : inR y 2 = false) : Cl tb 89 [.ref 0, .int (nI m), .int y] H (fun r H' => r = some (.int (-2)) ∧ CInv H' tx ln n sd kd s am stk kp ks tm tc th td sed ∧ Off xC H H') := by
  obtain ⟨f0, fT, fH, fM, fA, fK, fL, fP⟩ := id hI
  obtain ⟨⟨b1, b2⟩, b3, b4, b5, b6, b7, b8, b9, b10, b11⟩ := id hS
  have h1 := inR_f (by decide) h
  show Ev tb 89 0 [some (.ref 0), some (.int (nI m)), some (.int y), none, none, none, none, none, none, none] [] H _
  refine ev_iload_n i89_0 rfl ?_
  refine ev_callS (vs := [.int (nI m)]) (rest := []) i89_1 ci89 lk7_156 (Or.inl rfl) np99 (by decide +kernel) (Nat.le_of_ble_eq_true rfl) ⟨rfl, rfl, Nat.le_of_ble_eq_true rfl⟩ rfl (c99t (by omega) (by omega)) (fun r HH hq => ?_)
  obtain ⟨rfl, rfl⟩ := hq
  show Ev tb 89 4 [some (.ref 0), some (.int (nI m)), some (.int y), none, none, none, none, none, none, none] [.int (bI true)] H _
  refine evb_if_eq (t := 16) i89_4 (by decide) (fun z4 => by exfalso; cases z4) (fun z4 => ?_)
  refine ev_iload_n i89_7 rfl ?_
  refine ev_if_lt (t := 16) i89_8 (by decide) (fun z8 => ?_) (fun z8 => ?_)
  · refine ev_bipush (v := (-2)) i89_16 (by decide) ?_
    refine ev_iret i89_18 (by decide +kernel) ?_
    exact ⟨rfl, hI, Off.rf⟩
  · refine ev_iload_n i89_11 rfl ?_
    refine ev_iconst (v := nI 1) i89_12 (by decide) ?_
    refine ev_icmp_le (t := 19) i89_13 (by decide) (fun z13 => ?_) (fun z13 => ?_)
    · exfalso
      have u1 := k2_le z8
      have u2 := Int32.le_iff_toInt_le.mp z13
      have e0 : (0 : Int32).toInt = 0 := rfl
      have e1 : (nI 1).toInt = 1 := rfl
      rw [Int32.le_iff_toInt_le] at u1
      omega
    · refine ev_bipush (v := (-2)) i89_16 (by decide) ?_
      refine ev_iret i89_18 (by decide +kernel) ?_
      exact ⟨rfl, hI, Off.rf⟩
def inM (x : Int32) (a b : Nat) : Bool := decide (nI a ≤ x ∧ x ≤ nI b)
theorem x90f {tb : dxT} {H : dxH} {tx : Nat → Nat} {ln n : Nat} {sd kd : Nat → Nat} {s : Sn} {am : Nat} {stk : Nat → Sn} {kp : Nat → Bool} {ks : Nat → Sn} {tm : Nat} {tc th : Nat → Nat} {td : Nat → Bool} {sed : Int64} {x y : Int32} {u : Bool} (hI : CInv H tx ln n sd kd s am stk kp ks tm tc th td sed) (hS : SpOK tx ln n sd kd s am stk kp ks tm tc th) (h : inM x 1 6 = false) : Cl tb 90 [.ref 0, .int x, .int y, .int (bI u)] H (fun r H' => r = some (.int (-2)) ∧ CInv H' tx ln n sd kd s am stk kp ks tm tc th td sed ∧ Off xC H H') := by
  obtain ⟨f0, fT, fH, fM, fA, fK, fL, fP⟩ := id hI
  obtain ⟨⟨b1, b2⟩, b3, b4, b5, b6, b7, b8, b9, b10, b11⟩ := id hS
  have h1 := of_decide_eq_false h
  show Ev tb 90 0 [some (.ref 0), some (.int x), some (.int y), some (.int (bI u)), none, none, none] [] H _
  refine ev_iload_n i90_0 rfl ?_
  refine ev_iconst (v := nI 1) i90_1 (by decide) ?_
  refine ev_icmp_lt (t := 21) i90_2 (by decide) (fun z2 => ?_) (fun z2 => ?_)
  · refine ev_bipush (v := (-2)) i90_21 (by decide) ?_
    refine ev_iret i90_23 (by decide +kernel) ?_
    exact ⟨rfl, hI, Off.rf⟩
  · refine ev_iload_n i90_5 rfl ?_
    refine ev_bipush (v := nI 6) i90_6 (by decide) ?_
    refine ev_icmp_gt (t := 21) i90_8 (by decide) (fun z8 => ?_) (fun z8 => ?_)
    · refine ev_bipush (v := (-2)) i90_21 (by decide) ?_
      refine ev_iret i90_23 (by decide +kernel) ?_
      exact ⟨rfl, hI, Off.rf⟩
    · exact absurd ⟨k2_le z2, k2_le z8⟩ h1
theorem x90o {tb : dxT} {H : dxH} {tx : Nat → Nat} {ln n : Nat} {sd kd : Nat → Nat} {s : Sn} {am : Nat} {stk : Nat → Sn} {kp : Nat → Bool} {ks : Nat → Sn} {tm : Nat} {tc th : Nat → Nat} {td : Nat → Bool} {sed : Int64} {m : Nat} {y : Int32} {u : Bool} (hI : CInv H tx ln n sd kd s am stk kp ks tm tc th td sed) (hS : SpOK tx ln n sd kd s am stk kp ks tm tc th) (hm1 : 1 ≤ m) (hm : m ≤ 6) (h : inM y 0 10 = false) : Cl tb 90 [.ref 0, .int (nI m), .int y, .int (bI u)] H (fun r H' => r = some (.int (-2)) ∧ CInv H' tx ln n sd kd s am stk kp ks tm tc th td sed ∧ Off xC H H') := by
  obtain ⟨f0, fT, fH, fM, fA, fK, fL, fP⟩ := id hI
  obtain ⟨⟨b1, b2⟩, b3, b4, b5, b6, b7, b8, b9, b10, b11⟩ := id hS
  have h1 := of_decide_eq_false h
  show Ev tb 90 0 [some (.ref 0), some (.int (nI m)), some (.int y), some (.int (bI u)), none, none, none] [] H _
  refine ev_iload_n i90_0 rfl ?_
  refine ev_iconst (v := nI 1) i90_1 (by decide) ?_
  refine evn_icmp_lt (t := 21) i90_2 (by decide) (by omega) (fun z2 => by exfalso; omega) (fun z2 => ?_)
  refine ev_iload_n i90_5 rfl ?_
  refine ev_bipush (v := nI 6) i90_6 (by decide) ?_
  refine evn_icmp_gt (t := 21) i90_8 (by decide) (by omega) (fun z8 => by exfalso; omega) (fun z8 => ?_)
  refine ev_iload_n i90_11 rfl ?_
  refine ev_if_lt (t := 21) i90_12 (by decide) (fun z12 => ?_) (fun z12 => ?_)
  · refine ev_bipush (v := (-2)) i90_21 (by decide) ?_
    refine ev_iret i90_23 (by decide +kernel) ?_
    exact ⟨rfl, hI, Off.rf⟩
  · refine ev_iload_n i90_15 rfl ?_
    refine ev_bipush (v := nI 10) i90_16 (by decide) ?_
    refine ev_icmp_le (t := 24) i90_18 (by decide) (fun z18 => ?_) (fun z18 => ?_)
    · exact absurd ⟨k2_le z12, z18⟩ h1
    · refine ev_bipush (v := (-2)) i90_21 (by decide) ?_
      refine ev_iret i90_23 (by decide +kernel) ?_
      exact ⟨rfl, hI, Off.rf⟩
