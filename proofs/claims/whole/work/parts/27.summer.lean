/-! the class's calls: summers  -/
theorem lrem_mod (x y : Int64) : x - (x / y) * y = x % y := by
  apply Int64.toInt_inj.mp
  have h1 := Int64.le_toInt (x % y)
  have h2 := Int64.toInt_lt (x % y)
  rw [Int64.toInt_sub, Int64.toInt_mul, Int64.toInt_div, Int.bmod_mul_bmod, Int.sub_bmod_bmod, Int.mul_comm (x.toInt.tdiv y.toInt), ← Int.tmod_def, ← Int64.toInt_mod]
  exact Int.bmod_eq_of_le_mul_two (by omega) (by omega)
def sdN (z : Int64) : Int64 := z * 6364136223846793005 + 1442695040888963407
def lftU (z : Int64) : Int64 := (z.toUInt64 >>> ((nI 33).toInt64.toUInt64 &&& Int64.toUInt64 63)).toInt64
def lftE (z : Int64) : Int32 := (lftU z - lftU z / 20 * 20).toInt32
theorem lftU_b (z : Int64) : 0 ≤ (lftU z).toInt ∧ (lftU z).toInt < 2147483648 := by
  have e33 : ((nI 33).toInt64.toUInt64 &&& Int64.toUInt64 63) = 33 := by decide
  have h1 : (z.toUInt64 >>> (33 : UInt64)).toNat < 2147483648 := by
    rw [UInt64.toNat_shiftRight]
    have h2 := z.toUInt64.toNat_lt
    have e : (33 : UInt64).toNat % 64 = 33 := by decide
    rw [e, Nat.shiftRight_eq_div_pow]
    omega
  unfold lftU
  rw [e33]
  have h3 : (z.toUInt64 >>> (33 : UInt64)).toInt64.toInt = ((z.toUInt64 >>> (33 : UInt64)).toNat : Int) := by
    have h4 : (z.toUInt64 >>> (33 : UInt64)).toBitVec.toInt = (((z.toUInt64 >>> (33 : UInt64)).toBitVec.toNat : Nat) : Int) := by
      have h5 : (z.toUInt64 >>> (33 : UInt64)).toBitVec.toNat < 2147483648 := h1
      rw [BitVec.toInt_eq_toNat_of_lt (by omega)]
    exact h4
  rw [h3]
  omega
theorem lft_ex (z : Int64) : ∃ j : Nat, j < 20 ∧ lftE z = nI j := by
  obtain ⟨h1, h2⟩ := lftU_b z
  have h3 : (lftU z % 20).toInt = (lftU z).toInt % 20 := by
    rw [Int64.toInt_mod, Int.tmod_eq_emod_of_nonneg h1]
    rfl
  refine ⟨((lftU z).toInt % 20).toNat, by omega, ?_⟩
  unfold lftE
  rw [lrem_mod]
  apply Int32.toInt_inj.mp
  have h4 : ((lftU z).toInt % 20).toNat < 2147483648 := by omega
  rw [nI_toInt h4, Int64.toInt_toInt32, h3]
  rw [Int.bmod_eq_of_le_mul_two (by omega) (by omega)]
  omega
noncomputable def lftN (z : Int64) : Nat := Classical.choose (lft_ex z)
theorem lftN_lt (z : Int64) : lftN z < 20 := (Classical.choose_spec (lft_ex z)).1
theorem lftN_eq (z : Int64) : lftE z = nI (lftN z) := (Classical.choose_spec (lft_ex z)).2
noncomputable def smC (z : Int64) (cl : Nat → Nat) : Nat → Nat := if lftN z < 10 ∧ cl (lftN z) < 9 then updN cl (lftN z) (cl (lftN z) + 1) else cl
noncomputable def smS (z : Int64) : Bool := decide (10 ≤ lftN z ∧ lftN z ≤ 11)
/-- m hours of a summer: the seed, the state -/
noncomputable def sumL (he : Nat) (sd kd ce : Nat → Nat) : Nat → Int64 → Hs → Int64 × Hs
  | 0, z, x => (z, x)
  | d + 1, z, x => sumL he sd kd ce d (sdN z) (hrF he sd kd ce (smS (sdN z)) false (smC (sdN z) x.1, x.2))
theorem smC_ok {z : Int64} {x : Hs} (h : SOK x) : SOK (smC z x.1, x.2) := by
  unfold smC
  split
  · rename_i hc
    exact ⟨updN_lt h.1 (by omega), h.2.1, h.2.2.1.up hc.1, h.2.2.2⟩
  · exact h
def sumA (r : Int64 × Hs) (s : Sn) : Int32 := (r.2.2.2.1 0 - s.2.2.2.2.1 0) - (r.2.2.2.1 1 - s.2.2.2.2.1 1) + nI 1000
theorem lq92 {tb : dxT} {n : Nat} {sd kd : Nat → Nat} {s : Sn} {m : Nat} (b3 : n ≤ 6) (b4 : ∀ j, sd j < 2) (b5 : ∀ j, kd j < 4) (b6 : SnOK n s) (hm : m ≤ 30) : ∀ (d k : Nat) (z : Int64) (sn : Bool) (H : dxH) (x : Hs), k + d = m → CC H z → HrdAt H n sd kd → MdX H 6 n s → MdS H 11 s.1 (HE n) sn x → SOK x → ∀ v3, Ev tb 92 27 [some (.ref 0), some (.int (nI m)), some (.int (nI k)), v3] [] H (fun r H' => r = some (.int (sumA (sumL (HE n) sd kd s.1 d z x) s)) ∧ CC H' (sumL (HE n) sd kd s.1 d z x).1 ∧ ShpM H' 11 ∧ Off (fun j => mdC 11 j ∨ j = 0) H H')
  | 0, k, z, sn, H, x, hk, f0, fH, fM, hN, hx, v3 => by
    obtain rfl : k = m := by omega
    have hb : HE n < 64 := HE_lt b3
    have g0 := f0
    unfold CC at g0
    obtain ⟨t0, _⟩ := id hN
    obtain ⟨m0, m1, m2, m3, m4⟩ := id fM
    refine ev_iload_n i92_27 rfl ?_
    refine ev_iload_n i92_28 rfl ?_
    refine evn_icmp_ge (t := 115) i92_29 (by decide) (by omega) (fun z29 => ?_) (fun z29 => by exfalso; omega)
    refine ev_aload_n i92_115 rfl ?_
    refine ev_get i92_116 ci92 fl7_32 (by assumption) rfl ?_
    refine ev_iconst (v := nI 0) i92_119 (by decide) ?_
    refine ev_callV (vs := [.int (nI 0)]) (rest := []) i92_120 ci92 lk7_172 (congrArg (fun q => q + 1) np37) ci37 (by decide) (by decide +kernel) (Nat.le_of_ble_eq_true rfl) ⟨rfl, rfl, Nat.le_of_ble_eq_true rfl⟩ rfl (by assumption) (c37 hN (by decide)) (fun r HH hq => ?_)
    obtain ⟨rfl, rfl⟩ := hq
    show Ev tb 92 123 [some (.ref 0), some (.int (nI k)), some (.int (nI k)), v3] [.int (x.2.2.1 0)] H _
    refine ev_aload_n i92_123 rfl ?_
    refine ev_get i92_124 ci92 fl7_28 (by assumption) rfl ?_
    refine ev_iconst (v := nI 0) i92_127 (by decide) ?_
    refine ev_callV (vs := [.int (nI 0)]) (rest := [.int (x.2.2.1 0)]) i92_128 ci92 lk7_172 (congrArg (fun q => q + 1) np37) ci37 (by decide) (by decide +kernel) (Nat.le_of_ble_eq_true rfl) ⟨rfl, rfl, Nat.le_of_ble_eq_true rfl⟩ rfl (by assumption) (c37 fM (by decide)) (fun r HH hq => ?_)
    obtain ⟨rfl, rfl⟩ := hq
    show Ev tb 92 131 [some (.ref 0), some (.int (nI k)), some (.int (nI k)), v3] [.int (s.2.2.2.2.1 0), .int (x.2.2.1 0)] H _
    refine ev_isub i92_131 ?_
    refine ev_istore_n (L' := [some (.ref 0), some (.int (nI k)), some (.int ((x.2.2.1 0) - (s.2.2.2.2.1 0))), v3]) i92_132 ⟨Nat.le_of_ble_eq_true rfl, rfl⟩ rfl ?_
    refine ev_aload_n i92_133 rfl ?_
    refine ev_get i92_134 ci92 fl7_32 (by assumption) rfl ?_
    refine ev_iconst (v := nI 1) i92_137 (by decide) ?_
    refine ev_callV (vs := [.int (nI 1)]) (rest := []) i92_138 ci92 lk7_172 (congrArg (fun q => q + 1) np37) ci37 (by decide) (by decide +kernel) (Nat.le_of_ble_eq_true rfl) ⟨rfl, rfl, Nat.le_of_ble_eq_true rfl⟩ rfl (by assumption) (c37 hN (by decide)) (fun r HH hq => ?_)
    obtain ⟨rfl, rfl⟩ := hq
    show Ev tb 92 141 [some (.ref 0), some (.int (nI k)), some (.int ((x.2.2.1 0) - (s.2.2.2.2.1 0))), v3] [.int (x.2.2.1 1)] H _
    refine ev_aload_n i92_141 rfl ?_
    refine ev_get i92_142 ci92 fl7_28 (by assumption) rfl ?_
    refine ev_iconst (v := nI 1) i92_145 (by decide) ?_
    refine ev_callV (vs := [.int (nI 1)]) (rest := [.int (x.2.2.1 1)]) i92_146 ci92 lk7_172 (congrArg (fun q => q + 1) np37) ci37 (by decide) (by decide +kernel) (Nat.le_of_ble_eq_true rfl) ⟨rfl, rfl, Nat.le_of_ble_eq_true rfl⟩ rfl (by assumption) (c37 fM (by decide)) (fun r HH hq => ?_)
    obtain ⟨rfl, rfl⟩ := hq
    show Ev tb 92 149 [some (.ref 0), some (.int (nI k)), some (.int ((x.2.2.1 0) - (s.2.2.2.2.1 0))), v3] [.int (s.2.2.2.2.1 1), .int (x.2.2.1 1)] H _
    refine ev_isub i92_149 ?_
    refine ev_istore_n (L' := [some (.ref 0), some (.int (nI k)), some (.int ((x.2.2.1 0) - (s.2.2.2.2.1 0))), some (.int ((x.2.2.1 1) - (s.2.2.2.2.1 1)))]) i92_150 ⟨Nat.le_of_ble_eq_true rfl, rfl⟩ rfl ?_
    refine ev_iload_n i92_151 rfl ?_
    refine ev_iload_n i92_152 rfl ?_
    refine ev_isub i92_153 ?_
    refine ev_sipush (v := nI 1000) i92_154 (by decide) ?_
    refine ev_iadd i92_157 ?_
    refine ev_iret i92_158 (by decide +kernel) ?_
    exact ⟨rfl, f0, hN.shp b6.2.1 hx, Off.rf⟩
  | d + 1, k, z, sn, H, x, hk, f0, fH, fM, hN, hx, v3 => by
    have hb : HE n < 64 := HE_lt b3
    have g0 := f0
    unfold CC at g0
    obtain ⟨t0, _⟩ := id hN
    obtain ⟨m0, m1, m2, m3, m4⟩ := id fM
    refine ev_iload_n i92_27 rfl ?_
    refine ev_iload_n i92_28 rfl ?_
    refine evn_icmp_ge (t := 115) i92_29 (by decide) (by omega) (fun z29 => by exfalso; omega) (fun z29 => ?_)
    refine ev_aload_n i92_32 rfl ?_
    refine ev_aload_n i92_33 rfl ?_
    refine ev_get i92_34 ci92 fl7_237 (by assumption) rfl ?_
    refine ev_ldc2 i92_37 ci92 ks7_241 ?_
    refine ev_lmul i92_40 ?_
    refine ev_ldc2 i92_41 ci92 ks7_243 ?_
    refine ev_ladd i92_44 ?_
    refine evs_put (fs' := [.ref 1, .ref 3, .ref 6, .ref 11, .ref 16, .ref 89, .ref 101, .ref 102, .ref 106, .ref 108, .ref 110, .long ((z * 6364136223846793005) + 1442695040888963407)]) i92_45 ci92 fl7_237 (by assumption) ⟨Nat.le_of_ble_eq_true rfl, rfl, Or.inl rfl⟩ rfl (fun H1 hH1 => ?_)
    have g0 : H1[0]? = some (.inr (7, [.ref 1, .ref 3, .ref 6, .ref 11, .ref 16, .ref 89, .ref 101, .ref 102, .ref 106, .ref 108, .ref 110, .long ((z * 6364136223846793005) + 1442695040888963407)])) := by rw [hH1]; exact set_self g0
    have f0 : CC H1 (sdN z) := g0
    have hOa : Off (fun j => j = 0) H H1 := by rw [hH1]; exact Off.rf.set rfl
    have fH := fH.off hOa (by decide) (by decide) (by decide)
    have fM := fM.off hOa (by omega)
    have hN := hN.off hOa (by omega)
    have hOO : Off (fun j => mdC 11 j ∨ j = 0) H H1 := hOa.weaken (fun j q => Or.inr q)
    obtain ⟨t0, _⟩ := id hN
    obtain ⟨m0, m1, m2, m3, m4⟩ := id fM
    refine ev_aload_n i92_48 rfl ?_
    refine ev_get i92_49 ci92 fl7_237 (by assumption) rfl ?_
    refine ev_bipush (v := nI 33) i92_52 (by decide) ?_
    refine ev_lushr i92_54 ?_
    refine ev_ldc2 i92_55 ci92 ks7_245 ?_
    refine ev_lrem i92_58 (by decide) ?_
    refine ev_l2i i92_59 ?_
    have hj20 := lftN_lt (sdN z)
    show Ev tb 92 60 _ [.int (lftE (sdN z))] _ _
    rw [lftN_eq]
    refine ev_istore_n (L' := [some (.ref 0), some (.int (nI m)), some (.int (nI k)), some (.int (nI (lftN (sdN z))))]) i92_60 ⟨Nat.le_of_ble_eq_true rfl, rfl⟩ rfl ?_
    refine ev_iload_n i92_61 rfl ?_
    refine ev_callS (vs := [.int (nI (lftN (sdN z)))]) (rest := []) i92_62 ci92 lk7_98 (Or.inl rfl) np96 (by decide +kernel) (Nat.le_of_ble_eq_true rfl) ⟨rfl, rfl, Nat.le_of_ble_eq_true rfl⟩ rfl (c96n (by omega)) (fun r HH hq => ?_)
    obtain ⟨rfl, rfl⟩ := hq
    show Ev tb 92 65 [some (.ref 0), some (.int (nI m)), some (.int (nI k)), some (.int (nI (lftN (sdN z))))] [.int (bI (decide (lftN (sdN z) < 10)))] H1 _
    refine evd_if_eq (t := 76) i92_65 (by decide) (fun z65 => ?_) (fun z65 => ?_)
    · refine ev_aload_n i92_76 rfl ?_
      refine ev_get i92_77 ci92 fl7_32 (by assumption) rfl ?_
      refine ev_iload_n i92_80 rfl ?_
      refine ev_bipush (v := nI 10) i92_81 (by decide) ?_
      refine evn_icmp_lt (t := 96) i92_83 (by decide) (by omega) (fun z83 => ?_) (fun z83 => ?_)
      · refine ev_iconst (v := nI 0) i92_96 (by decide) ?_
        refine ev_callV (vs := [.int (nI 0)]) (rest := []) i92_97 ci92 lk7_148 (congrArg (fun q => q + 1) np36) ci36 (by decide) (by decide +kernel) (Nat.le_of_ble_eq_true rfl) ⟨rfl, rfl, Nat.le_of_ble_eq_true rfl⟩ rfl (by assumption) (c36 (b := false) hN (by decide)) (fun r H2 hq => ?_)
        obtain ⟨rfl, hN, hO2⟩ := hq
        have hN : MdS H2 11 s.1 (HE n) false (smC (sdN z) x.1, x.2) := (by rw [show smC (sdN z) x.1 = x.1 from (by unfold smC; exact if_neg (fun q => z65 q.1))]; exact hN)
        have f0 := f0.off hO2 (by unfold mdC; omega)
        have fH := fH.off hO2 (by unfold mdC; omega) (by unfold mdC; omega) (by unfold mdC; omega)
        have fM := fM.off hO2 (fun j u1 u2 => by unfold mdC; omega)
        have g0 := f0
        unfold CC at g0
        obtain ⟨t0, _⟩ := id hN
        obtain ⟨m0, m1, m2, m3, m4⟩ := id fM
        have hOO : Off (fun j => mdC 11 j ∨ j = 0) H H2 := hOO.trans hO2 (fun _ q => q) (fun _ q => Or.inl q)
        show Ev tb 92 100 [some (.ref 0), some (.int (nI m)), some (.int (nI k)), some (.int (nI (lftN (sdN z))))] [] H2 _
        refine ev_aload_n i92_100 rfl ?_
        refine ev_get i92_101 ci92 fl7_32 (by assumption) rfl ?_
        refine ev_iconst (v := nI 0) i92_104 (by decide) ?_
        refine ev_callV (vs := [.int (nI 0)]) (rest := []) i92_105 ci92 lk7_126 (congrArg (fun q => q + 1) np43) ci43 (by decide) (by decide +kernel) (Nat.le_of_ble_eq_true rfl) ⟨rfl, rfl, Nat.le_of_ble_eq_true rfl⟩ rfl (by assumption) (c43x (x := (smC (sdN z) x.1, x.2)) (sn := false) (rg := false) hb (by decide) b6.1 b5 b4 hN fH (smC_ok hx)) (fun r H3 hq => ?_)
        obtain ⟨rfl, hN, hO3⟩ := hq
        have f0 := f0.off hO3 (by unfold mdC; omega)
        have fH := fH.off hO3 (by unfold mdC; omega) (by unfold mdC; omega) (by unfold mdC; omega)
        have fM := fM.off hO3 (fun j u1 u2 => by unfold mdC; omega)
        have g0 := f0
        unfold CC at g0
        obtain ⟨t0, _⟩ := id hN
        obtain ⟨m0, m1, m2, m3, m4⟩ := id fM
        have hOO : Off (fun j => mdC 11 j ∨ j = 0) H H3 := hOO.trans hO3 (fun _ q => q) (fun _ q => Or.inl q)
        show Ev tb 92 108 [some (.ref 0), some (.int (nI m)), some (.int (nI k)), some (.int (nI (lftN (sdN z))))] [.int (nI (srtF (HE n) kd x.2.1 false false))] H3 _
        refine ev_pop i92_108 rfl ?_
        refine evn_iinc (d := 1) (L' := [some (.ref 0), some (.int (nI m)), some (.int (nI (k + 1))), some (.int (nI (lftN (sdN z))))]) i92_109 rfl rfl (by decide) rfl ?_
        refine ev_goto (t := 27) i92_112 (by decide) ?_
        have hs : smS (sdN z) = false := by
          unfold smS
          simp <;> omega
        have k1 := lq92 (tb := tb) b3 b4 b5 b6 hm d (k + 1) (sdN z) false H3 (hrF (HE n) sd kd s.1 false false (smC (sdN z) x.1, x.2)) (by omega) f0 fH fM hN (hrF_ok b6.1 b4 (smC_ok hx)) (some (.int (nI (lftN (sdN z)))))
        refine k1.post (fun r H' hq => ?_)
        unfold sumL
        rw [hs]
        exact ⟨hq.1, hq.2.1, hq.2.2.1, hOO.trans hq.2.2.2 (fun _ q => q) (fun _ q => q)⟩
      · refine ev_iload_n i92_86 rfl ?_
        refine ev_bipush (v := nI 11) i92_87 (by decide) ?_
        refine evn_icmp_gt (t := 96) i92_89 (by decide) (by omega) (fun z89 => ?_) (fun z89 => ?_)
        · refine ev_iconst (v := nI 0) i92_96 (by decide) ?_
          refine ev_callV (vs := [.int (nI 0)]) (rest := []) i92_97 ci92 lk7_148 (congrArg (fun q => q + 1) np36) ci36 (by decide) (by decide +kernel) (Nat.le_of_ble_eq_true rfl) ⟨rfl, rfl, Nat.le_of_ble_eq_true rfl⟩ rfl (by assumption) (c36 (b := false) hN (by decide)) (fun r H2 hq => ?_)
          obtain ⟨rfl, hN, hO2⟩ := hq
          have hN : MdS H2 11 s.1 (HE n) false (smC (sdN z) x.1, x.2) := (by rw [show smC (sdN z) x.1 = x.1 from (by unfold smC; exact if_neg (fun q => z65 q.1))]; exact hN)
          have f0 := f0.off hO2 (by unfold mdC; omega)
          have fH := fH.off hO2 (by unfold mdC; omega) (by unfold mdC; omega) (by unfold mdC; omega)
          have fM := fM.off hO2 (fun j u1 u2 => by unfold mdC; omega)
          have g0 := f0
          unfold CC at g0
          obtain ⟨t0, _⟩ := id hN
          obtain ⟨m0, m1, m2, m3, m4⟩ := id fM
          have hOO : Off (fun j => mdC 11 j ∨ j = 0) H H2 := hOO.trans hO2 (fun _ q => q) (fun _ q => Or.inl q)
          show Ev tb 92 100 [some (.ref 0), some (.int (nI m)), some (.int (nI k)), some (.int (nI (lftN (sdN z))))] [] H2 _
          refine ev_aload_n i92_100 rfl ?_
          refine ev_get i92_101 ci92 fl7_32 (by assumption) rfl ?_
          refine ev_iconst (v := nI 0) i92_104 (by decide) ?_
          refine ev_callV (vs := [.int (nI 0)]) (rest := []) i92_105 ci92 lk7_126 (congrArg (fun q => q + 1) np43) ci43 (by decide) (by decide +kernel) (Nat.le_of_ble_eq_true rfl) ⟨rfl, rfl, Nat.le_of_ble_eq_true rfl⟩ rfl (by assumption) (c43x (x := (smC (sdN z) x.1, x.2)) (sn := false) (rg := false) hb (by decide) b6.1 b5 b4 hN fH (smC_ok hx)) (fun r H3 hq => ?_)
          obtain ⟨rfl, hN, hO3⟩ := hq
          have f0 := f0.off hO3 (by unfold mdC; omega)
          have fH := fH.off hO3 (by unfold mdC; omega) (by unfold mdC; omega) (by unfold mdC; omega)
          have fM := fM.off hO3 (fun j u1 u2 => by unfold mdC; omega)
          have g0 := f0
          unfold CC at g0
          obtain ⟨t0, _⟩ := id hN
          obtain ⟨m0, m1, m2, m3, m4⟩ := id fM
          have hOO : Off (fun j => mdC 11 j ∨ j = 0) H H3 := hOO.trans hO3 (fun _ q => q) (fun _ q => Or.inl q)
          show Ev tb 92 108 [some (.ref 0), some (.int (nI m)), some (.int (nI k)), some (.int (nI (lftN (sdN z))))] [.int (nI (srtF (HE n) kd x.2.1 false false))] H3 _
          refine ev_pop i92_108 rfl ?_
          refine evn_iinc (d := 1) (L' := [some (.ref 0), some (.int (nI m)), some (.int (nI (k + 1))), some (.int (nI (lftN (sdN z))))]) i92_109 rfl rfl (by decide) rfl ?_
          refine ev_goto (t := 27) i92_112 (by decide) ?_
          have hs : smS (sdN z) = false := by
            unfold smS
            simp <;> omega
          have k1 := lq92 (tb := tb) b3 b4 b5 b6 hm d (k + 1) (sdN z) false H3 (hrF (HE n) sd kd s.1 false false (smC (sdN z) x.1, x.2)) (by omega) f0 fH fM hN (hrF_ok b6.1 b4 (smC_ok hx)) (some (.int (nI (lftN (sdN z)))))
          refine k1.post (fun r H' hq => ?_)
          unfold sumL
          rw [hs]
          exact ⟨hq.1, hq.2.1, hq.2.2.1, hOO.trans hq.2.2.2 (fun _ q => q) (fun _ q => q)⟩
        · refine ev_iconst (v := nI 1) i92_92 (by decide) ?_
          refine ev_goto (t := 97) i92_93 (by decide) ?_
          refine ev_callV (vs := [.int (nI 1)]) (rest := []) i92_97 ci92 lk7_148 (congrArg (fun q => q + 1) np36) ci36 (by decide) (by decide +kernel) (Nat.le_of_ble_eq_true rfl) ⟨rfl, rfl, Nat.le_of_ble_eq_true rfl⟩ rfl (by assumption) (c36 (b := true) hN (by decide)) (fun r H2 hq => ?_)
          obtain ⟨rfl, hN, hO2⟩ := hq
          have hN : MdS H2 11 s.1 (HE n) true (smC (sdN z) x.1, x.2) := (by rw [show smC (sdN z) x.1 = x.1 from (by unfold smC; exact if_neg (fun q => z65 q.1))]; exact hN)
          have f0 := f0.off hO2 (by unfold mdC; omega)
          have fH := fH.off hO2 (by unfold mdC; omega) (by unfold mdC; omega) (by unfold mdC; omega)
          have fM := fM.off hO2 (fun j u1 u2 => by unfold mdC; omega)
          have g0 := f0
          unfold CC at g0
          obtain ⟨t0, _⟩ := id hN
          obtain ⟨m0, m1, m2, m3, m4⟩ := id fM
          have hOO : Off (fun j => mdC 11 j ∨ j = 0) H H2 := hOO.trans hO2 (fun _ q => q) (fun _ q => Or.inl q)
          show Ev tb 92 100 [some (.ref 0), some (.int (nI m)), some (.int (nI k)), some (.int (nI (lftN (sdN z))))] [] H2 _
          refine ev_aload_n i92_100 rfl ?_
          refine ev_get i92_101 ci92 fl7_32 (by assumption) rfl ?_
          refine ev_iconst (v := nI 0) i92_104 (by decide) ?_
          refine ev_callV (vs := [.int (nI 0)]) (rest := []) i92_105 ci92 lk7_126 (congrArg (fun q => q + 1) np43) ci43 (by decide) (by decide +kernel) (Nat.le_of_ble_eq_true rfl) ⟨rfl, rfl, Nat.le_of_ble_eq_true rfl⟩ rfl (by assumption) (c43x (x := (smC (sdN z) x.1, x.2)) (sn := true) (rg := false) hb (by decide) b6.1 b5 b4 hN fH (smC_ok hx)) (fun r H3 hq => ?_)
          obtain ⟨rfl, hN, hO3⟩ := hq
          have f0 := f0.off hO3 (by unfold mdC; omega)
          have fH := fH.off hO3 (by unfold mdC; omega) (by unfold mdC; omega) (by unfold mdC; omega)
          have fM := fM.off hO3 (fun j u1 u2 => by unfold mdC; omega)
          have g0 := f0
          unfold CC at g0
          obtain ⟨t0, _⟩ := id hN
          obtain ⟨m0, m1, m2, m3, m4⟩ := id fM
          have hOO : Off (fun j => mdC 11 j ∨ j = 0) H H3 := hOO.trans hO3 (fun _ q => q) (fun _ q => Or.inl q)
          show Ev tb 92 108 [some (.ref 0), some (.int (nI m)), some (.int (nI k)), some (.int (nI (lftN (sdN z))))] [.int (nI (srtF (HE n) kd x.2.1 true false))] H3 _
          refine ev_pop i92_108 rfl ?_
          refine evn_iinc (d := 1) (L' := [some (.ref 0), some (.int (nI m)), some (.int (nI (k + 1))), some (.int (nI (lftN (sdN z))))]) i92_109 rfl rfl (by decide) rfl ?_
          refine ev_goto (t := 27) i92_112 (by decide) ?_
          have hs : smS (sdN z) = true := by
            unfold smS
            simp <;> omega
          have k1 := lq92 (tb := tb) b3 b4 b5 b6 hm d (k + 1) (sdN z) true H3 (hrF (HE n) sd kd s.1 true false (smC (sdN z) x.1, x.2)) (by omega) f0 fH fM hN (hrF_ok b6.1 b4 (smC_ok hx)) (some (.int (nI (lftN (sdN z)))))
          refine k1.post (fun r H' hq => ?_)
          unfold sumL
          rw [hs]
          exact ⟨hq.1, hq.2.1, hq.2.2.1, hOO.trans hq.2.2.2 (fun _ q => q) (fun _ q => q)⟩
    · refine ev_aload_n i92_68 rfl ?_
      refine ev_get i92_69 ci92 fl7_32 (by assumption) rfl ?_
      refine ev_iload_n i92_72 rfl ?_
      refine ev_callV (vs := [.int (nI (lftN (sdN z)))]) (rest := []) i92_73 ci92 lk7_140 (congrArg (fun q => q + 1) np34) ci34 (by decide) (by decide +kernel) (Nat.le_of_ble_eq_true rfl) ⟨rfl, rfl, Nat.le_of_ble_eq_true rfl⟩ rfl (by assumption) (c34 hN hb (by decide) hx.1 (by omega)) (fun r H2 hq => ?_)
      obtain ⟨rfl, hN, hO2⟩ := hq
      rw [show (if x.1 (lftN (sdN z)) < 9 then updN x.1 (lftN (sdN z)) (x.1 (lftN (sdN z)) + 1) else x.1) = smC (sdN z) x.1 from by unfold smC; by_cases q : x.1 (lftN (sdN z)) < 9 <;> simp [q, z65]] at hN
      have f0 := f0.off hO2 (by unfold mdC; omega)
      have fH := fH.off hO2 (by unfold mdC; omega) (by unfold mdC; omega) (by unfold mdC; omega)
      have fM := fM.off hO2 (fun j u1 u2 => by unfold mdC; omega)
      have g0 := f0
      unfold CC at g0
      obtain ⟨t0, _⟩ := id hN
      obtain ⟨m0, m1, m2, m3, m4⟩ := id fM
      have hOO : Off (fun j => mdC 11 j ∨ j = 0) H H2 := hOO.trans hO2 (fun _ q => q) (fun _ q => Or.inl q)
      show Ev tb 92 76 [some (.ref 0), some (.int (nI m)), some (.int (nI k)), some (.int (nI (lftN (sdN z))))] [] H2 _
      refine ev_aload_n i92_76 rfl ?_
      refine ev_get i92_77 ci92 fl7_32 (by assumption) rfl ?_
      refine ev_iload_n i92_80 rfl ?_
      refine ev_bipush (v := nI 10) i92_81 (by decide) ?_
      refine evn_icmp_lt (t := 96) i92_83 (by decide) (by omega) (fun z83 => ?_) (fun z83 => ?_)
      · refine ev_iconst (v := nI 0) i92_96 (by decide) ?_
        refine ev_callV (vs := [.int (nI 0)]) (rest := []) i92_97 ci92 lk7_148 (congrArg (fun q => q + 1) np36) ci36 (by decide) (by decide +kernel) (Nat.le_of_ble_eq_true rfl) ⟨rfl, rfl, Nat.le_of_ble_eq_true rfl⟩ rfl (by assumption) (c36 (b := false) hN (by decide)) (fun r H3 hq => ?_)
        obtain ⟨rfl, hN, hO3⟩ := hq
        have f0 := f0.off hO3 (by unfold mdC; omega)
        have fH := fH.off hO3 (by unfold mdC; omega) (by unfold mdC; omega) (by unfold mdC; omega)
        have fM := fM.off hO3 (fun j u1 u2 => by unfold mdC; omega)
        have g0 := f0
        unfold CC at g0
        obtain ⟨t0, _⟩ := id hN
        obtain ⟨m0, m1, m2, m3, m4⟩ := id fM
        have hOO : Off (fun j => mdC 11 j ∨ j = 0) H H3 := hOO.trans hO3 (fun _ q => q) (fun _ q => Or.inl q)
        show Ev tb 92 100 [some (.ref 0), some (.int (nI m)), some (.int (nI k)), some (.int (nI (lftN (sdN z))))] [] H3 _
        refine ev_aload_n i92_100 rfl ?_
        refine ev_get i92_101 ci92 fl7_32 (by assumption) rfl ?_
        refine ev_iconst (v := nI 0) i92_104 (by decide) ?_
        refine ev_callV (vs := [.int (nI 0)]) (rest := []) i92_105 ci92 lk7_126 (congrArg (fun q => q + 1) np43) ci43 (by decide) (by decide +kernel) (Nat.le_of_ble_eq_true rfl) ⟨rfl, rfl, Nat.le_of_ble_eq_true rfl⟩ rfl (by assumption) (c43x (x := (smC (sdN z) x.1, x.2)) (sn := false) (rg := false) hb (by decide) b6.1 b5 b4 hN fH (smC_ok hx)) (fun r H4 hq => ?_)
        obtain ⟨rfl, hN, hO4⟩ := hq
        have f0 := f0.off hO4 (by unfold mdC; omega)
        have fH := fH.off hO4 (by unfold mdC; omega) (by unfold mdC; omega) (by unfold mdC; omega)
        have fM := fM.off hO4 (fun j u1 u2 => by unfold mdC; omega)
        have g0 := f0
        unfold CC at g0
        obtain ⟨t0, _⟩ := id hN
        obtain ⟨m0, m1, m2, m3, m4⟩ := id fM
        have hOO : Off (fun j => mdC 11 j ∨ j = 0) H H4 := hOO.trans hO4 (fun _ q => q) (fun _ q => Or.inl q)
        show Ev tb 92 108 [some (.ref 0), some (.int (nI m)), some (.int (nI k)), some (.int (nI (lftN (sdN z))))] [.int (nI (srtF (HE n) kd x.2.1 false false))] H4 _
        refine ev_pop i92_108 rfl ?_
        refine evn_iinc (d := 1) (L' := [some (.ref 0), some (.int (nI m)), some (.int (nI (k + 1))), some (.int (nI (lftN (sdN z))))]) i92_109 rfl rfl (by decide) rfl ?_
        refine ev_goto (t := 27) i92_112 (by decide) ?_
        have hs : smS (sdN z) = false := by
          unfold smS
          simp <;> omega
        have k1 := lq92 (tb := tb) b3 b4 b5 b6 hm d (k + 1) (sdN z) false H4 (hrF (HE n) sd kd s.1 false false (smC (sdN z) x.1, x.2)) (by omega) f0 fH fM hN (hrF_ok b6.1 b4 (smC_ok hx)) (some (.int (nI (lftN (sdN z)))))
        refine k1.post (fun r H' hq => ?_)
        unfold sumL
        rw [hs]
        exact ⟨hq.1, hq.2.1, hq.2.2.1, hOO.trans hq.2.2.2 (fun _ q => q) (fun _ q => q)⟩
      · refine ev_iload_n i92_86 rfl ?_
        refine ev_bipush (v := nI 11) i92_87 (by decide) ?_
        refine evn_icmp_gt (t := 96) i92_89 (by decide) (by omega) (fun z89 => ?_) (fun z89 => ?_)
        · refine ev_iconst (v := nI 0) i92_96 (by decide) ?_
          refine ev_callV (vs := [.int (nI 0)]) (rest := []) i92_97 ci92 lk7_148 (congrArg (fun q => q + 1) np36) ci36 (by decide) (by decide +kernel) (Nat.le_of_ble_eq_true rfl) ⟨rfl, rfl, Nat.le_of_ble_eq_true rfl⟩ rfl (by assumption) (c36 (b := false) hN (by decide)) (fun r H3 hq => ?_)
          obtain ⟨rfl, hN, hO3⟩ := hq
          have f0 := f0.off hO3 (by unfold mdC; omega)
          have fH := fH.off hO3 (by unfold mdC; omega) (by unfold mdC; omega) (by unfold mdC; omega)
          have fM := fM.off hO3 (fun j u1 u2 => by unfold mdC; omega)
          have g0 := f0
          unfold CC at g0
          obtain ⟨t0, _⟩ := id hN
          obtain ⟨m0, m1, m2, m3, m4⟩ := id fM
          have hOO : Off (fun j => mdC 11 j ∨ j = 0) H H3 := hOO.trans hO3 (fun _ q => q) (fun _ q => Or.inl q)
          show Ev tb 92 100 [some (.ref 0), some (.int (nI m)), some (.int (nI k)), some (.int (nI (lftN (sdN z))))] [] H3 _
          refine ev_aload_n i92_100 rfl ?_
          refine ev_get i92_101 ci92 fl7_32 (by assumption) rfl ?_
          refine ev_iconst (v := nI 0) i92_104 (by decide) ?_
          refine ev_callV (vs := [.int (nI 0)]) (rest := []) i92_105 ci92 lk7_126 (congrArg (fun q => q + 1) np43) ci43 (by decide) (by decide +kernel) (Nat.le_of_ble_eq_true rfl) ⟨rfl, rfl, Nat.le_of_ble_eq_true rfl⟩ rfl (by assumption) (c43x (x := (smC (sdN z) x.1, x.2)) (sn := false) (rg := false) hb (by decide) b6.1 b5 b4 hN fH (smC_ok hx)) (fun r H4 hq => ?_)
          obtain ⟨rfl, hN, hO4⟩ := hq
          have f0 := f0.off hO4 (by unfold mdC; omega)
          have fH := fH.off hO4 (by unfold mdC; omega) (by unfold mdC; omega) (by unfold mdC; omega)
          have fM := fM.off hO4 (fun j u1 u2 => by unfold mdC; omega)
          have g0 := f0
          unfold CC at g0
          obtain ⟨t0, _⟩ := id hN
          obtain ⟨m0, m1, m2, m3, m4⟩ := id fM
          have hOO : Off (fun j => mdC 11 j ∨ j = 0) H H4 := hOO.trans hO4 (fun _ q => q) (fun _ q => Or.inl q)
          show Ev tb 92 108 [some (.ref 0), some (.int (nI m)), some (.int (nI k)), some (.int (nI (lftN (sdN z))))] [.int (nI (srtF (HE n) kd x.2.1 false false))] H4 _
          refine ev_pop i92_108 rfl ?_
          refine evn_iinc (d := 1) (L' := [some (.ref 0), some (.int (nI m)), some (.int (nI (k + 1))), some (.int (nI (lftN (sdN z))))]) i92_109 rfl rfl (by decide) rfl ?_
          refine ev_goto (t := 27) i92_112 (by decide) ?_
          have hs : smS (sdN z) = false := by
            unfold smS
            simp <;> omega
          have k1 := lq92 (tb := tb) b3 b4 b5 b6 hm d (k + 1) (sdN z) false H4 (hrF (HE n) sd kd s.1 false false (smC (sdN z) x.1, x.2)) (by omega) f0 fH fM hN (hrF_ok b6.1 b4 (smC_ok hx)) (some (.int (nI (lftN (sdN z)))))
          refine k1.post (fun r H' hq => ?_)
          unfold sumL
          rw [hs]
          exact ⟨hq.1, hq.2.1, hq.2.2.1, hOO.trans hq.2.2.2 (fun _ q => q) (fun _ q => q)⟩
        · refine ev_iconst (v := nI 1) i92_92 (by decide) ?_
          refine ev_goto (t := 97) i92_93 (by decide) ?_
          refine ev_callV (vs := [.int (nI 1)]) (rest := []) i92_97 ci92 lk7_148 (congrArg (fun q => q + 1) np36) ci36 (by decide) (by decide +kernel) (Nat.le_of_ble_eq_true rfl) ⟨rfl, rfl, Nat.le_of_ble_eq_true rfl⟩ rfl (by assumption) (c36 (b := true) hN (by decide)) (fun r H3 hq => ?_)
          obtain ⟨rfl, hN, hO3⟩ := hq
          have f0 := f0.off hO3 (by unfold mdC; omega)
          have fH := fH.off hO3 (by unfold mdC; omega) (by unfold mdC; omega) (by unfold mdC; omega)
          have fM := fM.off hO3 (fun j u1 u2 => by unfold mdC; omega)
          have g0 := f0
          unfold CC at g0
          obtain ⟨t0, _⟩ := id hN
          obtain ⟨m0, m1, m2, m3, m4⟩ := id fM
          have hOO : Off (fun j => mdC 11 j ∨ j = 0) H H3 := hOO.trans hO3 (fun _ q => q) (fun _ q => Or.inl q)
          show Ev tb 92 100 [some (.ref 0), some (.int (nI m)), some (.int (nI k)), some (.int (nI (lftN (sdN z))))] [] H3 _
          refine ev_aload_n i92_100 rfl ?_
          refine ev_get i92_101 ci92 fl7_32 (by assumption) rfl ?_
          refine ev_iconst (v := nI 0) i92_104 (by decide) ?_
          refine ev_callV (vs := [.int (nI 0)]) (rest := []) i92_105 ci92 lk7_126 (congrArg (fun q => q + 1) np43) ci43 (by decide) (by decide +kernel) (Nat.le_of_ble_eq_true rfl) ⟨rfl, rfl, Nat.le_of_ble_eq_true rfl⟩ rfl (by assumption) (c43x (x := (smC (sdN z) x.1, x.2)) (sn := true) (rg := false) hb (by decide) b6.1 b5 b4 hN fH (smC_ok hx)) (fun r H4 hq => ?_)
          obtain ⟨rfl, hN, hO4⟩ := hq
          have f0 := f0.off hO4 (by unfold mdC; omega)
          have fH := fH.off hO4 (by unfold mdC; omega) (by unfold mdC; omega) (by unfold mdC; omega)
          have fM := fM.off hO4 (fun j u1 u2 => by unfold mdC; omega)
          have g0 := f0
          unfold CC at g0
          obtain ⟨t0, _⟩ := id hN
          obtain ⟨m0, m1, m2, m3, m4⟩ := id fM
          have hOO : Off (fun j => mdC 11 j ∨ j = 0) H H4 := hOO.trans hO4 (fun _ q => q) (fun _ q => Or.inl q)
          show Ev tb 92 108 [some (.ref 0), some (.int (nI m)), some (.int (nI k)), some (.int (nI (lftN (sdN z))))] [.int (nI (srtF (HE n) kd x.2.1 true false))] H4 _
          refine ev_pop i92_108 rfl ?_
          refine evn_iinc (d := 1) (L' := [some (.ref 0), some (.int (nI m)), some (.int (nI (k + 1))), some (.int (nI (lftN (sdN z))))]) i92_109 rfl rfl (by decide) rfl ?_
          refine ev_goto (t := 27) i92_112 (by decide) ?_
          have hs : smS (sdN z) = true := by
            unfold smS
            simp <;> omega
          have k1 := lq92 (tb := tb) b3 b4 b5 b6 hm d (k + 1) (sdN z) true H4 (hrF (HE n) sd kd s.1 true false (smC (sdN z) x.1, x.2)) (by omega) f0 fH fM hN (hrF_ok b6.1 b4 (smC_ok hx)) (some (.int (nI (lftN (sdN z)))))
          refine k1.post (fun r H' hq => ?_)
          unfold sumL
          rw [hs]
          exact ⟨hq.1, hq.2.1, hq.2.2.1, hOO.trans hq.2.2.2 (fun _ q => q) (fun _ q => q)⟩
theorem CInv.trs {H H' : dxH} {tx : Nat → Nat} {ln n : Nat} {sd kd : Nat → Nat} {s : Sn} {am : Nat} {stk : Nat → Sn} {kp : Nat → Bool} {ks : Nat → Sn} {tm : Nat} {tc th : Nat → Nat} {td : Nat → Bool} {sed : Int64} {z : Int64} (h : CInv H tx ln n sd kd s am stk kp ks tm tc th td sed) (hO : Off (fun j => mdC 11 j ∨ j = 0) H H') (hT : ShpM H' 11) (hC : CC H' z) : CInv H' tx ln n sd kd s am stk kp ks tm tc th td z ∧ Off xC H H' := by
  obtain ⟨h1, h2, h3, h4, h5, h6, h7, a1, ⟨l, a2⟩, ⟨l', a3⟩, f, a4⟩ := h
  have no : ∀ j, ¬ (11 ≤ j ∧ j ≤ 15) → j ≠ 0 → ¬ (mdC 11 j ∨ j = 0) := fun j a b q => q.elim (fun u => by unfold mdC at u; omega) b
  exact ⟨⟨hC, h2.off hO (no _ (by omega) (by omega)) (no _ (by omega) (by omega)), h3.off hO (no _ (by omega) (by omega)) (no _ (by omega) (by omega)) (no _ (by omega) (by omega)), h4.off hO (fun j a b => no _ (by omega) (by omega)), h5.off hO (fun j a b => no _ (by omega) (by omega)), h6.off hO (fun j a b => no _ (by omega) (by omega)), h7.off hO (fun j a b => no _ (by omega) (by omega)), hT, ⟨l, a2.off hO (no _ (by omega) (by omega)) (no _ (by omega) (by omega))⟩, ⟨l', a3.off hO (no _ (by omega) (by omega)) (no _ (by omega) (by omega))⟩, f, hO.at a4 (no _ (by omega) (by omega))⟩, hO.weaken (fun j q => by unfold mdC at q; unfold xC; omega)⟩
def sumB (x : Int32) : Bool := decide (1 ≤ x ∧ x ≤ 30)
theorem x92 {tb : dxT} {H : dxH} {tx : Nat → Nat} {ln n : Nat} {sd kd : Nat → Nat} {s : Sn} {am : Nat} {stk : Nat → Sn} {kp : Nat → Bool} {ks : Nat → Sn} {tm : Nat} {tc th : Nat → Nat} {td : Nat → Bool} {sed : Int64} {m : Nat} (hI : CInv H tx ln n sd kd s am stk kp ks tm tc th td sed) (hS : SpOK tx ln n sd kd s am stk kp ks tm tc th) (hm1 : 1 ≤ m) (hm : m ≤ 30) : Cl tb 92 [.ref 0, .int (nI m)] H (fun r H' => r = some (.int (sumA (sumL (HE n) sd kd s.1 m sed s.2.2) s)) ∧ CInv H' tx ln n sd kd s am stk kp ks tm tc th td ((sumL (HE n) sd kd s.1 m sed s.2.2).1) ∧ Off xC H H') := by
  obtain ⟨f0, fT, fH, fM, fA, fK, fL, fP⟩ := id hI
  obtain ⟨⟨b1, b2⟩, b3, b4, b5, b6, b7, b8, b9, b10, b11⟩ := id hS
  have hT := fP.1
  have g0 := f0
  unfold CC at g0
  obtain ⟨m0, m1, m2, m3, m4⟩ := id fM
  obtain ⟨_, _, _, _, _, _, _, _, ⟨t0, _⟩, _⟩ := id hT
  have hb : HE n < 64 := HE_lt b3
  have ha : 6 ≤ 6 := Nat.le_refl 6
  show Ev tb 92 0 [some (.ref 0), some (.int (nI m)), none, none] [] H _
  refine ev_iload_n i92_0 rfl ?_
  refine ev_iconst (v := nI 1) i92_1 (by decide) ?_
  refine evn_icmp_lt (t := 11) i92_2 (by decide) (by omega) (fun z2 => by exfalso; omega) (fun z2 => ?_)
  refine ev_iload_n i92_5 rfl ?_
  refine ev_bipush (v := nI 30) i92_6 (by decide) ?_
  refine evn_icmp_le (t := 14) i92_8 (by decide) (by omega) (fun z8 => ?_) (fun z8 => by exfalso; omega)
  refine ev_aload_n i92_14 rfl ?_
  refine ev_get i92_15 ci92 fl7_32 (by assumption) rfl ?_
  refine ev_aload_n i92_18 rfl ?_
  refine ev_get i92_19 ci92 fl7_28 (by assumption) rfl ?_
  refine ev_callV (vs := [.ref 6]) (rest := []) i92_22 ci92 lk7_159 (congrArg (fun q => q + 1) np20) ci20 (by decide) (by decide +kernel) (Nat.le_of_ble_eq_true rfl) ⟨rfl, rfl, Nat.le_of_ble_eq_true rfl⟩ rfl (by assumption) (c20 hT fM b6.2.2.1.2.2.1 b6.2.1 b6.2.2.1.2.2.2.1 b6.2.2.1.2.2.2.2 (by decide)) (fun r H1 hq => ?_)
  obtain ⟨rfl, hN, hO1⟩ := hq
  have f0 := f0.off hO1 (by unfold mdC; omega)
  have fH := fH.off hO1 (by unfold mdC; omega) (by unfold mdC; omega) (by unfold mdC; omega)
  have fM := fM.off hO1 (fun j u1 u2 => by unfold mdC; omega)
  have g0 := f0
  unfold CC at g0
  obtain ⟨t0, t1, t2, t3, t4⟩ := id hN
  obtain ⟨m0, m1, m2, m3, m4⟩ := id fM
  have hOO : Off (mdC 11) H H1 := hO1
  show Ev tb 92 25 [some (.ref 0), some (.int (nI m)), none, none] [] H1 _
  refine ev_iconst (v := nI 0) i92_25 (by decide) ?_
  refine ev_istore_n (L' := [some (.ref 0), some (.int (nI m)), some (.int (nI 0)), none]) i92_26 ⟨Nat.le_of_ble_eq_true rfl, rfl⟩ rfl ?_
  refine (lq92 b3 b4 b5 b6 hm m 0 sed s.2.1 H1 s.2.2 (Nat.zero_add _) f0 fH fM hN b6.2.2.1 none).post (fun r H' hq => ?_)
  exact ⟨hq.1, hI.trs (hOO.trans hq.2.2.2 (fun _ q => Or.inl q) (fun _ q => q)) hq.2.2.1 hq.2.1⟩
theorem x92f {tb : dxT} {H : dxH} {tx : Nat → Nat} {ln n : Nat} {sd kd : Nat → Nat} {s : Sn} {am : Nat} {stk : Nat → Sn} {kp : Nat → Bool} {ks : Nat → Sn} {tm : Nat} {tc th : Nat → Nat} {td : Nat → Bool} {sed : Int64} {x : Int32} (hI : CInv H tx ln n sd kd s am stk kp ks tm tc th td sed) (hS : SpOK tx ln n sd kd s am stk kp ks tm tc th) (h : sumB x = false) : Cl tb 92 [.ref 0, .int x] H (fun r H' => r = some (.int (-2)) ∧ CInv H' tx ln n sd kd s am stk kp ks tm tc th td sed ∧ Off xC H H') := by
  obtain ⟨f0, fT, fH, fM, fA, fK, fL, fP⟩ := id hI
  obtain ⟨⟨b1, b2⟩, b3, b4, b5, b6, b7, b8, b9, b10, b11⟩ := id hS
  have h1 := of_decide_eq_false h
  have e1 : (1 : Int32) = nI 1 := by decide
  have e8 : (30 : Int32) = nI 30 := by decide
  rw [e1, e8] at h1
  show Ev tb 92 0 [some (.ref 0), some (.int x), none, none] [] H _
  refine ev_iload_n i92_0 rfl ?_
  refine ev_iconst (v := nI 1) i92_1 (by decide) ?_
  refine ev_icmp_lt (t := 11) i92_2 (by decide) (fun z2 => ?_) (fun z2 => ?_)
  · refine ev_bipush (v := (-2)) i92_11 (by decide) ?_
    refine ev_iret i92_13 (by decide +kernel) ?_
    exact ⟨rfl, hI, Off.rf⟩
  · refine ev_iload_n i92_5 rfl ?_
    refine ev_bipush (v := nI 30) i92_6 (by decide) ?_
    refine ev_icmp_le (t := 14) i92_8 (by decide) (fun z8 => ?_) (fun z8 => ?_)
    · exact absurd ⟨k2_le z2, z8⟩ h1
    · refine ev_bipush (v := (-2)) i92_11 (by decide) ?_
      refine ev_iret i92_13 (by decide +kernel) ?_
      exact ⟨rfl, hI, Off.rf⟩
