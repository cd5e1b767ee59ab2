/-! the model's chance, summers  -/
def wpr (y wd : Nat) : Nat → Nat → Nat → Nat
  | 0, _, w => w
  | d + 1, k, w => wpr y wd d (k + 1) (w * (if wd.testBit k = true then y else 10 - y))
def wsm (m y : Nat) : Nat → Nat → Nat → Nat
  | 0, _, a => a
  | d + 1, wd, a => wsm m y d (wd + 1) (a + wgt m y wd)
theorem wpr_eq : ∀ m, m < 7 → ∀ y, y < 11 → ∀ wd, wd < 2 ^ m → wpr y wd m 0 1 = wgt m y wd := by decide +kernel
theorem wsm_eq : ∀ m, m < 7 → ∀ y, y < 11 → wsm m y (2 ^ m) 0 0 = 10 ^ m := by decide +kernel
theorem ab_n {A : Nat} (h : A < 2147483648) : (if 0 ≤ nI A then nI A else 0 - nI A) = nI A := if_pos (by
  rw [Int32.le_iff_toInt_le, nI_toInt h, show (0 : Int32).toInt = 0 from rfl]
  omega)
theorem sum_re (a b c d : Int32) : nI 1000 + a - b - (c - d) = a - b - (c - d) + nI 1000 := by
  simp only [Int32.sub_eq_add_neg]
  ac_rfl
theorem lq166i {tb : dxT} {H : dxH} {n : Nat} {f : Nat → Int32} {sed : Int64} {sd kd : Nat → Nat} {s : Sn} {m y wd a al : Nat} {u : Bool} {Q : Option Value → dxH → Prop} (b3 : n ≤ 6) (b4 : ∀ j, sd j < 2) (b5 : ∀ j, kd j < 4) (b6 : SnOK n s) (hm : m ≤ 6) (hy : y ≤ 10) (hwd : wd < 64) : ∀ (d k wt : Nat) (v : Int32) (x : Hs) (sn : Bool) (H1 : dxH) (g : Nat → Int32), k + d = m → MC H1 n f sed sd kd g → LvS g 0 n s → Lv g (27 * 1) n s.1 sn x → SOK x → Off (fun j => j = 114) H H1 → (∀ H3 g3, MC H3 n f sed sd kd g3 → LvS g3 0 n s → Off (fun j => j = 114) H H3 → Ev tb 166 125 [some (.ref 111), some (.int (nI m)), some (.int (nI y)), some (.int (bI u)), some (.int (nI a)), some (.int (nI al)), some (.int (nI wd)), some (.int (nI (wpr y wd d k wt))), some (.int (snwX wd (HE n) sd kd s.1 d k x v)), some (.int (nI m))] [] H3 Q) → Ev tb 166 58 [some (.ref 111), some (.int (nI m)), some (.int (nI y)), some (.int (bI u)), some (.int (nI a)), some (.int (nI al)), some (.int (nI wd)), some (.int (nI wt)), some (.int v), some (.int (nI k))] [] H1 Q
  | 0, k, wt, v, x, sn, H1, g, hk, hC, hL, hT, hx, hO, hQ => by
    obtain rfl : k = m := by omega
    obtain ⟨c0, ⟨ms, mk, c1, c2, c3, c4⟩, c5⟩ := id hC
    unfold mOb at c0
    refine ev_iload i166_58 rfl ?_
    refine ev_iload_n i166_60 rfl ?_
    refine evn_icmp_ge (t := 125) i166_61 (by decide) (by omega) (fun z61 => ?_) (fun z61 => by exfalso; omega)
    exact hQ H1 g hC hL hO
  | d + 1, k, wt, v, x, sn, H1, g, hk, hC, hL, hT, hx, hO, hQ => by
    obtain ⟨c0, ⟨ms, mk, c1, c2, c3, c4⟩, c5⟩ := id hC
    unfold mOb at c0
    refine ev_iload i166_58 rfl ?_
    refine ev_iload_n i166_60 rfl ?_
    refine evn_icmp_ge (t := 125) i166_61 (by decide) (by omega) (fun z61 => by exfalso; omega) (fun z61 => ?_)
    refine ev_iload i166_64 rfl ?_
    refine ev_iload i166_66 rfl ?_
    refine ev_iload i166_68 rfl ?_
    refine ev_callS (vs := [.int (nI wd), .int (nI k)]) (rest := [.int (nI wt)]) i166_70 ci166 lk8_77 (Or.inl rfl) np118 (by decide +kernel) (Nat.le_of_ble_eq_true rfl) ⟨rfl, rfl, Nat.le_of_ble_eq_true rfl⟩ rfl (c118 (by omega) (by omega)) (fun r HH hq => ?_)
    obtain ⟨rfl, rfl⟩ := hq
    show Ev tb 166 73 [some (.ref 111), some (.int (nI m)), some (.int (nI y)), some (.int (bI u)), some (.int (nI a)), some (.int (nI al)), some (.int (nI wd)), some (.int (nI wt)), some (.int v), some (.int (nI k))] [.int (bI (wd.testBit k)), .int (nI wt)] H1 _
    refine evb_if_eq (t := 80) i166_73 (by decide) (fun z73 => ?_) (fun z73 => ?_)
    · refine ev_bipush (v := nI 10) i166_80 (by decide) ?_
      refine ev_iload_n i166_82 rfl ?_
      refine evn_isub i166_83 (by omega) ?_
      refine evn_imul i166_84 ?_
      refine ev_istore (L' := [some (.ref 111), some (.int (nI m)), some (.int (nI y)), some (.int (bI u)), some (.int (nI a)), some (.int (nI al)), some (.int (nI wd)), some (.int (nI (wt * (10 - y)))), some (.int v), some (.int (nI k))]) i166_85 ⟨Nat.le_of_ble_eq_true rfl, rfl⟩ rfl ?_
      refine ev_aload_n i166_87 rfl ?_
      refine ev_get i166_88 ci166 fl8_16 (by assumption) rfl ?_
      refine ev_bipush (v := nI 49) i166_91 (by decide) ?_
      refine ev_iload i166_93 rfl ?_
      refine ev_iload i166_95 rfl ?_
      refine ev_callS (vs := [.int (nI wd), .int (nI k)]) (rest := [.int (nI 49), .ref 114]) i166_97 ci166 lk8_77 (Or.inl rfl) np118 (by decide +kernel) (Nat.le_of_ble_eq_true rfl) ⟨rfl, rfl, Nat.le_of_ble_eq_true rfl⟩ rfl (c118 (by omega) (by omega)) (fun r HH hq => ?_)
      obtain ⟨rfl, rfl⟩ := hq
      show Ev tb 166 100 [some (.ref 111), some (.int (nI m)), some (.int (nI y)), some (.int (bI u)), some (.int (nI a)), some (.int (nI al)), some (.int (nI wd)), some (.int (nI (wt * (10 - y)))), some (.int v), some (.int (nI k))] [.int (bI (wd.testBit k)), .int (nI 49), .ref 114] H1 _
      refine evb_if_eq (t := 107) i166_100 (by decide) (fun z100 => ?_) (fun z100 => ?_)
      · refine ev_iconst (v := nI 0) i166_107 (by decide) ?_
        refine evs_iastw i166_108 (by assumption) (by omega) (fun H2 hH2 => ?_)
        have c0 : H2[111]? = some (.inr (8, [.int (nI n), .ref 112, .ref 113, .ref 114, .ref 115, .ref 116, .ref 117, .int (f 0), .int (f 1), .int (f 2), .ref 118, .int (f 3), .int (f 4), .int (f 5), .int (f 6), .int (f 7), .ref 119, .ref 120, .int (f 8), .ref 121, .ref 122, .ref 123, .ref 124, .long sed, .ref 125, .ref 126])) := by rw [hH2]; exact set_ne c0 (by omega)
        have c1 : H2[112]? = some (.inl (0, 6, .inl ms)) := by rw [hH2]; exact set_ne c1 (by omega)
        have c3 : H2[113]? = some (.inl (0, 6, .inl mk)) := by rw [hH2]; exact set_ne c3 (by omega)
        have c5 : H2[114]? = some (.inl (0, 54, .inl (upd g 49 (nI 0)))) := by rw [hH2]; exact set_self c5
        have hO : Off (fun j => j = 114) H H2 := by rw [hH2]; exact hO.set (by rfl)
        have hC : MC H2 n f sed sd kd (upd g 49 (nI 0)) := ⟨c0, ⟨ms, mk, c1, c2, c3, c4⟩, c5⟩
        have hL : LvS (upd g 49 (nI 0)) 0 n s := hL.of0 b3 (ofL.rf.up (by omega))
        have hT : Lv (upd g 49 (nI 0)) (27 * 1) n s.1 false x := hT.sn (b := false) b3
        refine ev_aload_n i166_109 rfl ?_
        refine ev_iconst (v := nI 1) i166_110 (by decide) ?_
        refine ev_bipush (v := nI 63) i166_111 (by decide) ?_
        refine ev_iconst (v := nI 0) i166_113 (by decide) ?_
        refine ev_callV (vs := [.int (nI 1), .int (nI 63), .int (nI 0)]) (rest := []) i166_114 ci166 lk8_132 (congrArg (fun q => q + 1) np135) ci135 (by decide) (by decide +kernel) (Nat.le_of_ble_eq_true rfl) ⟨rfl, rfl, Nat.le_of_ble_eq_true rfl⟩ rfl (by assumption) (c135 (rg := false) b3 b4 b5 b6.1 (by decide) (by decide) hC hT hx) (fun r H3 hq => ?_)
        obtain ⟨rfl, g3, hC, hT, hG3, hO3⟩ := hq
        rw [and63 n (by omega)] at hT
        rw [and63 n (by omega)]
        have hL := hL.of0 b3 hG3
        obtain ⟨c0, ⟨ms, mk, c1, c2, c3, c4⟩, c5⟩ := id hC
        unfold mOb at c0
        have hO := hO.trans hO3 (C := (fun j => j = 114)) (fun _ q => q) (fun _ q => q)
        show Ev tb 166 117 [some (.ref 111), some (.int (nI m)), some (.int (nI y)), some (.int (bI u)), some (.int (nI a)), some (.int (nI al)), some (.int (nI wd)), some (.int (nI (wt * (10 - y)))), some (.int v), some (.int (nI k))] [.int (nI (srtF (HE n) kd x.2.1 false false))] H3 _
        refine ev_istore (L' := [some (.ref 111), some (.int (nI m)), some (.int (nI y)), some (.int (bI u)), some (.int (nI a)), some (.int (nI al)), some (.int (nI wd)), some (.int (nI (wt * (10 - y)))), some (.int (nI (srtF (HE n) kd x.2.1 false false))), some (.int (nI k))]) i166_117 ⟨Nat.le_of_ble_eq_true rfl, rfl⟩ rfl ?_
        refine evn_iinc (d := 1) (L' := [some (.ref 111), some (.int (nI m)), some (.int (nI y)), some (.int (bI u)), some (.int (nI a)), some (.int (nI al)), some (.int (nI wd)), some (.int (nI (wt * (10 - y)))), some (.int (nI (srtF (HE n) kd x.2.1 false false))), some (.int (nI (k + 1)))]) i166_119 rfl rfl (by decide) rfl ?_
        refine ev_goto (t := 58) i166_122 (by decide) ?_
        have ew : wpr y wd (d + 1) k wt = wpr y wd d (k + 1) (wt * (10 - y)) := by
          conv => lhs; unfold wpr
          rw [if_neg (by simp [z73])]
        have ex : snwX wd (HE n) sd kd s.1 (d + 1) k x v = snwX wd (HE n) sd kd s.1 d (k + 1) (hrF (HE n) sd kd s.1 false false x) (nI (srtF (HE n) kd x.2.1 false false)) := by
          conv => lhs; unfold snwX
          rw [z73]
        rw [ew, ex] at hQ
        exact lq166i b3 b4 b5 b6 hm hy hwd d (k + 1) _ _ _ _ _ _ (by omega) hC hL hT (hrF_ok b6.1 b4 hx) hO hQ
      · refine ev_iconst (v := nI 1) i166_103 (by decide) ?_
        refine ev_goto (t := 108) i166_104 (by decide) ?_
        refine evs_iastw i166_108 (by assumption) (by omega) (fun H2 hH2 => ?_)
        have c0 : H2[111]? = some (.inr (8, [.int (nI n), .ref 112, .ref 113, .ref 114, .ref 115, .ref 116, .ref 117, .int (f 0), .int (f 1), .int (f 2), .ref 118, .int (f 3), .int (f 4), .int (f 5), .int (f 6), .int (f 7), .ref 119, .ref 120, .int (f 8), .ref 121, .ref 122, .ref 123, .ref 124, .long sed, .ref 125, .ref 126])) := by rw [hH2]; exact set_ne c0 (by omega)
        have c1 : H2[112]? = some (.inl (0, 6, .inl ms)) := by rw [hH2]; exact set_ne c1 (by omega)
        have c3 : H2[113]? = some (.inl (0, 6, .inl mk)) := by rw [hH2]; exact set_ne c3 (by omega)
        have c5 : H2[114]? = some (.inl (0, 54, .inl (upd g 49 (nI 1)))) := by rw [hH2]; exact set_self c5
        have hO : Off (fun j => j = 114) H H2 := by rw [hH2]; exact hO.set (by rfl)
        have hC : MC H2 n f sed sd kd (upd g 49 (nI 1)) := ⟨c0, ⟨ms, mk, c1, c2, c3, c4⟩, c5⟩
        have hL : LvS (upd g 49 (nI 1)) 0 n s := hL.of0 b3 (ofL.rf.up (by omega))
        have hT : Lv (upd g 49 (nI 1)) (27 * 1) n s.1 true x := hT.sn (b := true) b3
        refine ev_aload_n i166_109 rfl ?_
        refine ev_iconst (v := nI 1) i166_110 (by decide) ?_
        refine ev_bipush (v := nI 63) i166_111 (by decide) ?_
        refine ev_iconst (v := nI 0) i166_113 (by decide) ?_
        refine ev_callV (vs := [.int (nI 1), .int (nI 63), .int (nI 0)]) (rest := []) i166_114 ci166 lk8_132 (congrArg (fun q => q + 1) np135) ci135 (by decide) (by decide +kernel) (Nat.le_of_ble_eq_true rfl) ⟨rfl, rfl, Nat.le_of_ble_eq_true rfl⟩ rfl (by assumption) (c135 (rg := false) b3 b4 b5 b6.1 (by decide) (by decide) hC hT hx) (fun r H3 hq => ?_)
        obtain ⟨rfl, g3, hC, hT, hG3, hO3⟩ := hq
        rw [and63 n (by omega)] at hT
        rw [and63 n (by omega)]
        have hL := hL.of0 b3 hG3
        obtain ⟨c0, ⟨ms, mk, c1, c2, c3, c4⟩, c5⟩ := id hC
        unfold mOb at c0
        have hO := hO.trans hO3 (C := (fun j => j = 114)) (fun _ q => q) (fun _ q => q)
        show Ev tb 166 117 [some (.ref 111), some (.int (nI m)), some (.int (nI y)), some (.int (bI u)), some (.int (nI a)), some (.int (nI al)), some (.int (nI wd)), some (.int (nI (wt * (10 - y)))), some (.int v), some (.int (nI k))] [.int (nI (srtF (HE n) kd x.2.1 true false))] H3 _
        refine ev_istore (L' := [some (.ref 111), some (.int (nI m)), some (.int (nI y)), some (.int (bI u)), some (.int (nI a)), some (.int (nI al)), some (.int (nI wd)), some (.int (nI (wt * (10 - y)))), some (.int (nI (srtF (HE n) kd x.2.1 true false))), some (.int (nI k))]) i166_117 ⟨Nat.le_of_ble_eq_true rfl, rfl⟩ rfl ?_
        refine evn_iinc (d := 1) (L' := [some (.ref 111), some (.int (nI m)), some (.int (nI y)), some (.int (bI u)), some (.int (nI a)), some (.int (nI al)), some (.int (nI wd)), some (.int (nI (wt * (10 - y)))), some (.int (nI (srtF (HE n) kd x.2.1 true false))), some (.int (nI (k + 1)))]) i166_119 rfl rfl (by decide) rfl ?_
        refine ev_goto (t := 58) i166_122 (by decide) ?_
        exfalso
        rw [z73] at z100
        cases z100
    · refine ev_iload_n i166_76 rfl ?_
      refine ev_goto (t := 84) i166_77 (by decide) ?_
      refine evn_imul i166_84 ?_
      refine ev_istore (L' := [some (.ref 111), some (.int (nI m)), some (.int (nI y)), some (.int (bI u)), some (.int (nI a)), some (.int (nI al)), some (.int (nI wd)), some (.int (nI (wt * y))), some (.int v), some (.int (nI k))]) i166_85 ⟨Nat.le_of_ble_eq_true rfl, rfl⟩ rfl ?_
      refine ev_aload_n i166_87 rfl ?_
      refine ev_get i166_88 ci166 fl8_16 (by assumption) rfl ?_
      refine ev_bipush (v := nI 49) i166_91 (by decide) ?_
      refine ev_iload i166_93 rfl ?_
      refine ev_iload i166_95 rfl ?_
      refine ev_callS (vs := [.int (nI wd), .int (nI k)]) (rest := [.int (nI 49), .ref 114]) i166_97 ci166 lk8_77 (Or.inl rfl) np118 (by decide +kernel) (Nat.le_of_ble_eq_true rfl) ⟨rfl, rfl, Nat.le_of_ble_eq_true rfl⟩ rfl (c118 (by omega) (by omega)) (fun r HH hq => ?_)
      obtain ⟨rfl, rfl⟩ := hq
      show Ev tb 166 100 [some (.ref 111), some (.int (nI m)), some (.int (nI y)), some (.int (bI u)), some (.int (nI a)), some (.int (nI al)), some (.int (nI wd)), some (.int (nI (wt * y))), some (.int v), some (.int (nI k))] [.int (bI (wd.testBit k)), .int (nI 49), .ref 114] H1 _
      refine evb_if_eq (t := 107) i166_100 (by decide) (fun z100 => ?_) (fun z100 => ?_)
      · refine ev_iconst (v := nI 0) i166_107 (by decide) ?_
        refine evs_iastw i166_108 (by assumption) (by omega) (fun H2 hH2 => ?_)
        have c0 : H2[111]? = some (.inr (8, [.int (nI n), .ref 112, .ref 113, .ref 114, .ref 115, .ref 116, .ref 117, .int (f 0), .int (f 1), .int (f 2), .ref 118, .int (f 3), .int (f 4), .int (f 5), .int (f 6), .int (f 7), .ref 119, .ref 120, .int (f 8), .ref 121, .ref 122, .ref 123, .ref 124, .long sed, .ref 125, .ref 126])) := by rw [hH2]; exact set_ne c0 (by omega)
        have c1 : H2[112]? = some (.inl (0, 6, .inl ms)) := by rw [hH2]; exact set_ne c1 (by omega)
        have c3 : H2[113]? = some (.inl (0, 6, .inl mk)) := by rw [hH2]; exact set_ne c3 (by omega)
        have c5 : H2[114]? = some (.inl (0, 54, .inl (upd g 49 (nI 0)))) := by rw [hH2]; exact set_self c5
        have hO : Off (fun j => j = 114) H H2 := by rw [hH2]; exact hO.set (by rfl)
        have hC : MC H2 n f sed sd kd (upd g 49 (nI 0)) := ⟨c0, ⟨ms, mk, c1, c2, c3, c4⟩, c5⟩
        have hL : LvS (upd g 49 (nI 0)) 0 n s := hL.of0 b3 (ofL.rf.up (by omega))
        have hT : Lv (upd g 49 (nI 0)) (27 * 1) n s.1 false x := hT.sn (b := false) b3
        refine ev_aload_n i166_109 rfl ?_
        refine ev_iconst (v := nI 1) i166_110 (by decide) ?_
        refine ev_bipush (v := nI 63) i166_111 (by decide) ?_
        refine ev_iconst (v := nI 0) i166_113 (by decide) ?_
        refine ev_callV (vs := [.int (nI 1), .int (nI 63), .int (nI 0)]) (rest := []) i166_114 ci166 lk8_132 (congrArg (fun q => q + 1) np135) ci135 (by decide) (by decide +kernel) (Nat.le_of_ble_eq_true rfl) ⟨rfl, rfl, Nat.le_of_ble_eq_true rfl⟩ rfl (by assumption) (c135 (rg := false) b3 b4 b5 b6.1 (by decide) (by decide) hC hT hx) (fun r H3 hq => ?_)
        obtain ⟨rfl, g3, hC, hT, hG3, hO3⟩ := hq
        rw [and63 n (by omega)] at hT
        rw [and63 n (by omega)]
        have hL := hL.of0 b3 hG3
        obtain ⟨c0, ⟨ms, mk, c1, c2, c3, c4⟩, c5⟩ := id hC
        unfold mOb at c0
        have hO := hO.trans hO3 (C := (fun j => j = 114)) (fun _ q => q) (fun _ q => q)
        show Ev tb 166 117 [some (.ref 111), some (.int (nI m)), some (.int (nI y)), some (.int (bI u)), some (.int (nI a)), some (.int (nI al)), some (.int (nI wd)), some (.int (nI (wt * y))), some (.int v), some (.int (nI k))] [.int (nI (srtF (HE n) kd x.2.1 false false))] H3 _
        refine ev_istore (L' := [some (.ref 111), some (.int (nI m)), some (.int (nI y)), some (.int (bI u)), some (.int (nI a)), some (.int (nI al)), some (.int (nI wd)), some (.int (nI (wt * y))), some (.int (nI (srtF (HE n) kd x.2.1 false false))), some (.int (nI k))]) i166_117 ⟨Nat.le_of_ble_eq_true rfl, rfl⟩ rfl ?_
        refine evn_iinc (d := 1) (L' := [some (.ref 111), some (.int (nI m)), some (.int (nI y)), some (.int (bI u)), some (.int (nI a)), some (.int (nI al)), some (.int (nI wd)), some (.int (nI (wt * y))), some (.int (nI (srtF (HE n) kd x.2.1 false false))), some (.int (nI (k + 1)))]) i166_119 rfl rfl (by decide) rfl ?_
        refine ev_goto (t := 58) i166_122 (by decide) ?_
        exfalso
        rw [z73] at z100
        cases z100
      · refine ev_iconst (v := nI 1) i166_103 (by decide) ?_
        refine ev_goto (t := 108) i166_104 (by decide) ?_
        refine evs_iastw i166_108 (by assumption) (by omega) (fun H2 hH2 => ?_)
        have c0 : H2[111]? = some (.inr (8, [.int (nI n), .ref 112, .ref 113, .ref 114, .ref 115, .ref 116, .ref 117, .int (f 0), .int (f 1), .int (f 2), .ref 118, .int (f 3), .int (f 4), .int (f 5), .int (f 6), .int (f 7), .ref 119, .ref 120, .int (f 8), .ref 121, .ref 122, .ref 123, .ref 124, .long sed, .ref 125, .ref 126])) := by rw [hH2]; exact set_ne c0 (by omega)
        have c1 : H2[112]? = some (.inl (0, 6, .inl ms)) := by rw [hH2]; exact set_ne c1 (by omega)
        have c3 : H2[113]? = some (.inl (0, 6, .inl mk)) := by rw [hH2]; exact set_ne c3 (by omega)
        have c5 : H2[114]? = some (.inl (0, 54, .inl (upd g 49 (nI 1)))) := by rw [hH2]; exact set_self c5
        have hO : Off (fun j => j = 114) H H2 := by rw [hH2]; exact hO.set (by rfl)
        have hC : MC H2 n f sed sd kd (upd g 49 (nI 1)) := ⟨c0, ⟨ms, mk, c1, c2, c3, c4⟩, c5⟩
        have hL : LvS (upd g 49 (nI 1)) 0 n s := hL.of0 b3 (ofL.rf.up (by omega))
        have hT : Lv (upd g 49 (nI 1)) (27 * 1) n s.1 true x := hT.sn (b := true) b3
        refine ev_aload_n i166_109 rfl ?_
        refine ev_iconst (v := nI 1) i166_110 (by decide) ?_
        refine ev_bipush (v := nI 63) i166_111 (by decide) ?_
        refine ev_iconst (v := nI 0) i166_113 (by decide) ?_
        refine ev_callV (vs := [.int (nI 1), .int (nI 63), .int (nI 0)]) (rest := []) i166_114 ci166 lk8_132 (congrArg (fun q => q + 1) np135) ci135 (by decide) (by decide +kernel) (Nat.le_of_ble_eq_true rfl) ⟨rfl, rfl, Nat.le_of_ble_eq_true rfl⟩ rfl (by assumption) (c135 (rg := false) b3 b4 b5 b6.1 (by decide) (by decide) hC hT hx) (fun r H3 hq => ?_)
        obtain ⟨rfl, g3, hC, hT, hG3, hO3⟩ := hq
        rw [and63 n (by omega)] at hT
        rw [and63 n (by omega)]
        have hL := hL.of0 b3 hG3
        obtain ⟨c0, ⟨ms, mk, c1, c2, c3, c4⟩, c5⟩ := id hC
        unfold mOb at c0
        have hO := hO.trans hO3 (C := (fun j => j = 114)) (fun _ q => q) (fun _ q => q)
        show Ev tb 166 117 [some (.ref 111), some (.int (nI m)), some (.int (nI y)), some (.int (bI u)), some (.int (nI a)), some (.int (nI al)), some (.int (nI wd)), some (.int (nI (wt * y))), some (.int v), some (.int (nI k))] [.int (nI (srtF (HE n) kd x.2.1 true false))] H3 _
        refine ev_istore (L' := [some (.ref 111), some (.int (nI m)), some (.int (nI y)), some (.int (bI u)), some (.int (nI a)), some (.int (nI al)), some (.int (nI wd)), some (.int (nI (wt * y))), some (.int (nI (srtF (HE n) kd x.2.1 true false))), some (.int (nI k))]) i166_117 ⟨Nat.le_of_ble_eq_true rfl, rfl⟩ rfl ?_
        refine evn_iinc (d := 1) (L' := [some (.ref 111), some (.int (nI m)), some (.int (nI y)), some (.int (bI u)), some (.int (nI a)), some (.int (nI al)), some (.int (nI wd)), some (.int (nI (wt * y))), some (.int (nI (srtF (HE n) kd x.2.1 true false))), some (.int (nI (k + 1)))]) i166_119 rfl rfl (by decide) rfl ?_
        refine ev_goto (t := 58) i166_122 (by decide) ?_
        have ew : wpr y wd (d + 1) k wt = wpr y wd d (k + 1) (wt * y) := by
          conv => lhs; unfold wpr
          rw [if_pos z73]
        have ex : snwX wd (HE n) sd kd s.1 (d + 1) k x v = snwX wd (HE n) sd kd s.1 d (k + 1) (hrF (HE n) sd kd s.1 true false x) (nI (srtF (HE n) kd x.2.1 true false)) := by
          conv => lhs; unfold snwX
          rw [z73]
        rw [ew, ex] at hQ
        exact lq166i b3 b4 b5 b6 hm hy hwd d (k + 1) _ _ _ _ _ _ (by omega) hC hL hT (hrF_ok b6.1 b4 hx) hO hQ
theorem lq166 {tb : dxT} {H : dxH} {n : Nat} {f : Nat → Int32} {sed : Int64} {sd kd : Nat → Nat} {s : Sn} {m y : Nat} {u : Bool} (b3 : n ≤ 6) (b4 : ∀ j, sd j < 2) (b5 : ∀ j, kd j < 4) (b6 : SnOK n s) (hm : m ≤ 6) (hy : y ≤ 10) : ∀ (d wd a al : Nat) (H1 : dxH) (g : Nat → Int32), wd + d = 2 ^ m → a ≤ al → wsm m y d wd al = 10 ^ m → MC H1 n f sed sd kd g → LvS g 0 n s → Off (fun j => j = 114) H H1 → ∀ w7 w8 w9, Ev tb 166 36 [some (.ref 111), some (.int (nI m)), some (.int (nI y)), some (.int (bI u)), some (.int (nI a)), some (.int (nI al)), some (.int (nI wd)), w7, w8, w9] [] H1 (fun r H' => r = some (.int (trmI (nI (chnL m y (HE n) sd kd s.1 s.2.2 d wd a)) (chnL m y (HE n) sd kd s.1 s.2.2 d wd a) (10 ^ m) u)) ∧ ∃ g', MC H' n f sed sd kd g' ∧ LvS g' 0 n s ∧ Off (fun j => j = 114) H H')
  | 0, wd, a, al, H1, g, hd, ha, hw, hC, hL, hO, w7, w8, w9 => by
    obtain rfl : wd = 2 ^ m := by omega
    obtain rfl : al = 10 ^ m := hw
    have hp8 : 2 ^ m ≤ 2 ^ 6 := Nat.pow_le_pow_right (by decide) hm
    have hp9 : 10 ^ m ≤ 10 ^ 6 := Nat.pow_le_pow_right (by decide) hm
    have hp0 := Nat.pow_pos (n := m) (show 0 < 10 by decide)
    obtain ⟨c0, ⟨ms, mk, c1, c2, c3, c4⟩, c5⟩ := id hC
    unfold mOb at c0
    refine ev_iload i166_36 rfl ?_
    refine ev_iconst (v := nI 1) i166_38 (by decide) ?_
    refine ev_iload_n i166_39 rfl ?_
    refine ev_ishl i166_40 ?_
    rw [shl1 m (by omega)]
    refine evn_icmp_ge (t := 155) i166_41 (by decide) (by omega) (fun z41 => ?_) (fun z41 => by exfalso; omega)
    refine ev_iload i166_155 rfl ?_
    refine ev_iload i166_157 rfl ?_
    refine ev_callS (vs := [.int (nI a), .int (nI (10 ^ m))]) (rest := []) i166_159 ci166 lk8_169 (Or.inl rfl) np156 (by decide +kernel) (Nat.le_of_ble_eq_true rfl) ⟨rfl, rfl, Nat.le_of_ble_eq_true rfl⟩ rfl (c156 (A := a) (ab_n (by omega)) (by omega) (by omega)) (fun r HH hq => ?_)
    obtain ⟨rfl, rfl⟩ := hq
    have hg0 : 0 < Nat.gcd a (10 ^ m) := Nat.gcd_pos_of_pos_right _ hp0
    have hgb : Nat.gcd a (10 ^ m) ≤ 10 ^ m := Nat.gcd_le_right _ hp0
    show Ev tb 166 162 [some (.ref 111), some (.int (nI m)), some (.int (nI y)), some (.int (bI u)), some (.int (nI a)), some (.int (nI (10 ^ m))), some (.int (nI (2 ^ m))), w7, w8, w9] [.int (nI (Nat.gcd a (10 ^ m)))] H1 _
    refine ev_istore (L' := [some (.ref 111), some (.int (nI m)), some (.int (nI y)), some (.int (bI u)), some (.int (nI a)), some (.int (nI (10 ^ m))), some (.int (nI (Nat.gcd a (10 ^ m)))), w7, w8, w9]) i166_162 ⟨Nat.le_of_ble_eq_true rfl, rfl⟩ rfl ?_
    refine ev_iload_n i166_164 rfl ?_
    refine evb_if_eq (t := 176) i166_165 (by decide) (fun z165 => ?_) (fun z165 => ?_)
    · refine ev_iload i166_176 rfl ?_
      refine ev_iload i166_178 rfl ?_
      refine ev_idiv i166_180 (by first | decide | exact nI_ne0 (by omega) (by omega)) ?_
      refine ev_iret i166_181 (by decide +kernel) ?_
      show some _ = some (Value.int (trmI (nI a) a (10 ^ m) u)) ∧ _
      unfold trmI
      rw [z165]
      exact ⟨rfl, g, hC, hL, hO⟩
    · refine ev_iload i166_168 rfl ?_
      refine ev_iload i166_170 rfl ?_
      refine ev_idiv i166_172 (by first | decide | exact nI_ne0 (by omega) (by omega)) ?_
      refine ev_goto (t := 181) i166_173 (by decide) ?_
      refine ev_iret i166_181 (by decide +kernel) ?_
      show some _ = some (Value.int (trmI (nI a) a (10 ^ m) u)) ∧ _
      unfold trmI
      rw [z165]
      exact ⟨rfl, g, hC, hL, hO⟩
  | d + 1, wd, a, al, H1, g, hd, ha, hw, hC, hL, hO, w7, w8, w9 => by
    have hp8 : 2 ^ m ≤ 2 ^ 6 := Nat.pow_le_pow_right (by decide) hm
    have hp9 : 10 ^ m ≤ 10 ^ 6 := Nat.pow_le_pow_right (by decide) hm
    have hp0 := Nat.pow_pos (n := m) (show 0 < 10 by decide)
    obtain ⟨c0, ⟨ms, mk, c1, c2, c3, c4⟩, c5⟩ := id hC
    unfold mOb at c0
    refine ev_iload i166_36 rfl ?_
    refine ev_iconst (v := nI 1) i166_38 (by decide) ?_
    refine ev_iload_n i166_39 rfl ?_
    refine ev_ishl i166_40 ?_
    rw [shl1 m (by omega)]
    refine evn_icmp_ge (t := 155) i166_41 (by decide) (by omega) (fun z41 => by exfalso; omega) (fun z41 => ?_)
    refine ev_iconst (v := nI 1) i166_44 (by decide) ?_
    refine ev_istore (L' := [some (.ref 111), some (.int (nI m)), some (.int (nI y)), some (.int (bI u)), some (.int (nI a)), some (.int (nI al)), some (.int (nI wd)), some (.int (nI 1)), w8, w9]) i166_45 ⟨Nat.le_of_ble_eq_true rfl, rfl⟩ rfl ?_
    refine ev_bipush (v := (-9)) i166_47 (by decide) ?_
    refine ev_istore (L' := [some (.ref 111), some (.int (nI m)), some (.int (nI y)), some (.int (bI u)), some (.int (nI a)), some (.int (nI al)), some (.int (nI wd)), some (.int (nI 1)), some (.int (-9)), w9]) i166_49 ⟨Nat.le_of_ble_eq_true rfl, rfl⟩ rfl ?_
    refine ev_aload_n i166_51 rfl ?_
    refine ev_callV (vs := []) (rest := []) i166_52 ci166 lk8_140 (congrArg (fun q => q + 1) np143) ci143 (by decide) (by decide +kernel) (Nat.le_of_ble_eq_true rfl) ⟨rfl, rfl, Nat.le_of_ble_eq_true rfl⟩ rfl (by assumption) (c143 b3 hC hL) (fun r H2 hq => ?_)
    obtain ⟨rfl, g2, hC, hL, hT, hO2⟩ := hq
    obtain ⟨c0, ⟨ms, mk, c1, c2, c3, c4⟩, c5⟩ := id hC
    unfold mOb at c0
    have hO := hO.trans hO2 (C := (fun j => j = 114)) (fun _ q => q) (fun _ q => q)
    show Ev tb 166 55 [some (.ref 111), some (.int (nI m)), some (.int (nI y)), some (.int (bI u)), some (.int (nI a)), some (.int (nI al)), some (.int (nI wd)), some (.int (nI 1)), some (.int (-9)), w9] [] H2 _
    refine ev_iconst (v := nI 0) i166_55 (by decide) ?_
    refine ev_istore (L' := [some (.ref 111), some (.int (nI m)), some (.int (nI y)), some (.int (bI u)), some (.int (nI a)), some (.int (nI al)), some (.int (nI wd)), some (.int (nI 1)), some (.int (-9)), some (.int (nI 0))]) i166_56 ⟨Nat.le_of_ble_eq_true rfl, rfl⟩ rfl ?_
    refine lq166i b3 b4 b5 b6 hm hy (by omega) m 0 1 (-9) s.2.2 _ H2 g2 (by omega) hC hL hT b6.2.2.1 hO (fun H3 g3 hC3 hL3 hO3 => ?_)
    rw [wpr_eq m (by omega) y (by omega) wd (by omega)]
    refine ev_iload i166_125 rfl ?_
    refine ev_iload i166_127 rfl ?_
    refine evn_iadd i166_129 ?_
    refine ev_istore (L' := [some (.ref 111), some (.int (nI m)), some (.int (nI y)), some (.int (bI u)), some (.int (nI a)), some (.int (nI (al + (wgt m y wd)))), some (.int (nI wd)), some (.int (nI (wgt m y wd))), some (.int (snwX wd (HE n) sd kd s.1 m 0 s.2.2 (-9))), some (.int (nI m))]) i166_130 ⟨Nat.le_of_ble_eq_true rfl, rfl⟩ rfl ?_
    refine ev_iload i166_132 rfl ?_
    refine ev_iload i166_134 rfl ?_
    refine ev_iconst (v := nI 1) i166_136 (by decide) ?_
    refine ev_icmp_ne (t := 145) i166_137 (by decide) (fun z137 => ?_) (fun z137 => ?_)
    · refine ev_iconst (v := nI 0) i166_145 (by decide) ?_
      refine evn_iadd i166_146 ?_
      rw [Nat.add_zero]
      refine ev_istore (L' := [some (.ref 111), some (.int (nI m)), some (.int (nI y)), some (.int (bI u)), some (.int (nI a)), some (.int (nI (al + (wgt m y wd)))), some (.int (nI wd)), some (.int (nI (wgt m y wd))), some (.int (snwX wd (HE n) sd kd s.1 m 0 s.2.2 (-9))), some (.int (nI m))]) i166_147 ⟨Nat.le_of_ble_eq_true rfl, rfl⟩ rfl ?_
      refine evn_iinc (d := 1) (L' := [some (.ref 111), some (.int (nI m)), some (.int (nI y)), some (.int (bI u)), some (.int (nI a)), some (.int (nI (al + (wgt m y wd)))), some (.int (nI (wd + 1))), some (.int (nI (wgt m y wd))), some (.int (snwX wd (HE n) sd kd s.1 m 0 s.2.2 (-9))), some (.int (nI m))]) i166_149 rfl rfl (by decide) rfl ?_
      refine ev_goto (t := 36) i166_152 (by decide) ?_
      have ea : chnL m y (HE n) sd kd s.1 s.2.2 (d + 1) wd a = chnL m y (HE n) sd kd s.1 s.2.2 d (wd + 1) (a) := by
        conv => lhs; unfold chnL
        rw [if_neg z137]
      rw [ea]
      exact lq166 b3 b4 b5 b6 hm hy d (wd + 1) _ (al + wgt m y wd) H3 g3 (by omega) (by omega) hw hC3 hL3 hO3 _ _ _
    · refine ev_iload i166_140 rfl ?_
      refine ev_goto (t := 146) i166_142 (by decide) ?_
      refine evn_iadd i166_146 ?_
      skip
      refine ev_istore (L' := [some (.ref 111), some (.int (nI m)), some (.int (nI y)), some (.int (bI u)), some (.int (nI (a + (wgt m y wd)))), some (.int (nI (al + (wgt m y wd)))), some (.int (nI wd)), some (.int (nI (wgt m y wd))), some (.int (snwX wd (HE n) sd kd s.1 m 0 s.2.2 (-9))), some (.int (nI m))]) i166_147 ⟨Nat.le_of_ble_eq_true rfl, rfl⟩ rfl ?_
      refine evn_iinc (d := 1) (L' := [some (.ref 111), some (.int (nI m)), some (.int (nI y)), some (.int (bI u)), some (.int (nI (a + (wgt m y wd)))), some (.int (nI (al + (wgt m y wd)))), some (.int (nI (wd + 1))), some (.int (nI (wgt m y wd))), some (.int (snwX wd (HE n) sd kd s.1 m 0 s.2.2 (-9))), some (.int (nI m))]) i166_149 rfl rfl (by decide) rfl ?_
      refine ev_goto (t := 36) i166_152 (by decide) ?_
      have ea : chnL m y (HE n) sd kd s.1 s.2.2 (d + 1) wd a = chnL m y (HE n) sd kd s.1 s.2.2 d (wd + 1) (a + (wgt m y wd)) := by
        conv => lhs; unfold chnL
        rw [if_pos z137]
      rw [ea]
      exact lq166 b3 b4 b5 b6 hm hy d (wd + 1) _ (al + wgt m y wd) H3 g3 (by omega) (by omega) hw hC3 hL3 hO3 _ _ _
theorem inM_n {k a b : Nat} (h1 : a ≤ k) (h2 : k ≤ b) (hb : b < 2147483648) : inM (nI k) a b = true := decide_eq_true ⟨(nI_leI (by omega) (by omega)).mpr h1, (nI_leI (by omega) (by omega)).mpr h2⟩
theorem y166 {tb : dxT} {H : dxH} {tx : Nat → Nat} {ln n : Nat} {sd kd : Nat → Nat} {s : Sn} {am : Nat} {stk : Nat → Sn} {kp : Nat → Bool} {ks : Nat → Sn} {tm : Nat} {tc th : Nat → Nat} {td : Nat → Bool} {sed : Int64} {m y : Nat} {u : Bool} (hI : MInv H tx ln n sd kd s am stk kp ks tm tc th td sed) (hS : SpOK tx ln n sd kd s am stk kp ks tm tc th) (hm1 : 1 ≤ m) (hm : m ≤ 6) (hy : y ≤ 10) : Cl tb 166 [.ref 111, .int (nI m), .int (nI y), .int (bI u)] H (fun r H' => r = some (.int (chnI n m y sd kd s u)) ∧ MInv H' tx ln n sd kd s am stk kp ks tm tc th td sed ∧ Off mC H H') := by
  obtain ⟨f, g, nx, ⟨hC, hL, e3, e6, e7, e8, hnx⟩, hR⟩ := id hI
  obtain ⟨⟨b1, b2⟩, b3, b4, b5, b6, b7, b8, b9, b10, b11⟩ := id hS
  obtain ⟨c0, ⟨ms, mk, c1, c2, c3, c4⟩, c5⟩ := id hC
  unfold mOb at c0
  show Ev tb 166 0 [some (.ref 111), some (.int (nI m)), some (.int (nI y)), some (.int (bI u)), none, none, none, none, none, none] [] H _
  refine ev_iload_n i166_0 rfl ?_
  refine ev_i2l i166_1 ?_
  refine ev_lconst (v := 1) i166_2 (by decide) ?_
  refine ev_ldc2 i166_3 ci166 ks8_186 ?_
  refine ev_callS (vs := [.long ((nI m).toInt64), .long 1, .long 6]) (rest := []) i166_6 ci166 lk8_62 (Or.inl rfl) np117 (by decide +kernel) (Nat.le_of_ble_eq_true rfl) ⟨rfl, rfl, Nat.le_of_ble_eq_true rfl⟩ rfl (c117) (fun r HH hq => ?_)
  obtain ⟨rfl, rfl⟩ := hq
  rw [inJ_M (x := (nI m)) (a := 1) (b := 6) (by decide) (by decide) (by decide) (by decide), inM_n hm1 hm (by decide)]
  show Ev tb 166 9 [some (.ref 111), some (.int (nI m)), some (.int (nI y)), some (.int (bI u)), none, none, none, none, none, none] [.int (bI true)] H _
  refine evb_if_eq (t := 24) i166_9 (by decide) (fun z9 => by exfalso; cases z9) (fun z9 => ?_)
  refine ev_iload_n i166_12 rfl ?_
  refine ev_i2l i166_13 ?_
  refine ev_lconst (v := 0) i166_14 (by decide) ?_
  refine ev_ldc2 i166_15 ci166 ks8_188 ?_
  refine ev_callS (vs := [.long ((nI y).toInt64), .long 0, .long 10]) (rest := []) i166_18 ci166 lk8_62 (Or.inl rfl) np117 (by decide +kernel) (Nat.le_of_ble_eq_true rfl) ⟨rfl, rfl, Nat.le_of_ble_eq_true rfl⟩ rfl (c117) (fun r HH hq => ?_)
  obtain ⟨rfl, rfl⟩ := hq
  rw [inJ_M (x := (nI y)) (a := 0) (b := 10) (by decide) (by decide) (by decide) (by decide), inM_n (by omega) hy (by decide)]
  show Ev tb 166 21 [some (.ref 111), some (.int (nI m)), some (.int (nI y)), some (.int (bI u)), none, none, none, none, none, none] [.int (bI true)] H _
  refine evb_if_ne (t := 27) i166_21 (by decide) (fun z21 => ?_) (fun z21 => by exfalso; cases z21)
  refine ev_iconst (v := nI 0) i166_27 (by decide) ?_
  refine ev_istore (L' := [some (.ref 111), some (.int (nI m)), some (.int (nI y)), some (.int (bI u)), some (.int (nI 0)), none, none, none, none, none]) i166_28 ⟨Nat.le_of_ble_eq_true rfl, rfl⟩ rfl ?_
  refine ev_iconst (v := nI 0) i166_30 (by decide) ?_
  refine ev_istore (L' := [some (.ref 111), some (.int (nI m)), some (.int (nI y)), some (.int (bI u)), some (.int (nI 0)), some (.int (nI 0)), none, none, none, none]) i166_31 ⟨Nat.le_of_ble_eq_true rfl, rfl⟩ rfl ?_
  refine ev_iconst (v := nI 0) i166_33 (by decide) ?_
  refine ev_istore (L' := [some (.ref 111), some (.int (nI m)), some (.int (nI y)), some (.int (bI u)), some (.int (nI 0)), some (.int (nI 0)), some (.int (nI 0)), none, none, none]) i166_34 ⟨Nat.le_of_ble_eq_true rfl, rfl⟩ rfl ?_
  refine (lq166 b3 b4 b5 b6 hm hy (2 ^ m) 0 0 0 H g (by omega) (by omega) (wsm_eq m (by omega) y (by omega)) hC hL Off.rf _ _ _).post (fun r H' hq2 => ?_)
  obtain ⟨h1, g2, hC2, hL2, hO2⟩ := hq2
  exact ⟨h1, MInv.tr (H := H) hC2 hL2 ⟨e3, e6, e7, e8, hnx⟩ hR hO2⟩
theorem y166f {tb : dxT} {H : dxH} {tx : Nat → Nat} {ln n : Nat} {sd kd : Nat → Nat} {s : Sn} {am : Nat} {stk : Nat → Sn} {kp : Nat → Bool} {ks : Nat → Sn} {tm : Nat} {tc th : Nat → Nat} {td : Nat → Bool} {sed : Int64} {x y : Int32} {u : Bool} (hI : MInv H tx ln n sd kd s am stk kp ks tm tc th td sed) (hS : SpOK tx ln n sd kd s am stk kp ks tm tc th) (h : inM x 1 6 = false) : Cl tb 166 [.ref 111, .int x, .int y, .int (bI u)] H (fun r H' => r = some (.int (-2)) ∧ MInv H' tx ln n sd kd s am stk kp ks tm tc th td sed ∧ Off mC H H') := by
  obtain ⟨f, g, nx, ⟨hC, hL, e3, e6, e7, e8, hnx⟩, hR⟩ := id hI
  obtain ⟨⟨b1, b2⟩, b3, b4, b5, b6, b7, b8, b9, b10, b11⟩ := id hS
  obtain ⟨c0, ⟨ms, mk, c1, c2, c3, c4⟩, c5⟩ := id hC
  unfold mOb at c0
  show Ev tb 166 0 [some (.ref 111), some (.int x), some (.int y), some (.int (bI u)), none, none, none, none, none, none] [] H _
  refine ev_iload_n i166_0 rfl ?_
  refine ev_i2l i166_1 ?_
  refine ev_lconst (v := 1) i166_2 (by decide) ?_
  refine ev_ldc2 i166_3 ci166 ks8_186 ?_
  refine ev_callS (vs := [.long x.toInt64, .long 1, .long 6]) (rest := []) i166_6 ci166 lk8_62 (Or.inl rfl) np117 (by decide +kernel) (Nat.le_of_ble_eq_true rfl) ⟨rfl, rfl, Nat.le_of_ble_eq_true rfl⟩ rfl (c117) (fun r HH hq => ?_)
  obtain ⟨rfl, rfl⟩ := hq
  rw [inJ_M (x := x) (a := 1) (b := 6) (by decide) (by decide) (by decide) (by decide), h]
  show Ev tb 166 9 [some (.ref 111), some (.int x), some (.int y), some (.int (bI u)), none, none, none, none, none, none] [.int (bI false)] H _
  refine evb_if_eq (t := 24) i166_9 (by decide) (fun z9 => ?_) (fun z9 => by exfalso; cases z9)
  refine ev_bipush (v := (-2)) i166_24 (by decide) ?_
  refine ev_iret i166_26 (by decide +kernel) ?_
  exact ⟨rfl, hI, Off.rf⟩
theorem y166o {tb : dxT} {H : dxH} {tx : Nat → Nat} {ln n : Nat} {sd kd : Nat → Nat} {s : Sn} {am : Nat} {stk : Nat → Sn} {kp : Nat → Bool} {ks : Nat → Sn} {tm : Nat} {tc th : Nat → Nat} {td : Nat → Bool} {sed : Int64} {m : Nat} {y : Int32} {u : Bool} (hI : MInv H tx ln n sd kd s am stk kp ks tm tc th td sed) (hS : SpOK tx ln n sd kd s am stk kp ks tm tc th) (hm1 : 1 ≤ m) (hm : m ≤ 6) (h : inM y 0 10 = false) : Cl tb 166 [.ref 111, .int (nI m), .int y, .int (bI u)] H (fun r H' => r = some (.int (-2)) ∧ MInv H' tx ln n sd kd s am stk kp ks tm tc th td sed ∧ Off mC H H') := by
  obtain ⟨f, g, nx, ⟨hC, hL, e3, e6, e7, e8, hnx⟩, hR⟩ := id hI
  obtain ⟨⟨b1, b2⟩, b3, b4, b5, b6, b7, b8, b9, b10, b11⟩ := id hS
  obtain ⟨c0, ⟨ms, mk, c1, c2, c3, c4⟩, c5⟩ := id hC
  unfold mOb at c0
  show Ev tb 166 0 [some (.ref 111), some (.int (nI m)), some (.int y), some (.int (bI u)), none, none, none, none, none, none] [] H _
  refine ev_iload_n i166_0 rfl ?_
  refine ev_i2l i166_1 ?_
  refine ev_lconst (v := 1) i166_2 (by decide) ?_
  refine ev_ldc2 i166_3 ci166 ks8_186 ?_
  refine ev_callS (vs := [.long ((nI m).toInt64), .long 1, .long 6]) (rest := []) i166_6 ci166 lk8_62 (Or.inl rfl) np117 (by decide +kernel) (Nat.le_of_ble_eq_true rfl) ⟨rfl, rfl, Nat.le_of_ble_eq_true rfl⟩ rfl (c117) (fun r HH hq => ?_)
  obtain ⟨rfl, rfl⟩ := hq
  rw [inJ_M (x := (nI m)) (a := 1) (b := 6) (by decide) (by decide) (by decide) (by decide), inM_n hm1 hm (by decide)]
  show Ev tb 166 9 [some (.ref 111), some (.int (nI m)), some (.int y), some (.int (bI u)), none, none, none, none, none, none] [.int (bI true)] H _
  refine evb_if_eq (t := 24) i166_9 (by decide) (fun z9 => by exfalso; cases z9) (fun z9 => ?_)
  refine ev_iload_n i166_12 rfl ?_
  refine ev_i2l i166_13 ?_
  refine ev_lconst (v := 0) i166_14 (by decide) ?_
  refine ev_ldc2 i166_15 ci166 ks8_188 ?_
  refine ev_callS (vs := [.long y.toInt64, .long 0, .long 10]) (rest := []) i166_18 ci166 lk8_62 (Or.inl rfl) np117 (by decide +kernel) (Nat.le_of_ble_eq_true rfl) ⟨rfl, rfl, Nat.le_of_ble_eq_true rfl⟩ rfl (c117) (fun r HH hq => ?_)
  obtain ⟨rfl, rfl⟩ := hq
  rw [inJ_M (x := y) (a := 0) (b := 10) (by decide) (by decide) (by decide) (by decide), h]
  show Ev tb 166 21 [some (.ref 111), some (.int (nI m)), some (.int y), some (.int (bI u)), none, none, none, none, none, none] [.int (bI false)] H _
  refine evb_if_ne (t := 27) i166_21 (by decide) (fun z21 => by exfalso; cases z21) (fun z21 => ?_)
  refine ev_bipush (v := (-2)) i166_24 (by decide) ?_
  refine ev_iret i166_26 (by decide +kernel) ?_
  exact ⟨rfl, hI, Off.rf⟩
theorem lq168 {tb : dxT} {H : dxH} {n : Nat} {f : Nat → Int32} {sd kd : Nat → Nat} {s : Sn} {m : Nat} (b3 : n ≤ 6) (b4 : ∀ j, sd j < 2) (b5 : ∀ j, kd j < 4) (b6 : SnOK n s) (hm : m ≤ 30) : ∀ (d k : Nat) (z : Int64) (sn : Bool) (x : Hs) (H1 : dxH) (g : Nat → Int32), k + d = m → MC H1 n f z sd kd g → LvS g 0 n s → Lv g (27 * 1) n s.1 sn x → SOK x → Off (fun j => j = 111 ∨ j = 114) H H1 → ∀ w3, Ev tb 168 21 [some (.ref 111), some (.int (nI m)), some (.int (nI k)), w3] [] H1 (fun r H' => r = some (.int (sumA (sumL (HE n) sd kd s.1 d z x) s)) ∧ ∃ g', MC H' n f (sumL (HE n) sd kd s.1 d z x).1 sd kd g' ∧ LvS g' 0 n s ∧ Off (fun j => j = 111 ∨ j = 114) H H')
  | 0, k, z, sn, x, H1, g, hk, hC, hL, hT, hx, hO, w3 => by
    obtain rfl : k = m := by omega
    obtain ⟨c0, ⟨ms, mk, c1, c2, c3, c4⟩, c5⟩ := id hC
    unfold mOb at c0
    refine ev_iload_n i168_21 rfl ?_
    refine ev_iload_n i168_22 rfl ?_
    refine evn_icmp_ge (t := 127) i168_23 (by decide) (by omega) (fun z23 => ?_) (fun z23 => by exfalso; omega)
    refine ev_sipush (v := nI 1000) i168_127 (by decide) ?_
    refine ev_aload_n i168_130 rfl ?_
    refine ev_get i168_131 ci168 fl8_16 (by assumption) rfl ?_
    refine ev_bipush (v := nI 50) i168_134 (by decide) ?_
    refine ev_iald_n i168_136 (by assumption) (by omega) ?_
    have hh : g 50 = x.2.2.1 0 := hT.2.2.2.2.1 0 (by decide)
    rw [hh]
    refine ev_iadd i168_137 ?_
    refine ev_aload_n i168_138 rfl ?_
    refine ev_get i168_139 ci168 fl8_16 (by assumption) rfl ?_
    refine ev_bipush (v := nI 23) i168_142 (by decide) ?_
    refine ev_iald_n i168_144 (by assumption) (by omega) ?_
    have hh : g 23 = s.2.2.2.2.1 0 := hL.2.2.2.2.1 0 (by decide)
    rw [hh]
    refine ev_isub i168_145 ?_
    refine ev_aload_n i168_146 rfl ?_
    refine ev_get i168_147 ci168 fl8_16 (by assumption) rfl ?_
    refine ev_bipush (v := nI 51) i168_150 (by decide) ?_
    refine ev_iald_n i168_152 (by assumption) (by omega) ?_
    have hh : g 51 = x.2.2.1 1 := hT.2.2.2.2.1 1 (by decide)
    rw [hh]
    refine ev_aload_n i168_153 rfl ?_
    refine ev_get i168_154 ci168 fl8_16 (by assumption) rfl ?_
    refine ev_bipush (v := nI 24) i168_157 (by decide) ?_
    refine ev_iald_n i168_159 (by assumption) (by omega) ?_
    have hh : g 24 = s.2.2.2.2.1 1 := hL.2.2.2.2.1 1 (by decide)
    rw [hh]
    refine ev_isub i168_160 ?_
    refine ev_isub i168_161 ?_
    refine ev_iret i168_162 (by decide +kernel) ?_
    rw [sum_re]
    exact ⟨rfl, g, hC, hL, hO⟩
  | d + 1, k, z, sn, x, H1, g, hk, hC, hL, hT, hx, hO, w3 => by
    obtain ⟨c0, ⟨ms, mk, c1, c2, c3, c4⟩, c5⟩ := id hC
    unfold mOb at c0
    refine ev_iload_n i168_21 rfl ?_
    refine ev_iload_n i168_22 rfl ?_
    refine evn_icmp_ge (t := 127) i168_23 (by decide) (by omega) (fun z23 => by exfalso; omega) (fun z23 => ?_)
    refine ev_aload_n i168_26 rfl ?_
    refine ev_aload_n i168_27 rfl ?_
    refine ev_get i168_28 ci168 fl8_190 (by assumption) rfl ?_
    refine ev_ldc2 i168_31 ci168 ks8_196 ?_
    refine ev_lmul i168_34 ?_
    refine ev_ldc2 i168_35 ci168 ks8_198 ?_
    refine ev_ladd i168_38 ?_
    refine evs_put (fs' := [.int (nI n), .ref 112, .ref 113, .ref 114, .ref 115, .ref 116, .ref 117, .int (f 0), .int (f 1), .int (f 2), .ref 118, .int (f 3), .int (f 4), .int (f 5), .int (f 6), .int (f 7), .ref 119, .ref 120, .int (f 8), .ref 121, .ref 122, .ref 123, .ref 124, .long ((z * 6364136223846793005) + 1442695040888963407), .ref 125, .ref 126]) i168_39 ci168 fl8_190 (by assumption) ⟨Nat.le_of_ble_eq_true rfl, rfl, Or.inl rfl⟩ rfl (fun H2 hH2 => ?_)
    have c0 : H2[111]? = some (.inr (8, [.int (nI n), .ref 112, .ref 113, .ref 114, .ref 115, .ref 116, .ref 117, .int (f 0), .int (f 1), .int (f 2), .ref 118, .int (f 3), .int (f 4), .int (f 5), .int (f 6), .int (f 7), .ref 119, .ref 120, .int (f 8), .ref 121, .ref 122, .ref 123, .ref 124, .long ((z * 6364136223846793005) + 1442695040888963407), .ref 125, .ref 126])) := by rw [hH2]; exact set_self c0
    have c1 : H2[112]? = some (.inl (0, 6, .inl ms)) := by rw [hH2]; exact set_ne c1 (by omega)
    have c3 : H2[113]? = some (.inl (0, 6, .inl mk)) := by rw [hH2]; exact set_ne c3 (by omega)
    have c5 : H2[114]? = some (.inl (0, 54, .inl g)) := by rw [hH2]; exact set_ne c5 (by omega)
    have hO : Off (fun j => j = 111 ∨ j = 114) H H2 := by rw [hH2]; exact hO.set (by first | exact Or.inl rfl | exact Or.inr rfl)
    refine ev_aload_n i168_42 rfl ?_
    refine ev_get i168_43 ci168 fl8_190 (by assumption) rfl ?_
    refine ev_bipush (v := nI 33) i168_46 (by decide) ?_
    refine ev_lushr i168_48 ?_
    refine ev_ldc2 i168_49 ci168 ks8_200 ?_
    refine ev_lrem i168_52 (by decide) ?_
    refine ev_l2i i168_53 ?_
    have hj20 := lftN_lt (sdN z)
    have hx9 := hx.1 (lftN (sdN z))
    show Ev tb 168 54 _ [.int (lftE (sdN z))] _ _
    rw [lftN_eq]
    refine ev_istore_n (L' := [some (.ref 111), some (.int (nI m)), some (.int (nI k)), some (.int (nI (lftN (sdN z))))]) i168_54 ⟨Nat.le_of_ble_eq_true rfl, rfl⟩ rfl ?_
    refine ev_iload_n i168_55 rfl ?_
    refine ev_bipush (v := nI 10) i168_56 (by decide) ?_
    refine evn_icmp_ge (t := 88) i168_58 (by decide) (by omega) (fun z58 => ?_) (fun z58 => ?_)
    · have ec : smC (sdN z) x.1 = x.1 := by unfold smC; exact if_neg (fun q => by omega)
      have hT : Lv g (27 * 1) n s.1 sn (smC (sdN z) x.1, x.2) := by
        rw [ec]
        exact hT
      refine ev_aload_n i168_88 rfl ?_
      refine ev_get i168_89 ci168 fl8_16 (by assumption) rfl ?_
      refine ev_bipush (v := nI 49) i168_92 (by decide) ?_
      refine ev_iload_n i168_94 rfl ?_
      refine ev_bipush (v := nI 10) i168_95 (by decide) ?_
      refine evn_icmp_eq (t := 106) i168_97 (by decide) (by omega) (fun z97 => ?_) (fun z97 => ?_)
      · refine ev_iconst (v := nI 1) i168_106 (by decide) ?_
        refine ev_goto (t := 111) i168_107 (by decide) ?_
        refine evs_iastw i168_111 (by assumption) (by omega) (fun H3 hH3 => ?_)
        have c0 : H3[111]? = some (.inr (8, [.int (nI n), .ref 112, .ref 113, .ref 114, .ref 115, .ref 116, .ref 117, .int (f 0), .int (f 1), .int (f 2), .ref 118, .int (f 3), .int (f 4), .int (f 5), .int (f 6), .int (f 7), .ref 119, .ref 120, .int (f 8), .ref 121, .ref 122, .ref 123, .ref 124, .long ((z * 6364136223846793005) + 1442695040888963407), .ref 125, .ref 126])) := by rw [hH3]; exact set_ne c0 (by omega)
        have c1 : H3[112]? = some (.inl (0, 6, .inl ms)) := by rw [hH3]; exact set_ne c1 (by omega)
        have c3 : H3[113]? = some (.inl (0, 6, .inl mk)) := by rw [hH3]; exact set_ne c3 (by omega)
        have c5 : H3[114]? = some (.inl (0, 54, .inl (upd g 49 (nI 1)))) := by rw [hH3]; exact set_self c5
        have hO : Off (fun j => j = 111 ∨ j = 114) H H3 := by rw [hH3]; exact hO.set (by first | exact Or.inl rfl | exact Or.inr rfl)
        have hC : MC H3 n f (sdN z) sd kd (upd g 49 (nI 1)) := ⟨c0, ⟨ms, mk, c1, c2, c3, c4⟩, c5⟩
        have hL : LvS (upd g 49 (nI 1)) 0 n s := hL.of0 b3 (ofL.rf.up (by omega))
        have hT : Lv (upd g 49 (nI 1)) (27 * 1) n s.1 true (smC (sdN z) x.1, x.2) := hT.sn (b := true) b3
        refine ev_aload_n i168_112 rfl ?_
        refine ev_iconst (v := nI 1) i168_113 (by decide) ?_
        refine ev_bipush (v := nI 63) i168_114 (by decide) ?_
        refine ev_iconst (v := nI 0) i168_116 (by decide) ?_
        refine ev_callV (vs := [.int (nI 1), .int (nI 63), .int (nI 0)]) (rest := []) i168_117 ci168 lk8_132 (congrArg (fun q => q + 1) np135) ci135 (by decide) (by decide +kernel) (Nat.le_of_ble_eq_true rfl) ⟨rfl, rfl, Nat.le_of_ble_eq_true rfl⟩ rfl (by assumption) (c135 (rg := false) b3 b4 b5 b6.1 (by decide) (by decide) hC hT (smC_ok hx)) (fun r H4 hq => ?_)
        obtain ⟨rfl, g4, hC, hT, hG4, hO4⟩ := hq
        rw [and63 n (by omega)] at hT
        rw [and63 n (by omega)]
        have hL := hL.of0 b3 hG4
        obtain ⟨c0, ⟨ms, mk, c1, c2, c3, c4⟩, c5⟩ := id hC
        unfold mOb at c0
        have hO := hO.trans hO4 (C := (fun j => j = 111 ∨ j = 114)) (fun _ q => q) (fun _ q => Or.inr q)
        show Ev tb 168 120 [some (.ref 111), some (.int (nI m)), some (.int (nI k)), some (.int (nI (lftN (sdN z))))] [.int (nI (srtF (HE n) kd (smC (sdN z) x.1, x.2).2.1 true false))] H4 _
        refine ev_pop i168_120 rfl ?_
        refine evn_iinc (d := 1) (L' := [some (.ref 111), some (.int (nI m)), some (.int (nI (k + 1))), some (.int (nI (lftN (sdN z))))]) i168_121 rfl rfl (by decide) rfl ?_
        refine ev_goto (t := 21) i168_124 (by decide) ?_
        have hs : smS (sdN z) = true := by
          unfold smS
          exact decide_eq_true (by omega)
        have el : sumL (HE n) sd kd s.1 (d + 1) z x = sumL (HE n) sd kd s.1 d (sdN z) (hrF (HE n) sd kd s.1 true false (smC (sdN z) x.1, x.2)) := by
          conv => lhs; unfold sumL
          rw [hs]
        rw [el]
        exact lq168 b3 b4 b5 b6 hm d (k + 1) _ _ _ _ _ (by omega) hC hL hT (hrF_ok b6.1 b4 (smC_ok hx)) hO _
      · refine ev_iload_n i168_100 rfl ?_
        refine ev_bipush (v := nI 11) i168_101 (by decide) ?_
        refine evn_icmp_ne (t := 110) i168_103 (by decide) (by omega) (fun z103 => ?_) (fun z103 => ?_)
        · refine ev_iconst (v := nI 0) i168_110 (by decide) ?_
          refine evs_iastw i168_111 (by assumption) (by omega) (fun H3 hH3 => ?_)
          have c0 : H3[111]? = some (.inr (8, [.int (nI n), .ref 112, .ref 113, .ref 114, .ref 115, .ref 116, .ref 117, .int (f 0), .int (f 1), .int (f 2), .ref 118, .int (f 3), .int (f 4), .int (f 5), .int (f 6), .int (f 7), .ref 119, .ref 120, .int (f 8), .ref 121, .ref 122, .ref 123, .ref 124, .long ((z * 6364136223846793005) + 1442695040888963407), .ref 125, .ref 126])) := by rw [hH3]; exact set_ne c0 (by omega)
          have c1 : H3[112]? = some (.inl (0, 6, .inl ms)) := by rw [hH3]; exact set_ne c1 (by omega)
          have c3 : H3[113]? = some (.inl (0, 6, .inl mk)) := by rw [hH3]; exact set_ne c3 (by omega)
          have c5 : H3[114]? = some (.inl (0, 54, .inl (upd g 49 (nI 0)))) := by rw [hH3]; exact set_self c5
          have hO : Off (fun j => j = 111 ∨ j = 114) H H3 := by rw [hH3]; exact hO.set (by first | exact Or.inl rfl | exact Or.inr rfl)
          have hC : MC H3 n f (sdN z) sd kd (upd g 49 (nI 0)) := ⟨c0, ⟨ms, mk, c1, c2, c3, c4⟩, c5⟩
          have hL : LvS (upd g 49 (nI 0)) 0 n s := hL.of0 b3 (ofL.rf.up (by omega))
          have hT : Lv (upd g 49 (nI 0)) (27 * 1) n s.1 false (smC (sdN z) x.1, x.2) := hT.sn (b := false) b3
          refine ev_aload_n i168_112 rfl ?_
          refine ev_iconst (v := nI 1) i168_113 (by decide) ?_
          refine ev_bipush (v := nI 63) i168_114 (by decide) ?_
          refine ev_iconst (v := nI 0) i168_116 (by decide) ?_
          refine ev_callV (vs := [.int (nI 1), .int (nI 63), .int (nI 0)]) (rest := []) i168_117 ci168 lk8_132 (congrArg (fun q => q + 1) np135) ci135 (by decide) (by decide +kernel) (Nat.le_of_ble_eq_true rfl) ⟨rfl, rfl, Nat.le_of_ble_eq_true rfl⟩ rfl (by assumption) (c135 (rg := false) b3 b4 b5 b6.1 (by decide) (by decide) hC hT (smC_ok hx)) (fun r H4 hq => ?_)
          obtain ⟨rfl, g4, hC, hT, hG4, hO4⟩ := hq
          rw [and63 n (by omega)] at hT
          rw [and63 n (by omega)]
          have hL := hL.of0 b3 hG4
          obtain ⟨c0, ⟨ms, mk, c1, c2, c3, c4⟩, c5⟩ := id hC
          unfold mOb at c0
          have hO := hO.trans hO4 (C := (fun j => j = 111 ∨ j = 114)) (fun _ q => q) (fun _ q => Or.inr q)
          show Ev tb 168 120 [some (.ref 111), some (.int (nI m)), some (.int (nI k)), some (.int (nI (lftN (sdN z))))] [.int (nI (srtF (HE n) kd (smC (sdN z) x.1, x.2).2.1 false false))] H4 _
          refine ev_pop i168_120 rfl ?_
          refine evn_iinc (d := 1) (L' := [some (.ref 111), some (.int (nI m)), some (.int (nI (k + 1))), some (.int (nI (lftN (sdN z))))]) i168_121 rfl rfl (by decide) rfl ?_
          refine ev_goto (t := 21) i168_124 (by decide) ?_
          have hs : smS (sdN z) = false := by
            unfold smS
            exact decide_eq_false (by omega)
          have el : sumL (HE n) sd kd s.1 (d + 1) z x = sumL (HE n) sd kd s.1 d (sdN z) (hrF (HE n) sd kd s.1 false false (smC (sdN z) x.1, x.2)) := by
            conv => lhs; unfold sumL
            rw [hs]
          rw [el]
          exact lq168 b3 b4 b5 b6 hm d (k + 1) _ _ _ _ _ (by omega) hC hL hT (hrF_ok b6.1 b4 (smC_ok hx)) hO _
        · refine ev_iconst (v := nI 1) i168_106 (by decide) ?_
          refine ev_goto (t := 111) i168_107 (by decide) ?_
          refine evs_iastw i168_111 (by assumption) (by omega) (fun H3 hH3 => ?_)
          have c0 : H3[111]? = some (.inr (8, [.int (nI n), .ref 112, .ref 113, .ref 114, .ref 115, .ref 116, .ref 117, .int (f 0), .int (f 1), .int (f 2), .ref 118, .int (f 3), .int (f 4), .int (f 5), .int (f 6), .int (f 7), .ref 119, .ref 120, .int (f 8), .ref 121, .ref 122, .ref 123, .ref 124, .long ((z * 6364136223846793005) + 1442695040888963407), .ref 125, .ref 126])) := by rw [hH3]; exact set_ne c0 (by omega)
          have c1 : H3[112]? = some (.inl (0, 6, .inl ms)) := by rw [hH3]; exact set_ne c1 (by omega)
          have c3 : H3[113]? = some (.inl (0, 6, .inl mk)) := by rw [hH3]; exact set_ne c3 (by omega)
          have c5 : H3[114]? = some (.inl (0, 54, .inl (upd g 49 (nI 1)))) := by rw [hH3]; exact set_self c5
          have hO : Off (fun j => j = 111 ∨ j = 114) H H3 := by rw [hH3]; exact hO.set (by first | exact Or.inl rfl | exact Or.inr rfl)
          have hC : MC H3 n f (sdN z) sd kd (upd g 49 (nI 1)) := ⟨c0, ⟨ms, mk, c1, c2, c3, c4⟩, c5⟩
          have hL : LvS (upd g 49 (nI 1)) 0 n s := hL.of0 b3 (ofL.rf.up (by omega))
          have hT : Lv (upd g 49 (nI 1)) (27 * 1) n s.1 true (smC (sdN z) x.1, x.2) := hT.sn (b := true) b3
          refine ev_aload_n i168_112 rfl ?_
          refine ev_iconst (v := nI 1) i168_113 (by decide) ?_
          refine ev_bipush (v := nI 63) i168_114 (by decide) ?_
          refine ev_iconst (v := nI 0) i168_116 (by decide) ?_
          refine ev_callV (vs := [.int (nI 1), .int (nI 63), .int (nI 0)]) (rest := []) i168_117 ci168 lk8_132 (congrArg (fun q => q + 1) np135) ci135 (by decide) (by decide +kernel) (Nat.le_of_ble_eq_true rfl) ⟨rfl, rfl, Nat.le_of_ble_eq_true rfl⟩ rfl (by assumption) (c135 (rg := false) b3 b4 b5 b6.1 (by decide) (by decide) hC hT (smC_ok hx)) (fun r H4 hq => ?_)
          obtain ⟨rfl, g4, hC, hT, hG4, hO4⟩ := hq
          rw [and63 n (by omega)] at hT
          rw [and63 n (by omega)]
          have hL := hL.of0 b3 hG4
          obtain ⟨c0, ⟨ms, mk, c1, c2, c3, c4⟩, c5⟩ := id hC
          unfold mOb at c0
          have hO := hO.trans hO4 (C := (fun j => j = 111 ∨ j = 114)) (fun _ q => q) (fun _ q => Or.inr q)
          show Ev tb 168 120 [some (.ref 111), some (.int (nI m)), some (.int (nI k)), some (.int (nI (lftN (sdN z))))] [.int (nI (srtF (HE n) kd (smC (sdN z) x.1, x.2).2.1 true false))] H4 _
          refine ev_pop i168_120 rfl ?_
          refine evn_iinc (d := 1) (L' := [some (.ref 111), some (.int (nI m)), some (.int (nI (k + 1))), some (.int (nI (lftN (sdN z))))]) i168_121 rfl rfl (by decide) rfl ?_
          refine ev_goto (t := 21) i168_124 (by decide) ?_
          have hs : smS (sdN z) = true := by
            unfold smS
            exact decide_eq_true (by omega)
          have el : sumL (HE n) sd kd s.1 (d + 1) z x = sumL (HE n) sd kd s.1 d (sdN z) (hrF (HE n) sd kd s.1 true false (smC (sdN z) x.1, x.2)) := by
            conv => lhs; unfold sumL
            rw [hs]
          rw [el]
          exact lq168 b3 b4 b5 b6 hm d (k + 1) _ _ _ _ _ (by omega) hC hL hT (hrF_ok b6.1 b4 (smC_ok hx)) hO _
    · refine ev_aload_n i168_61 rfl ?_
      refine ev_get i168_62 ci168 fl8_16 (by assumption) rfl ?_
      refine ev_bipush (v := nI 27) i168_65 (by decide) ?_
      refine ev_iload_n i168_67 rfl ?_
      refine evn_iadd i168_68 ?_
      refine ev_iald_n i168_69 (by assumption) (by omega) ?_
      have hcl : g (27 + lftN (sdN z)) = nI (x.1 (lftN (sdN z))) := hT.1 _ (by omega)
      rw [hcl]
      refine ev_bipush (v := nI 9) i168_70 (by decide) ?_
      refine evn_icmp_ge (t := 88) i168_72 (by decide) (by omega) (fun z72 => ?_) (fun z72 => ?_)
      · have ec : smC (sdN z) x.1 = x.1 := by unfold smC; exact if_neg (fun q => by omega)
        have hT : Lv g (27 * 1) n s.1 sn (smC (sdN z) x.1, x.2) := by
          rw [ec]
          exact hT
        refine ev_aload_n i168_88 rfl ?_
        refine ev_get i168_89 ci168 fl8_16 (by assumption) rfl ?_
        refine ev_bipush (v := nI 49) i168_92 (by decide) ?_
        refine ev_iload_n i168_94 rfl ?_
        refine ev_bipush (v := nI 10) i168_95 (by decide) ?_
        refine evn_icmp_eq (t := 106) i168_97 (by decide) (by omega) (fun z97 => ?_) (fun z97 => ?_)
        · refine ev_iconst (v := nI 1) i168_106 (by decide) ?_
          refine ev_goto (t := 111) i168_107 (by decide) ?_
          refine evs_iastw i168_111 (by assumption) (by omega) (fun H3 hH3 => ?_)
          have c0 : H3[111]? = some (.inr (8, [.int (nI n), .ref 112, .ref 113, .ref 114, .ref 115, .ref 116, .ref 117, .int (f 0), .int (f 1), .int (f 2), .ref 118, .int (f 3), .int (f 4), .int (f 5), .int (f 6), .int (f 7), .ref 119, .ref 120, .int (f 8), .ref 121, .ref 122, .ref 123, .ref 124, .long ((z * 6364136223846793005) + 1442695040888963407), .ref 125, .ref 126])) := by rw [hH3]; exact set_ne c0 (by omega)
          have c1 : H3[112]? = some (.inl (0, 6, .inl ms)) := by rw [hH3]; exact set_ne c1 (by omega)
          have c3 : H3[113]? = some (.inl (0, 6, .inl mk)) := by rw [hH3]; exact set_ne c3 (by omega)
          have c5 : H3[114]? = some (.inl (0, 54, .inl (upd g 49 (nI 1)))) := by rw [hH3]; exact set_self c5
          have hO : Off (fun j => j = 111 ∨ j = 114) H H3 := by rw [hH3]; exact hO.set (by first | exact Or.inl rfl | exact Or.inr rfl)
          have hC : MC H3 n f (sdN z) sd kd (upd g 49 (nI 1)) := ⟨c0, ⟨ms, mk, c1, c2, c3, c4⟩, c5⟩
          have hL : LvS (upd g 49 (nI 1)) 0 n s := hL.of0 b3 (ofL.rf.up (by omega))
          have hT : Lv (upd g 49 (nI 1)) (27 * 1) n s.1 true (smC (sdN z) x.1, x.2) := hT.sn (b := true) b3
          refine ev_aload_n i168_112 rfl ?_
          refine ev_iconst (v := nI 1) i168_113 (by decide) ?_
          refine ev_bipush (v := nI 63) i168_114 (by decide) ?_
          refine ev_iconst (v := nI 0) i168_116 (by decide) ?_
          refine ev_callV (vs := [.int (nI 1), .int (nI 63), .int (nI 0)]) (rest := []) i168_117 ci168 lk8_132 (congrArg (fun q => q + 1) np135) ci135 (by decide) (by decide +kernel) (Nat.le_of_ble_eq_true rfl) ⟨rfl, rfl, Nat.le_of_ble_eq_true rfl⟩ rfl (by assumption) (c135 (rg := false) b3 b4 b5 b6.1 (by decide) (by decide) hC hT (smC_ok hx)) (fun r H4 hq => ?_)
          obtain ⟨rfl, g4, hC, hT, hG4, hO4⟩ := hq
          rw [and63 n (by omega)] at hT
          rw [and63 n (by omega)]
          have hL := hL.of0 b3 hG4
          obtain ⟨c0, ⟨ms, mk, c1, c2, c3, c4⟩, c5⟩ := id hC
          unfold mOb at c0
          have hO := hO.trans hO4 (C := (fun j => j = 111 ∨ j = 114)) (fun _ q => q) (fun _ q => Or.inr q)
          show Ev tb 168 120 [some (.ref 111), some (.int (nI m)), some (.int (nI k)), some (.int (nI (lftN (sdN z))))] [.int (nI (srtF (HE n) kd (smC (sdN z) x.1, x.2).2.1 true false))] H4 _
          refine ev_pop i168_120 rfl ?_
          refine evn_iinc (d := 1) (L' := [some (.ref 111), some (.int (nI m)), some (.int (nI (k + 1))), some (.int (nI (lftN (sdN z))))]) i168_121 rfl rfl (by decide) rfl ?_
          refine ev_goto (t := 21) i168_124 (by decide) ?_
          have hs : smS (sdN z) = true := by
            unfold smS
            exact decide_eq_true (by omega)
          have el : sumL (HE n) sd kd s.1 (d + 1) z x = sumL (HE n) sd kd s.1 d (sdN z) (hrF (HE n) sd kd s.1 true false (smC (sdN z) x.1, x.2)) := by
            conv => lhs; unfold sumL
            rw [hs]
          rw [el]
          exact lq168 b3 b4 b5 b6 hm d (k + 1) _ _ _ _ _ (by omega) hC hL hT (hrF_ok b6.1 b4 (smC_ok hx)) hO _
        · refine ev_iload_n i168_100 rfl ?_
          refine ev_bipush (v := nI 11) i168_101 (by decide) ?_
          refine evn_icmp_ne (t := 110) i168_103 (by decide) (by omega) (fun z103 => ?_) (fun z103 => ?_)
          · refine ev_iconst (v := nI 0) i168_110 (by decide) ?_
            refine evs_iastw i168_111 (by assumption) (by omega) (fun H3 hH3 => ?_)
            have c0 : H3[111]? = some (.inr (8, [.int (nI n), .ref 112, .ref 113, .ref 114, .ref 115, .ref 116, .ref 117, .int (f 0), .int (f 1), .int (f 2), .ref 118, .int (f 3), .int (f 4), .int (f 5), .int (f 6), .int (f 7), .ref 119, .ref 120, .int (f 8), .ref 121, .ref 122, .ref 123, .ref 124, .long ((z * 6364136223846793005) + 1442695040888963407), .ref 125, .ref 126])) := by rw [hH3]; exact set_ne c0 (by omega)
            have c1 : H3[112]? = some (.inl (0, 6, .inl ms)) := by rw [hH3]; exact set_ne c1 (by omega)
            have c3 : H3[113]? = some (.inl (0, 6, .inl mk)) := by rw [hH3]; exact set_ne c3 (by omega)
            have c5 : H3[114]? = some (.inl (0, 54, .inl (upd g 49 (nI 0)))) := by rw [hH3]; exact set_self c5
            have hO : Off (fun j => j = 111 ∨ j = 114) H H3 := by rw [hH3]; exact hO.set (by first | exact Or.inl rfl | exact Or.inr rfl)
            have hC : MC H3 n f (sdN z) sd kd (upd g 49 (nI 0)) := ⟨c0, ⟨ms, mk, c1, c2, c3, c4⟩, c5⟩
            have hL : LvS (upd g 49 (nI 0)) 0 n s := hL.of0 b3 (ofL.rf.up (by omega))
            have hT : Lv (upd g 49 (nI 0)) (27 * 1) n s.1 false (smC (sdN z) x.1, x.2) := hT.sn (b := false) b3
            refine ev_aload_n i168_112 rfl ?_
            refine ev_iconst (v := nI 1) i168_113 (by decide) ?_
            refine ev_bipush (v := nI 63) i168_114 (by decide) ?_
            refine ev_iconst (v := nI 0) i168_116 (by decide) ?_
            refine ev_callV (vs := [.int (nI 1), .int (nI 63), .int (nI 0)]) (rest := []) i168_117 ci168 lk8_132 (congrArg (fun q => q + 1) np135) ci135 (by decide) (by decide +kernel) (Nat.le_of_ble_eq_true rfl) ⟨rfl, rfl, Nat.le_of_ble_eq_true rfl⟩ rfl (by assumption) (c135 (rg := false) b3 b4 b5 b6.1 (by decide) (by decide) hC hT (smC_ok hx)) (fun r H4 hq => ?_)
            obtain ⟨rfl, g4, hC, hT, hG4, hO4⟩ := hq
            rw [and63 n (by omega)] at hT
            rw [and63 n (by omega)]
            have hL := hL.of0 b3 hG4
            obtain ⟨c0, ⟨ms, mk, c1, c2, c3, c4⟩, c5⟩ := id hC
            unfold mOb at c0
            have hO := hO.trans hO4 (C := (fun j => j = 111 ∨ j = 114)) (fun _ q => q) (fun _ q => Or.inr q)
            show Ev tb 168 120 [some (.ref 111), some (.int (nI m)), some (.int (nI k)), some (.int (nI (lftN (sdN z))))] [.int (nI (srtF (HE n) kd (smC (sdN z) x.1, x.2).2.1 false false))] H4 _
            refine ev_pop i168_120 rfl ?_
            refine evn_iinc (d := 1) (L' := [some (.ref 111), some (.int (nI m)), some (.int (nI (k + 1))), some (.int (nI (lftN (sdN z))))]) i168_121 rfl rfl (by decide) rfl ?_
            refine ev_goto (t := 21) i168_124 (by decide) ?_
            have hs : smS (sdN z) = false := by
              unfold smS
              exact decide_eq_false (by omega)
            have el : sumL (HE n) sd kd s.1 (d + 1) z x = sumL (HE n) sd kd s.1 d (sdN z) (hrF (HE n) sd kd s.1 false false (smC (sdN z) x.1, x.2)) := by
              conv => lhs; unfold sumL
              rw [hs]
            rw [el]
            exact lq168 b3 b4 b5 b6 hm d (k + 1) _ _ _ _ _ (by omega) hC hL hT (hrF_ok b6.1 b4 (smC_ok hx)) hO _
          · refine ev_iconst (v := nI 1) i168_106 (by decide) ?_
            refine ev_goto (t := 111) i168_107 (by decide) ?_
            refine evs_iastw i168_111 (by assumption) (by omega) (fun H3 hH3 => ?_)
            have c0 : H3[111]? = some (.inr (8, [.int (nI n), .ref 112, .ref 113, .ref 114, .ref 115, .ref 116, .ref 117, .int (f 0), .int (f 1), .int (f 2), .ref 118, .int (f 3), .int (f 4), .int (f 5), .int (f 6), .int (f 7), .ref 119, .ref 120, .int (f 8), .ref 121, .ref 122, .ref 123, .ref 124, .long ((z * 6364136223846793005) + 1442695040888963407), .ref 125, .ref 126])) := by rw [hH3]; exact set_ne c0 (by omega)
            have c1 : H3[112]? = some (.inl (0, 6, .inl ms)) := by rw [hH3]; exact set_ne c1 (by omega)
            have c3 : H3[113]? = some (.inl (0, 6, .inl mk)) := by rw [hH3]; exact set_ne c3 (by omega)
            have c5 : H3[114]? = some (.inl (0, 54, .inl (upd g 49 (nI 1)))) := by rw [hH3]; exact set_self c5
            have hO : Off (fun j => j = 111 ∨ j = 114) H H3 := by rw [hH3]; exact hO.set (by first | exact Or.inl rfl | exact Or.inr rfl)
            have hC : MC H3 n f (sdN z) sd kd (upd g 49 (nI 1)) := ⟨c0, ⟨ms, mk, c1, c2, c3, c4⟩, c5⟩
            have hL : LvS (upd g 49 (nI 1)) 0 n s := hL.of0 b3 (ofL.rf.up (by omega))
            have hT : Lv (upd g 49 (nI 1)) (27 * 1) n s.1 true (smC (sdN z) x.1, x.2) := hT.sn (b := true) b3
            refine ev_aload_n i168_112 rfl ?_
            refine ev_iconst (v := nI 1) i168_113 (by decide) ?_
            refine ev_bipush (v := nI 63) i168_114 (by decide) ?_
            refine ev_iconst (v := nI 0) i168_116 (by decide) ?_
            refine ev_callV (vs := [.int (nI 1), .int (nI 63), .int (nI 0)]) (rest := []) i168_117 ci168 lk8_132 (congrArg (fun q => q + 1) np135) ci135 (by decide) (by decide +kernel) (Nat.le_of_ble_eq_true rfl) ⟨rfl, rfl, Nat.le_of_ble_eq_true rfl⟩ rfl (by assumption) (c135 (rg := false) b3 b4 b5 b6.1 (by decide) (by decide) hC hT (smC_ok hx)) (fun r H4 hq => ?_)
            obtain ⟨rfl, g4, hC, hT, hG4, hO4⟩ := hq
            rw [and63 n (by omega)] at hT
            rw [and63 n (by omega)]
            have hL := hL.of0 b3 hG4
            obtain ⟨c0, ⟨ms, mk, c1, c2, c3, c4⟩, c5⟩ := id hC
            unfold mOb at c0
            have hO := hO.trans hO4 (C := (fun j => j = 111 ∨ j = 114)) (fun _ q => q) (fun _ q => Or.inr q)
            show Ev tb 168 120 [some (.ref 111), some (.int (nI m)), some (.int (nI k)), some (.int (nI (lftN (sdN z))))] [.int (nI (srtF (HE n) kd (smC (sdN z) x.1, x.2).2.1 true false))] H4 _
            refine ev_pop i168_120 rfl ?_
            refine evn_iinc (d := 1) (L' := [some (.ref 111), some (.int (nI m)), some (.int (nI (k + 1))), some (.int (nI (lftN (sdN z))))]) i168_121 rfl rfl (by decide) rfl ?_
            refine ev_goto (t := 21) i168_124 (by decide) ?_
            have hs : smS (sdN z) = true := by
              unfold smS
              exact decide_eq_true (by omega)
            have el : sumL (HE n) sd kd s.1 (d + 1) z x = sumL (HE n) sd kd s.1 d (sdN z) (hrF (HE n) sd kd s.1 true false (smC (sdN z) x.1, x.2)) := by
              conv => lhs; unfold sumL
              rw [hs]
            rw [el]
            exact lq168 b3 b4 b5 b6 hm d (k + 1) _ _ _ _ _ (by omega) hC hL hT (hrF_ok b6.1 b4 (smC_ok hx)) hO _
      · refine ev_aload_n i168_75 rfl ?_
        refine ev_get i168_76 ci168 fl8_16 (by assumption) rfl ?_
        refine ev_bipush (v := nI 27) i168_79 (by decide) ?_
        refine ev_iload_n i168_81 rfl ?_
        refine evn_iadd i168_82 ?_
        refine ev_dup2 i168_83 rfl rfl ?_
        refine ev_iald_n i168_84 (by assumption) (by omega) ?_
        have hcl : g (27 + lftN (sdN z)) = nI (x.1 (lftN (sdN z))) := hT.1 _ (by omega)
        rw [hcl]
        refine ev_iconst (v := nI 1) i168_85 (by decide) ?_
        refine evn_iadd i168_86 ?_
        refine evs_iastw i168_87 (by assumption) (by omega) (fun H3 hH3 => ?_)
        have c0 : H3[111]? = some (.inr (8, [.int (nI n), .ref 112, .ref 113, .ref 114, .ref 115, .ref 116, .ref 117, .int (f 0), .int (f 1), .int (f 2), .ref 118, .int (f 3), .int (f 4), .int (f 5), .int (f 6), .int (f 7), .ref 119, .ref 120, .int (f 8), .ref 121, .ref 122, .ref 123, .ref 124, .long ((z * 6364136223846793005) + 1442695040888963407), .ref 125, .ref 126])) := by rw [hH3]; exact set_ne c0 (by omega)
        have c1 : H3[112]? = some (.inl (0, 6, .inl ms)) := by rw [hH3]; exact set_ne c1 (by omega)
        have c3 : H3[113]? = some (.inl (0, 6, .inl mk)) := by rw [hH3]; exact set_ne c3 (by omega)
        have c5 : H3[114]? = some (.inl (0, 54, .inl (upd g (27 + (lftN (sdN z))) (nI ((x.1 (lftN (sdN z))) + 1))))) := by rw [hH3]; exact set_self c5
        have hO : Off (fun j => j = 111 ∨ j = 114) H H3 := by rw [hH3]; exact hO.set (by first | exact Or.inl rfl | exact Or.inr rfl)
        have ec : smC (sdN z) x.1 = updN x.1 (lftN (sdN z)) (x.1 (lftN (sdN z)) + 1) := by unfold smC; exact if_pos ⟨by omega, by omega⟩
        have hL : LvS (upd g (27 + (lftN (sdN z))) (nI ((x.1 (lftN (sdN z))) + 1))) 0 n s := hL.of0 b3 (ofL.rf.up (by omega))
        have hT : Lv (upd g (27 + (lftN (sdN z))) (nI ((x.1 (lftN (sdN z))) + 1))) (27 * 1) n s.1 sn (smC (sdN z) x.1, x.2) := by
          rw [ec]
          exact hT.cl (v := x.1 (lftN (sdN z)) + 1) b3 (show lftN (sdN z) < 10 by omega)
        refine ev_aload_n i168_88 rfl ?_
        refine ev_get i168_89 ci168 fl8_16 (by assumption) rfl ?_
        refine ev_bipush (v := nI 49) i168_92 (by decide) ?_
        refine ev_iload_n i168_94 rfl ?_
        refine ev_bipush (v := nI 10) i168_95 (by decide) ?_
        refine evn_icmp_eq (t := 106) i168_97 (by decide) (by omega) (fun z97 => ?_) (fun z97 => ?_)
        · refine ev_iconst (v := nI 1) i168_106 (by decide) ?_
          refine ev_goto (t := 111) i168_107 (by decide) ?_
          refine evs_iastw i168_111 (by assumption) (by omega) (fun H4 hH4 => ?_)
          have c0 : H4[111]? = some (.inr (8, [.int (nI n), .ref 112, .ref 113, .ref 114, .ref 115, .ref 116, .ref 117, .int (f 0), .int (f 1), .int (f 2), .ref 118, .int (f 3), .int (f 4), .int (f 5), .int (f 6), .int (f 7), .ref 119, .ref 120, .int (f 8), .ref 121, .ref 122, .ref 123, .ref 124, .long ((z * 6364136223846793005) + 1442695040888963407), .ref 125, .ref 126])) := by rw [hH4]; exact set_ne c0 (by omega)
          have c1 : H4[112]? = some (.inl (0, 6, .inl ms)) := by rw [hH4]; exact set_ne c1 (by omega)
          have c3 : H4[113]? = some (.inl (0, 6, .inl mk)) := by rw [hH4]; exact set_ne c3 (by omega)
          have c5 : H4[114]? = some (.inl (0, 54, .inl (upd (upd g (27 + (lftN (sdN z))) (nI ((x.1 (lftN (sdN z))) + 1))) 49 (nI 1)))) := by rw [hH4]; exact set_self c5
          have hO : Off (fun j => j = 111 ∨ j = 114) H H4 := by rw [hH4]; exact hO.set (by first | exact Or.inl rfl | exact Or.inr rfl)
          have hC : MC H4 n f (sdN z) sd kd (upd (upd g (27 + (lftN (sdN z))) (nI ((x.1 (lftN (sdN z))) + 1))) 49 (nI 1)) := ⟨c0, ⟨ms, mk, c1, c2, c3, c4⟩, c5⟩
          have hL : LvS (upd (upd g (27 + (lftN (sdN z))) (nI ((x.1 (lftN (sdN z))) + 1))) 49 (nI 1)) 0 n s := hL.of0 b3 (ofL.rf.up (by omega))
          have hT : Lv (upd (upd g (27 + (lftN (sdN z))) (nI ((x.1 (lftN (sdN z))) + 1))) 49 (nI 1)) (27 * 1) n s.1 true (smC (sdN z) x.1, x.2) := hT.sn (b := true) b3
          refine ev_aload_n i168_112 rfl ?_
          refine ev_iconst (v := nI 1) i168_113 (by decide) ?_
          refine ev_bipush (v := nI 63) i168_114 (by decide) ?_
          refine ev_iconst (v := nI 0) i168_116 (by decide) ?_
          refine ev_callV (vs := [.int (nI 1), .int (nI 63), .int (nI 0)]) (rest := []) i168_117 ci168 lk8_132 (congrArg (fun q => q + 1) np135) ci135 (by decide) (by decide +kernel) (Nat.le_of_ble_eq_true rfl) ⟨rfl, rfl, Nat.le_of_ble_eq_true rfl⟩ rfl (by assumption) (c135 (rg := false) b3 b4 b5 b6.1 (by decide) (by decide) hC hT (smC_ok hx)) (fun r H5 hq => ?_)
          obtain ⟨rfl, g5, hC, hT, hG5, hO5⟩ := hq
          rw [and63 n (by omega)] at hT
          rw [and63 n (by omega)]
          have hL := hL.of0 b3 hG5
          obtain ⟨c0, ⟨ms, mk, c1, c2, c3, c4⟩, c5⟩ := id hC
          unfold mOb at c0
          have hO := hO.trans hO5 (C := (fun j => j = 111 ∨ j = 114)) (fun _ q => q) (fun _ q => Or.inr q)
          show Ev tb 168 120 [some (.ref 111), some (.int (nI m)), some (.int (nI k)), some (.int (nI (lftN (sdN z))))] [.int (nI (srtF (HE n) kd (smC (sdN z) x.1, x.2).2.1 true false))] H5 _
          refine ev_pop i168_120 rfl ?_
          refine evn_iinc (d := 1) (L' := [some (.ref 111), some (.int (nI m)), some (.int (nI (k + 1))), some (.int (nI (lftN (sdN z))))]) i168_121 rfl rfl (by decide) rfl ?_
          refine ev_goto (t := 21) i168_124 (by decide) ?_
          have hs : smS (sdN z) = true := by
            unfold smS
            exact decide_eq_true (by omega)
          have el : sumL (HE n) sd kd s.1 (d + 1) z x = sumL (HE n) sd kd s.1 d (sdN z) (hrF (HE n) sd kd s.1 true false (smC (sdN z) x.1, x.2)) := by
            conv => lhs; unfold sumL
            rw [hs]
          rw [el]
          exact lq168 b3 b4 b5 b6 hm d (k + 1) _ _ _ _ _ (by omega) hC hL hT (hrF_ok b6.1 b4 (smC_ok hx)) hO _
        · refine ev_iload_n i168_100 rfl ?_
          refine ev_bipush (v := nI 11) i168_101 (by decide) ?_
          refine evn_icmp_ne (t := 110) i168_103 (by decide) (by omega) (fun z103 => ?_) (fun z103 => ?_)
          · refine ev_iconst (v := nI 0) i168_110 (by decide) ?_
            refine evs_iastw i168_111 (by assumption) (by omega) (fun H4 hH4 => ?_)
            have c0 : H4[111]? = some (.inr (8, [.int (nI n), .ref 112, .ref 113, .ref 114, .ref 115, .ref 116, .ref 117, .int (f 0), .int (f 1), .int (f 2), .ref 118, .int (f 3), .int (f 4), .int (f 5), .int (f 6), .int (f 7), .ref 119, .ref 120, .int (f 8), .ref 121, .ref 122, .ref 123, .ref 124, .long ((z * 6364136223846793005) + 1442695040888963407), .ref 125, .ref 126])) := by rw [hH4]; exact set_ne c0 (by omega)
            have c1 : H4[112]? = some (.inl (0, 6, .inl ms)) := by rw [hH4]; exact set_ne c1 (by omega)
            have c3 : H4[113]? = some (.inl (0, 6, .inl mk)) := by rw [hH4]; exact set_ne c3 (by omega)
            have c5 : H4[114]? = some (.inl (0, 54, .inl (upd (upd g (27 + (lftN (sdN z))) (nI ((x.1 (lftN (sdN z))) + 1))) 49 (nI 0)))) := by rw [hH4]; exact set_self c5
            have hO : Off (fun j => j = 111 ∨ j = 114) H H4 := by rw [hH4]; exact hO.set (by first | exact Or.inl rfl | exact Or.inr rfl)
            have hC : MC H4 n f (sdN z) sd kd (upd (upd g (27 + (lftN (sdN z))) (nI ((x.1 (lftN (sdN z))) + 1))) 49 (nI 0)) := ⟨c0, ⟨ms, mk, c1, c2, c3, c4⟩, c5⟩
            have hL : LvS (upd (upd g (27 + (lftN (sdN z))) (nI ((x.1 (lftN (sdN z))) + 1))) 49 (nI 0)) 0 n s := hL.of0 b3 (ofL.rf.up (by omega))
            have hT : Lv (upd (upd g (27 + (lftN (sdN z))) (nI ((x.1 (lftN (sdN z))) + 1))) 49 (nI 0)) (27 * 1) n s.1 false (smC (sdN z) x.1, x.2) := hT.sn (b := false) b3
            refine ev_aload_n i168_112 rfl ?_
            refine ev_iconst (v := nI 1) i168_113 (by decide) ?_
            refine ev_bipush (v := nI 63) i168_114 (by decide) ?_
            refine ev_iconst (v := nI 0) i168_116 (by decide) ?_
            refine ev_callV (vs := [.int (nI 1), .int (nI 63), .int (nI 0)]) (rest := []) i168_117 ci168 lk8_132 (congrArg (fun q => q + 1) np135) ci135 (by decide) (by decide +kernel) (Nat.le_of_ble_eq_true rfl) ⟨rfl, rfl, Nat.le_of_ble_eq_true rfl⟩ rfl (by assumption) (c135 (rg := false) b3 b4 b5 b6.1 (by decide) (by decide) hC hT (smC_ok hx)) (fun r H5 hq => ?_)
            obtain ⟨rfl, g5, hC, hT, hG5, hO5⟩ := hq
            rw [and63 n (by omega)] at hT
            rw [and63 n (by omega)]
            have hL := hL.of0 b3 hG5
            obtain ⟨c0, ⟨ms, mk, c1, c2, c3, c4⟩, c5⟩ := id hC
            unfold mOb at c0
            have hO := hO.trans hO5 (C := (fun j => j = 111 ∨ j = 114)) (fun _ q => q) (fun _ q => Or.inr q)
            show Ev tb 168 120 [some (.ref 111), some (.int (nI m)), some (.int (nI k)), some (.int (nI (lftN (sdN z))))] [.int (nI (srtF (HE n) kd (smC (sdN z) x.1, x.2).2.1 false false))] H5 _
            refine ev_pop i168_120 rfl ?_
            refine evn_iinc (d := 1) (L' := [some (.ref 111), some (.int (nI m)), some (.int (nI (k + 1))), some (.int (nI (lftN (sdN z))))]) i168_121 rfl rfl (by decide) rfl ?_
            refine ev_goto (t := 21) i168_124 (by decide) ?_
            have hs : smS (sdN z) = false := by
              unfold smS
              exact decide_eq_false (by omega)
            have el : sumL (HE n) sd kd s.1 (d + 1) z x = sumL (HE n) sd kd s.1 d (sdN z) (hrF (HE n) sd kd s.1 false false (smC (sdN z) x.1, x.2)) := by
              conv => lhs; unfold sumL
              rw [hs]
            rw [el]
            exact lq168 b3 b4 b5 b6 hm d (k + 1) _ _ _ _ _ (by omega) hC hL hT (hrF_ok b6.1 b4 (smC_ok hx)) hO _
          · refine ev_iconst (v := nI 1) i168_106 (by decide) ?_
            refine ev_goto (t := 111) i168_107 (by decide) ?_
            refine evs_iastw i168_111 (by assumption) (by omega) (fun H4 hH4 => ?_)
            have c0 : H4[111]? = some (.inr (8, [.int (nI n), .ref 112, .ref 113, .ref 114, .ref 115, .ref 116, .ref 117, .int (f 0), .int (f 1), .int (f 2), .ref 118, .int (f 3), .int (f 4), .int (f 5), .int (f 6), .int (f 7), .ref 119, .ref 120, .int (f 8), .ref 121, .ref 122, .ref 123, .ref 124, .long ((z * 6364136223846793005) + 1442695040888963407), .ref 125, .ref 126])) := by rw [hH4]; exact set_ne c0 (by omega)
            have c1 : H4[112]? = some (.inl (0, 6, .inl ms)) := by rw [hH4]; exact set_ne c1 (by omega)
            have c3 : H4[113]? = some (.inl (0, 6, .inl mk)) := by rw [hH4]; exact set_ne c3 (by omega)
            have c5 : H4[114]? = some (.inl (0, 54, .inl (upd (upd g (27 + (lftN (sdN z))) (nI ((x.1 (lftN (sdN z))) + 1))) 49 (nI 1)))) := by rw [hH4]; exact set_self c5
            have hO : Off (fun j => j = 111 ∨ j = 114) H H4 := by rw [hH4]; exact hO.set (by first | exact Or.inl rfl | exact Or.inr rfl)
            have hC : MC H4 n f (sdN z) sd kd (upd (upd g (27 + (lftN (sdN z))) (nI ((x.1 (lftN (sdN z))) + 1))) 49 (nI 1)) := ⟨c0, ⟨ms, mk, c1, c2, c3, c4⟩, c5⟩
            have hL : LvS (upd (upd g (27 + (lftN (sdN z))) (nI ((x.1 (lftN (sdN z))) + 1))) 49 (nI 1)) 0 n s := hL.of0 b3 (ofL.rf.up (by omega))
            have hT : Lv (upd (upd g (27 + (lftN (sdN z))) (nI ((x.1 (lftN (sdN z))) + 1))) 49 (nI 1)) (27 * 1) n s.1 true (smC (sdN z) x.1, x.2) := hT.sn (b := true) b3
            refine ev_aload_n i168_112 rfl ?_
            refine ev_iconst (v := nI 1) i168_113 (by decide) ?_
            refine ev_bipush (v := nI 63) i168_114 (by decide) ?_
            refine ev_iconst (v := nI 0) i168_116 (by decide) ?_
            refine ev_callV (vs := [.int (nI 1), .int (nI 63), .int (nI 0)]) (rest := []) i168_117 ci168 lk8_132 (congrArg (fun q => q + 1) np135) ci135 (by decide) (by decide +kernel) (Nat.le_of_ble_eq_true rfl) ⟨rfl, rfl, Nat.le_of_ble_eq_true rfl⟩ rfl (by assumption) (c135 (rg := false) b3 b4 b5 b6.1 (by decide) (by decide) hC hT (smC_ok hx)) (fun r H5 hq => ?_)
            obtain ⟨rfl, g5, hC, hT, hG5, hO5⟩ := hq
            rw [and63 n (by omega)] at hT
            rw [and63 n (by omega)]
            have hL := hL.of0 b3 hG5
            obtain ⟨c0, ⟨ms, mk, c1, c2, c3, c4⟩, c5⟩ := id hC
            unfold mOb at c0
            have hO := hO.trans hO5 (C := (fun j => j = 111 ∨ j = 114)) (fun _ q => q) (fun _ q => Or.inr q)
            show Ev tb 168 120 [some (.ref 111), some (.int (nI m)), some (.int (nI k)), some (.int (nI (lftN (sdN z))))] [.int (nI (srtF (HE n) kd (smC (sdN z) x.1, x.2).2.1 true false))] H5 _
            refine ev_pop i168_120 rfl ?_
            refine evn_iinc (d := 1) (L' := [some (.ref 111), some (.int (nI m)), some (.int (nI (k + 1))), some (.int (nI (lftN (sdN z))))]) i168_121 rfl rfl (by decide) rfl ?_
            refine ev_goto (t := 21) i168_124 (by decide) ?_
            have hs : smS (sdN z) = true := by
              unfold smS
              exact decide_eq_true (by omega)
            have el : sumL (HE n) sd kd s.1 (d + 1) z x = sumL (HE n) sd kd s.1 d (sdN z) (hrF (HE n) sd kd s.1 true false (smC (sdN z) x.1, x.2)) := by
              conv => lhs; unfold sumL
              rw [hs]
            rw [el]
            exact lq168 b3 b4 b5 b6 hm d (k + 1) _ _ _ _ _ (by omega) hC hL hT (hrF_ok b6.1 b4 (smC_ok hx)) hO _
theorem y168 {tb : dxT} {H : dxH} {tx : Nat → Nat} {ln n : Nat} {sd kd : Nat → Nat} {s : Sn} {am : Nat} {stk : Nat → Sn} {kp : Nat → Bool} {ks : Nat → Sn} {tm : Nat} {tc th : Nat → Nat} {td : Nat → Bool} {sed : Int64} {m : Nat} (hI : MInv H tx ln n sd kd s am stk kp ks tm tc th td sed) (hS : SpOK tx ln n sd kd s am stk kp ks tm tc th) (hm1 : 1 ≤ m) (hm : m ≤ 30) : Cl tb 168 [.ref 111, .int (nI m)] H (fun r H' => r = some (.int (sumA (sumL (HE n) sd kd s.1 m sed s.2.2) s)) ∧ MInv H' tx ln n sd kd s am stk kp ks tm tc th td ((sumL (HE n) sd kd s.1 m sed s.2.2).1) ∧ Off mC H H') := by
  obtain ⟨f, g, nx, ⟨hC, hL, e3, e6, e7, e8, hnx⟩, hR⟩ := id hI
  obtain ⟨⟨b1, b2⟩, b3, b4, b5, b6, b7, b8, b9, b10, b11⟩ := id hS
  obtain ⟨c0, ⟨ms, mk, c1, c2, c3, c4⟩, c5⟩ := id hC
  unfold mOb at c0
  have hO : Off (fun j => j = 111 ∨ j = 114) H H := Off.rf
  show Ev tb 168 0 [some (.ref 111), some (.int (nI m)), none, none] [] H _
  refine ev_iload_n i168_0 rfl ?_
  refine ev_i2l i168_1 ?_
  refine ev_lconst (v := 1) i168_2 (by decide) ?_
  refine ev_ldc2 i168_3 ci168 ks8_194 ?_
  refine ev_callS (vs := [.long ((nI m).toInt64), .long 1, .long 30]) (rest := []) i168_6 ci168 lk8_62 (Or.inl rfl) np117 (by decide +kernel) (Nat.le_of_ble_eq_true rfl) ⟨rfl, rfl, Nat.le_of_ble_eq_true rfl⟩ rfl (c117) (fun r HH hq => ?_)
  obtain ⟨rfl, rfl⟩ := hq
  rw [inJ_M (x := (nI m)) (a := 1) (b := 30) (by decide) (by decide) (by decide) (by decide), inM_n hm1 hm (by decide)]
  show Ev tb 168 9 [some (.ref 111), some (.int (nI m)), none, none] [.int (bI true)] H _
  refine evb_if_ne (t := 15) i168_9 (by decide) (fun z9 => ?_) (fun z9 => by exfalso; cases z9)
  refine ev_aload_n i168_15 rfl ?_
  refine ev_callV (vs := []) (rest := []) i168_16 ci168 lk8_140 (congrArg (fun q => q + 1) np143) ci143 (by decide) (by decide +kernel) (Nat.le_of_ble_eq_true rfl) ⟨rfl, rfl, Nat.le_of_ble_eq_true rfl⟩ rfl (by assumption) (c143 b3 hC hL) (fun r H1 hq => ?_)
  obtain ⟨rfl, g1, hC, hL, hT, hO1⟩ := hq
  obtain ⟨c0, ⟨ms, mk, c1, c2, c3, c4⟩, c5⟩ := id hC
  unfold mOb at c0
  have hO := hO.trans hO1 (C := (fun j => j = 111 ∨ j = 114)) (fun _ q => q) (fun _ q => Or.inr q)
  show Ev tb 168 19 [some (.ref 111), some (.int (nI m)), none, none] [] H1 _
  refine ev_iconst (v := nI 0) i168_19 (by decide) ?_
  refine ev_istore_n (L' := [some (.ref 111), some (.int (nI m)), some (.int (nI 0)), none]) i168_20 ⟨Nat.le_of_ble_eq_true rfl, rfl⟩ rfl ?_
  refine (lq168 b3 b4 b5 b6 hm m 0 sed s.2.1 s.2.2 H1 g1 (by omega) hC hL hT b6.2.2.1 hO _).post (fun r H' hq2 => ?_)
  obtain ⟨h1, g2, hC2, hL2, hO2⟩ := hq2
  exact ⟨h1, ⟨f, g2, nx, ⟨hC2, hL2, e3, e6, e7, e8, hnx⟩, hR.off hO2 (fun j a b => by omega)⟩, hO2.weaken (fun j q => by unfold mC; omega)⟩
theorem sumB_M {x : Int32} : sumB x = inM x 1 30 := by
  unfold sumB inM
  refine decide_eq_decide.mpr ?_
  have e1 : (1 : Int32) = nI 1 := by decide
  have e8 : (30 : Int32) = nI 30 := by decide
  rw [e1, e8]
theorem y168f {tb : dxT} {H : dxH} {tx : Nat → Nat} {ln n : Nat} {sd kd : Nat → Nat} {s : Sn} {am : Nat} {stk : Nat → Sn} {kp : Nat → Bool} {ks : Nat → Sn} {tm : Nat} {tc th : Nat → Nat} {td : Nat → Bool} {sed : Int64} {x : Int32} (hI : MInv H tx ln n sd kd s am stk kp ks tm tc th td sed) (hS : SpOK tx ln n sd kd s am stk kp ks tm tc th) (h : sumB x = false) : Cl tb 168 [.ref 111, .int x] H (fun r H' => r = some (.int (-2)) ∧ MInv H' tx ln n sd kd s am stk kp ks tm tc th td sed ∧ Off mC H H') := by
  obtain ⟨f, g, nx, ⟨hC, hL, e3, e6, e7, e8, hnx⟩, hR⟩ := id hI
  obtain ⟨⟨b1, b2⟩, b3, b4, b5, b6, b7, b8, b9, b10, b11⟩ := id hS
  obtain ⟨c0, ⟨ms, mk, c1, c2, c3, c4⟩, c5⟩ := id hC
  unfold mOb at c0
  rw [sumB_M] at h
  show Ev tb 168 0 [some (.ref 111), some (.int x), none, none] [] H _
  refine ev_iload_n i168_0 rfl ?_
  refine ev_i2l i168_1 ?_
  refine ev_lconst (v := 1) i168_2 (by decide) ?_
  refine ev_ldc2 i168_3 ci168 ks8_194 ?_
  refine ev_callS (vs := [.long x.toInt64, .long 1, .long 30]) (rest := []) i168_6 ci168 lk8_62 (Or.inl rfl) np117 (by decide +kernel) (Nat.le_of_ble_eq_true rfl) ⟨rfl, rfl, Nat.le_of_ble_eq_true rfl⟩ rfl (c117) (fun r HH hq => ?_)
  obtain ⟨rfl, rfl⟩ := hq
  rw [inJ_M (x := x) (a := 1) (b := 30) (by decide) (by decide) (by decide) (by decide), h]
  show Ev tb 168 9 [some (.ref 111), some (.int x), none, none] [.int (bI false)] H _
  refine evb_if_ne (t := 15) i168_9 (by decide) (fun z9 => by exfalso; cases z9) (fun z9 => ?_)
  refine ev_bipush (v := (-2)) i168_12 (by decide) ?_
  refine ev_iret i168_14 (by decide +kernel) ?_
  exact ⟨rfl, hI, Off.rf⟩
