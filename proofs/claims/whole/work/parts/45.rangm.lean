/-! the model's rang, fits, full  -/
theorem srt1 {n : Nat} {kd fu : Nat → Nat} (hn : n ≤ 6) : srtF (HE n) kd fu false false = 1 ↔ anyB (pD 63 kd fu) n 0 = true := by
  have h := srtF_mod (sm := 63) (n := n) (kd := kd) (fu := fu) (sn := false) (rg := false) hn
  rw [and63 n (by omega)] at h
  rw [h]
  cases anyB (pD 63 kd fu) n 0 <;> cases anyB (pW 63 kd fu) n 0 <;> simp
theorem srt1r {he : Nat} {kd fu : Nat → Nat} : srtF he kd fu false true = 1 := by unfold srtF; simp
theorem hr_cg {he : Nat} {sd kd ce : Nat → Nat} {sn rg rg' : Bool} {x : Hs} (h : srtF he kd x.2.1 sn rg = srtF he kd x.2.1 sn rg') : hrF he sd kd ce sn rg x = hrF he sd kd ce sn rg' x := by
  unfold hrF
  rw [h]
theorem or0 {b : Nat} : nI b ||| nI 0 = nI b := by
  have e : nI 0 = 0 := rfl
  rw [e, Int32.or_zero]
theorem lq158 {tb : dxT} {H : dxH} {n : Nat} {f : Nat → Int32} {sed : Int64} {sd kd : Nat → Nat} {s : Sn} {m wd : Nat} (b3 : n ≤ 6) (b4 : ∀ j, sd j < 2) (b5 : ∀ j, kd j < 4) (b6 : SnOK n s) (hm : m ≤ 8) (hwd : wd < 256) (hsn : s.2.1 = false) : ∀ (d k b : Nat) (x : Hs) (H1 : dxH) (g : Nat → Int32), k + d = m → b < 256 → MC H1 n f sed sd kd g → LvS g 0 n s → Lv g (27 * 1) n s.1 s.2.1 x → SOK x → Off (fun j => j = 114) H H1 → ∀ w5 w6, Ev tb 158 39 [some (.ref 111), some (.int (nI m)), some (.int (nI wd)), some (.int (nI b)), some (.int (nI k)), w5, w6] [] H1 (fun r H' => r = some (.int (rngL wd (HE n) sd kd s.1 s.2.1 d k b x)) ∧ ∃ g', MC H' n f sed sd kd g' ∧ LvS g' 0 n s ∧ Off (fun j => j = 114) H H')
  | 0, k, b, x, H1, g, hk, hb, hC, hL, hT, hx, hOO, w5, w6 => by
    obtain rfl : k = m := by omega
    obtain ⟨c0, ⟨ms, mk, c1, c2, c3, c4⟩, c5⟩ := id hC
    unfold mOb at c0
    refine ev_iload i158_39 rfl ?_
    refine ev_iload_n i158_41 rfl ?_
    refine evn_icmp_ge (t := 135) i158_42 (by decide) (by omega) (fun z42 => ?_) (fun z42 => by exfalso; omega)
    refine ev_iload_n i158_135 rfl ?_
    refine ev_iret i158_136 (by decide +kernel) ?_
    exact ⟨rfl, g, hC, hL, hOO⟩
  | d + 1, k, b, x, H1, g, hk, hb, hC, hL, hT, hx, hOO, w5, w6 => by
    obtain ⟨c0, ⟨ms, mk, c1, c2, c3, c4⟩, c5⟩ := id hC
    unfold mOb at c0
    refine ev_iload i158_39 rfl ?_
    refine ev_iload_n i158_41 rfl ?_
    refine evn_icmp_ge (t := 135) i158_42 (by decide) (by omega) (fun z42 => by exfalso; omega) (fun z42 => ?_)
    refine ev_aload_n i158_45 rfl ?_
    refine ev_iconst (v := nI 1) i158_46 (by decide) ?_
    refine ev_bipush (v := nI 63) i158_47 (by decide) ?_
    refine ev_callV (vs := [.int (nI 1), .int (nI 63)]) (rest := []) i158_49 ci158 lk8_115 (congrArg (fun q => q + 1) np132) ci132 (by decide) (by decide +kernel) (Nat.le_of_ble_eq_true rfl) ⟨rfl, rfl, Nat.le_of_ble_eq_true rfl⟩ rfl (by assumption) (c132 hC b3 b5 hT (by decide) hx (by decide)) (fun r HH hq => ?_)
    obtain ⟨rfl, rfl⟩ := hq
    show Ev tb 158 52 [some (.ref 111), some (.int (nI m)), some (.int (nI wd)), some (.int (nI b)), some (.int (nI k)), w5, w6] [.int (bI (anyB (pD 63 kd x.2.1) n 0))] H1 _
    refine ev_istore (L' := [some (.ref 111), some (.int (nI m)), some (.int (nI wd)), some (.int (nI b)), some (.int (nI k)), some (.int (bI (anyB (pD 63 kd x.2.1) n 0))), w6]) i158_52 ⟨Nat.le_of_ble_eq_true rfl, rfl⟩ rfl ?_
    refine ev_aload_n i158_54 rfl ?_
    refine ev_get i158_55 ci158 fl8_16 (by assumption) rfl ?_
    refine ev_bipush (v := nI 22) i158_58 (by decide) ?_
    refine ev_iald_n i158_60 (by assumption) (by omega) ?_
    have hh : g 22 = bI s.2.1 := hL.2.2.2.1
    rw [hh]
    refine ev_iconst (v := nI 1) i158_61 (by decide) ?_
    refine ev_icmp_eq (t := 79) i158_62 (by decide) (fun z62 => by exfalso; rw [hsn] at z62; exact absurd z62 (by decide)) (fun z62 => ?_)
    refine ev_iload i158_65 rfl ?_
    refine evb_if_eq (t := 82) i158_67 (by decide) (fun z67 => ?_) (fun z67 => ?_)
    · refine ev_iload_n i158_82 rfl ?_
      refine ev_iload i158_83 rfl ?_
      refine ev_callS (vs := [.int (nI wd), .int (nI k)]) (rest := []) i158_85 ci158 lk8_77 (Or.inl rfl) np118 (by decide +kernel) (Nat.le_of_ble_eq_true rfl) ⟨rfl, rfl, Nat.le_of_ble_eq_true rfl⟩ rfl (c118 (by omega) (by omega)) (fun r HH hq => ?_)
      obtain ⟨rfl, rfl⟩ := hq
      show Ev tb 158 88 [some (.ref 111), some (.int (nI m)), some (.int (nI wd)), some (.int (nI b)), some (.int (nI k)), some (.int (bI (anyB (pD 63 kd x.2.1) n 0))), w6] [.int (bI (wd.testBit k))] H1 _
      refine evb_if_eq (t := 100) i158_88 (by decide) (fun z88 => ?_) (fun z88 => ?_)
      · refine ev_iconst (v := nI 0) i158_100 (by decide) ?_
        refine ev_istore (L' := [some (.ref 111), some (.int (nI m)), some (.int (nI wd)), some (.int (nI b)), some (.int (nI k)), some (.int (bI (anyB (pD 63 kd x.2.1) n 0))), some (.int (nI 0))]) i158_101 ⟨Nat.le_of_ble_eq_true rfl, rfl⟩ rfl ?_
        refine ev_iload_n i158_103 rfl ?_
        refine ev_iload i158_104 rfl ?_
        refine evn_if_eq (t := 116) i158_106 (by decide) (by omega) (fun z106 => ?_) (fun z106 => by exfalso; omega)
        refine ev_iconst (v := nI 0) i158_116 (by decide) ?_
        refine ev_ior i158_117 ?_
        rw [or0]
        refine ev_istore_n (L' := [some (.ref 111), some (.int (nI m)), some (.int (nI wd)), some (.int (nI b)), some (.int (nI k)), some (.int (bI (anyB (pD 63 kd x.2.1) n 0))), some (.int (nI 0))]) i158_118 ⟨Nat.le_of_ble_eq_true rfl, rfl⟩ rfl ?_
        refine ev_aload_n i158_119 rfl ?_
        refine ev_iconst (v := nI 1) i158_120 (by decide) ?_
        refine ev_bipush (v := nI 63) i158_121 (by decide) ?_
        refine ev_iload i158_123 rfl ?_
        refine ev_callV (vs := [.int (nI 1), .int (nI 63), .int (nI 0)]) (rest := []) i158_125 ci158 lk8_132 (congrArg (fun q => q + 1) np135) ci135 (by decide) (by decide +kernel) (Nat.le_of_ble_eq_true rfl) ⟨rfl, rfl, Nat.le_of_ble_eq_true rfl⟩ rfl (by assumption) (c135 (rg := false) b3 b4 b5 b6.1 (by decide) (by decide) hC hT hx) (fun r H2 hq => ?_)
        obtain ⟨rfl, g2, hC, hT, hG2, hO2⟩ := hq
        rw [and63 n (by omega)] at hT
        rw [and63 n (by omega)]
        have hL := hL.of0 b3 hG2
        obtain ⟨c0, ⟨ms, mk, c1, c2, c3, c4⟩, c5⟩ := id hC
        unfold mOb at c0
        have hOO := hOO.trans hO2 (C := fun j => j = 114) (fun _ q => q) (fun _ q => q)
        show Ev tb 158 128 [some (.ref 111), some (.int (nI m)), some (.int (nI wd)), some (.int (nI b)), some (.int (nI k)), some (.int (bI (anyB (pD 63 kd x.2.1) n 0))), some (.int (nI 0))] [.int (nI (srtF (HE n) kd x.2.1 s.2.1 false))] H2 _
        refine ev_pop i158_128 rfl ?_
        refine evn_iinc (d := 1) (L' := [some (.ref 111), some (.int (nI m)), some (.int (nI wd)), some (.int (nI b)), some (.int (nI (k + 1))), some (.int (bI (anyB (pD 63 kd x.2.1) n 0))), some (.int (nI 0))]) i158_129 rfl rfl (by decide) rfl ?_
        refine ev_goto (t := 39) i158_132 (by decide) ?_
        have hs1 : ¬ srtF (HE n) kd x.2.1 s.2.1 false = 1 := by rw [hsn]; exact fun q => by have := (srt1 b3).mp q; simp [z67] at this
        have hw : wd.testBit k = false := by simpa using z88
        have er : rngL wd (HE n) sd kd s.1 s.2.1 (d + 1) k b x = rngL wd (HE n) sd kd s.1 s.2.1 d (k + 1) (b) (hrF (HE n) sd kd s.1 s.2.1 false x) := by
          conv => lhs; unfold rngL
          rw [if_neg (by simp [hs1]), hw, if_neg (fun q => by cases q.1)]
        have hb2 : b < 256 := hb
        rw [er]
        exact lq158 b3 b4 b5 b6 hm hwd hsn d (k + 1) _ _ _ _ (by omega) hb2 hC hL hT (hrF_ok b6.1 b4 hx) hOO _ _
      · refine ev_iload i158_91 rfl ?_
        refine evb_if_ne (t := 100) i158_93 (by decide) (fun z93 => ?_) (fun z93 => ?_)
        · refine ev_iconst (v := nI 0) i158_100 (by decide) ?_
          refine ev_istore (L' := [some (.ref 111), some (.int (nI m)), some (.int (nI wd)), some (.int (nI b)), some (.int (nI k)), some (.int (bI (anyB (pD 63 kd x.2.1) n 0))), some (.int (nI 0))]) i158_101 ⟨Nat.le_of_ble_eq_true rfl, rfl⟩ rfl ?_
          refine ev_iload_n i158_103 rfl ?_
          refine ev_iload i158_104 rfl ?_
          refine evn_if_eq (t := 116) i158_106 (by decide) (by omega) (fun z106 => ?_) (fun z106 => by exfalso; omega)
          refine ev_iconst (v := nI 0) i158_116 (by decide) ?_
          refine ev_ior i158_117 ?_
          rw [or0]
          refine ev_istore_n (L' := [some (.ref 111), some (.int (nI m)), some (.int (nI wd)), some (.int (nI b)), some (.int (nI k)), some (.int (bI (anyB (pD 63 kd x.2.1) n 0))), some (.int (nI 0))]) i158_118 ⟨Nat.le_of_ble_eq_true rfl, rfl⟩ rfl ?_
          refine ev_aload_n i158_119 rfl ?_
          refine ev_iconst (v := nI 1) i158_120 (by decide) ?_
          refine ev_bipush (v := nI 63) i158_121 (by decide) ?_
          refine ev_iload i158_123 rfl ?_
          refine ev_callV (vs := [.int (nI 1), .int (nI 63), .int (nI 0)]) (rest := []) i158_125 ci158 lk8_132 (congrArg (fun q => q + 1) np135) ci135 (by decide) (by decide +kernel) (Nat.le_of_ble_eq_true rfl) ⟨rfl, rfl, Nat.le_of_ble_eq_true rfl⟩ rfl (by assumption) (c135 (rg := false) b3 b4 b5 b6.1 (by decide) (by decide) hC hT hx) (fun r H2 hq => ?_)
          obtain ⟨rfl, g2, hC, hT, hG2, hO2⟩ := hq
          rw [and63 n (by omega)] at hT
          rw [and63 n (by omega)]
          have hL := hL.of0 b3 hG2
          obtain ⟨c0, ⟨ms, mk, c1, c2, c3, c4⟩, c5⟩ := id hC
          unfold mOb at c0
          have hOO := hOO.trans hO2 (C := fun j => j = 114) (fun _ q => q) (fun _ q => q)
          show Ev tb 158 128 [some (.ref 111), some (.int (nI m)), some (.int (nI wd)), some (.int (nI b)), some (.int (nI k)), some (.int (bI (anyB (pD 63 kd x.2.1) n 0))), some (.int (nI 0))] [.int (nI (srtF (HE n) kd x.2.1 s.2.1 false))] H2 _
          refine ev_pop i158_128 rfl ?_
          refine evn_iinc (d := 1) (L' := [some (.ref 111), some (.int (nI m)), some (.int (nI wd)), some (.int (nI b)), some (.int (nI (k + 1))), some (.int (bI (anyB (pD 63 kd x.2.1) n 0))), some (.int (nI 0))]) i158_129 rfl rfl (by decide) rfl ?_
          refine ev_goto (t := 39) i158_132 (by decide) ?_
          exfalso
          rw [z67] at z93
          cases z93
        · refine ev_iconst (v := nI 1) i158_96 (by decide) ?_
          refine ev_goto (t := 101) i158_97 (by decide) ?_
          refine ev_istore (L' := [some (.ref 111), some (.int (nI m)), some (.int (nI wd)), some (.int (nI b)), some (.int (nI k)), some (.int (bI (anyB (pD 63 kd x.2.1) n 0))), some (.int (nI 1))]) i158_101 ⟨Nat.le_of_ble_eq_true rfl, rfl⟩ rfl ?_
          refine ev_iload_n i158_103 rfl ?_
          refine ev_iload i158_104 rfl ?_
          refine evn_if_eq (t := 116) i158_106 (by decide) (by omega) (fun z106 => by exfalso; omega) (fun z106 => ?_)
          refine ev_iconst (v := nI 1) i158_109 (by decide) ?_
          refine ev_iload i158_110 rfl ?_
          refine ev_ishl i158_112 ?_
          refine ev_goto (t := 117) i158_113 (by decide) ?_
          refine ev_ior i158_117 ?_
          rw [or10 b (by omega) k (by omega)]
          refine ev_istore_n (L' := [some (.ref 111), some (.int (nI m)), some (.int (nI wd)), some (.int (nI (b ||| 2 ^ k))), some (.int (nI k)), some (.int (bI (anyB (pD 63 kd x.2.1) n 0))), some (.int (nI 1))]) i158_118 ⟨Nat.le_of_ble_eq_true rfl, rfl⟩ rfl ?_
          refine ev_aload_n i158_119 rfl ?_
          refine ev_iconst (v := nI 1) i158_120 (by decide) ?_
          refine ev_bipush (v := nI 63) i158_121 (by decide) ?_
          refine ev_iload i158_123 rfl ?_
          refine ev_callV (vs := [.int (nI 1), .int (nI 63), .int (nI 1)]) (rest := []) i158_125 ci158 lk8_132 (congrArg (fun q => q + 1) np135) ci135 (by decide) (by decide +kernel) (Nat.le_of_ble_eq_true rfl) ⟨rfl, rfl, Nat.le_of_ble_eq_true rfl⟩ rfl (by assumption) (c135 (rg := true) b3 b4 b5 b6.1 (by decide) (by decide) hC hT hx) (fun r H2 hq => ?_)
          obtain ⟨rfl, g2, hC, hT, hG2, hO2⟩ := hq
          rw [and63 n (by omega)] at hT
          rw [and63 n (by omega)]
          have hL := hL.of0 b3 hG2
          obtain ⟨c0, ⟨ms, mk, c1, c2, c3, c4⟩, c5⟩ := id hC
          unfold mOb at c0
          have hOO := hOO.trans hO2 (C := fun j => j = 114) (fun _ q => q) (fun _ q => q)
          show Ev tb 158 128 [some (.ref 111), some (.int (nI m)), some (.int (nI wd)), some (.int (nI (b ||| 2 ^ k))), some (.int (nI k)), some (.int (bI (anyB (pD 63 kd x.2.1) n 0))), some (.int (nI 1))] [.int (nI (srtF (HE n) kd x.2.1 s.2.1 true))] H2 _
          refine ev_pop i158_128 rfl ?_
          refine evn_iinc (d := 1) (L' := [some (.ref 111), some (.int (nI m)), some (.int (nI wd)), some (.int (nI (b ||| 2 ^ k))), some (.int (nI (k + 1))), some (.int (bI (anyB (pD 63 kd x.2.1) n 0))), some (.int (nI 1))]) i158_129 rfl rfl (by decide) rfl ?_
          refine ev_goto (t := 39) i158_132 (by decide) ?_
          have hs1 : ¬ srtF (HE n) kd x.2.1 s.2.1 false = 1 := by rw [hsn]; exact fun q => by have := (srt1 b3).mp q; simp [z67] at this
          have hw : wd.testBit k = true := by simpa using z88
          have er : rngL wd (HE n) sd kd s.1 s.2.1 (d + 1) k b x = rngL wd (HE n) sd kd s.1 s.2.1 d (k + 1) (b ||| 2 ^ k) (hrF (HE n) sd kd s.1 s.2.1 true x) := by
            conv => lhs; unfold rngL
            rw [if_neg (by simp [hw]), hw, if_pos ⟨rfl, hs1⟩]
          have hb2 : b ||| 2 ^ k < 256 := or10_lt (m := 8) hb (by omega)
          rw [er]
          exact lq158 b3 b4 b5 b6 hm hwd hsn d (k + 1) _ _ _ _ (by omega) hb2 hC hL hT (hrF_ok b6.1 b4 hx) hOO _ _
    · refine ev_iload_n i158_70 rfl ?_
      refine ev_iload i158_71 rfl ?_
      refine ev_callS (vs := [.int (nI wd), .int (nI k)]) (rest := []) i158_73 ci158 lk8_77 (Or.inl rfl) np118 (by decide +kernel) (Nat.le_of_ble_eq_true rfl) ⟨rfl, rfl, Nat.le_of_ble_eq_true rfl⟩ rfl (c118 (by omega) (by omega)) (fun r HH hq => ?_)
      obtain ⟨rfl, rfl⟩ := hq
      show Ev tb 158 76 [some (.ref 111), some (.int (nI m)), some (.int (nI wd)), some (.int (nI b)), some (.int (nI k)), some (.int (bI (anyB (pD 63 kd x.2.1) n 0))), w6] [.int (bI (wd.testBit k))] H1 _
      refine evb_if_ne (t := 82) i158_76 (by decide) (fun z76 => ?_) (fun z76 => ?_)
      · refine ev_iload_n i158_82 rfl ?_
        refine ev_iload i158_83 rfl ?_
        refine ev_callS (vs := [.int (nI wd), .int (nI k)]) (rest := []) i158_85 ci158 lk8_77 (Or.inl rfl) np118 (by decide +kernel) (Nat.le_of_ble_eq_true rfl) ⟨rfl, rfl, Nat.le_of_ble_eq_true rfl⟩ rfl (c118 (by omega) (by omega)) (fun r HH hq => ?_)
        obtain ⟨rfl, rfl⟩ := hq
        show Ev tb 158 88 [some (.ref 111), some (.int (nI m)), some (.int (nI wd)), some (.int (nI b)), some (.int (nI k)), some (.int (bI (anyB (pD 63 kd x.2.1) n 0))), w6] [.int (bI (wd.testBit k))] H1 _
        refine evb_if_eq (t := 100) i158_88 (by decide) (fun z88 => ?_) (fun z88 => ?_)
        · refine ev_iconst (v := nI 0) i158_100 (by decide) ?_
          refine ev_istore (L' := [some (.ref 111), some (.int (nI m)), some (.int (nI wd)), some (.int (nI b)), some (.int (nI k)), some (.int (bI (anyB (pD 63 kd x.2.1) n 0))), some (.int (nI 0))]) i158_101 ⟨Nat.le_of_ble_eq_true rfl, rfl⟩ rfl ?_
          refine ev_iload_n i158_103 rfl ?_
          refine ev_iload i158_104 rfl ?_
          refine evn_if_eq (t := 116) i158_106 (by decide) (by omega) (fun z106 => ?_) (fun z106 => by exfalso; omega)
          refine ev_iconst (v := nI 0) i158_116 (by decide) ?_
          refine ev_ior i158_117 ?_
          rw [or0]
          refine ev_istore_n (L' := [some (.ref 111), some (.int (nI m)), some (.int (nI wd)), some (.int (nI b)), some (.int (nI k)), some (.int (bI (anyB (pD 63 kd x.2.1) n 0))), some (.int (nI 0))]) i158_118 ⟨Nat.le_of_ble_eq_true rfl, rfl⟩ rfl ?_
          refine ev_aload_n i158_119 rfl ?_
          refine ev_iconst (v := nI 1) i158_120 (by decide) ?_
          refine ev_bipush (v := nI 63) i158_121 (by decide) ?_
          refine ev_iload i158_123 rfl ?_
          refine ev_callV (vs := [.int (nI 1), .int (nI 63), .int (nI 0)]) (rest := []) i158_125 ci158 lk8_132 (congrArg (fun q => q + 1) np135) ci135 (by decide) (by decide +kernel) (Nat.le_of_ble_eq_true rfl) ⟨rfl, rfl, Nat.le_of_ble_eq_true rfl⟩ rfl (by assumption) (c135 (rg := false) b3 b4 b5 b6.1 (by decide) (by decide) hC hT hx) (fun r H2 hq => ?_)
          obtain ⟨rfl, g2, hC, hT, hG2, hO2⟩ := hq
          rw [and63 n (by omega)] at hT
          rw [and63 n (by omega)]
          have hL := hL.of0 b3 hG2
          obtain ⟨c0, ⟨ms, mk, c1, c2, c3, c4⟩, c5⟩ := id hC
          unfold mOb at c0
          have hOO := hOO.trans hO2 (C := fun j => j = 114) (fun _ q => q) (fun _ q => q)
          show Ev tb 158 128 [some (.ref 111), some (.int (nI m)), some (.int (nI wd)), some (.int (nI b)), some (.int (nI k)), some (.int (bI (anyB (pD 63 kd x.2.1) n 0))), some (.int (nI 0))] [.int (nI (srtF (HE n) kd x.2.1 s.2.1 false))] H2 _
          refine ev_pop i158_128 rfl ?_
          refine evn_iinc (d := 1) (L' := [some (.ref 111), some (.int (nI m)), some (.int (nI wd)), some (.int (nI b)), some (.int (nI (k + 1))), some (.int (bI (anyB (pD 63 kd x.2.1) n 0))), some (.int (nI 0))]) i158_129 rfl rfl (by decide) rfl ?_
          refine ev_goto (t := 39) i158_132 (by decide) ?_
          exfalso
          rw [z76] at z88
          cases z88
        · refine ev_iload i158_91 rfl ?_
          refine evb_if_ne (t := 100) i158_93 (by decide) (fun z93 => ?_) (fun z93 => ?_)
          · refine ev_iconst (v := nI 0) i158_100 (by decide) ?_
            refine ev_istore (L' := [some (.ref 111), some (.int (nI m)), some (.int (nI wd)), some (.int (nI b)), some (.int (nI k)), some (.int (bI (anyB (pD 63 kd x.2.1) n 0))), some (.int (nI 0))]) i158_101 ⟨Nat.le_of_ble_eq_true rfl, rfl⟩ rfl ?_
            refine ev_iload_n i158_103 rfl ?_
            refine ev_iload i158_104 rfl ?_
            refine evn_if_eq (t := 116) i158_106 (by decide) (by omega) (fun z106 => ?_) (fun z106 => by exfalso; omega)
            refine ev_iconst (v := nI 0) i158_116 (by decide) ?_
            refine ev_ior i158_117 ?_
            rw [or0]
            refine ev_istore_n (L' := [some (.ref 111), some (.int (nI m)), some (.int (nI wd)), some (.int (nI b)), some (.int (nI k)), some (.int (bI (anyB (pD 63 kd x.2.1) n 0))), some (.int (nI 0))]) i158_118 ⟨Nat.le_of_ble_eq_true rfl, rfl⟩ rfl ?_
            refine ev_aload_n i158_119 rfl ?_
            refine ev_iconst (v := nI 1) i158_120 (by decide) ?_
            refine ev_bipush (v := nI 63) i158_121 (by decide) ?_
            refine ev_iload i158_123 rfl ?_
            refine ev_callV (vs := [.int (nI 1), .int (nI 63), .int (nI 0)]) (rest := []) i158_125 ci158 lk8_132 (congrArg (fun q => q + 1) np135) ci135 (by decide) (by decide +kernel) (Nat.le_of_ble_eq_true rfl) ⟨rfl, rfl, Nat.le_of_ble_eq_true rfl⟩ rfl (by assumption) (c135 (rg := false) b3 b4 b5 b6.1 (by decide) (by decide) hC hT hx) (fun r H2 hq => ?_)
            obtain ⟨rfl, g2, hC, hT, hG2, hO2⟩ := hq
            rw [and63 n (by omega)] at hT
            rw [and63 n (by omega)]
            have hL := hL.of0 b3 hG2
            obtain ⟨c0, ⟨ms, mk, c1, c2, c3, c4⟩, c5⟩ := id hC
            unfold mOb at c0
            have hOO := hOO.trans hO2 (C := fun j => j = 114) (fun _ q => q) (fun _ q => q)
            show Ev tb 158 128 [some (.ref 111), some (.int (nI m)), some (.int (nI wd)), some (.int (nI b)), some (.int (nI k)), some (.int (bI (anyB (pD 63 kd x.2.1) n 0))), some (.int (nI 0))] [.int (nI (srtF (HE n) kd x.2.1 s.2.1 false))] H2 _
            refine ev_pop i158_128 rfl ?_
            refine evn_iinc (d := 1) (L' := [some (.ref 111), some (.int (nI m)), some (.int (nI wd)), some (.int (nI b)), some (.int (nI (k + 1))), some (.int (bI (anyB (pD 63 kd x.2.1) n 0))), some (.int (nI 0))]) i158_129 rfl rfl (by decide) rfl ?_
            refine ev_goto (t := 39) i158_132 (by decide) ?_
            have hs1 : srtF (HE n) kd x.2.1 s.2.1 false = 1 := by rw [hsn]; exact (srt1 b3).mpr (by simpa using z67)
            have hw : wd.testBit k = true := by simpa using z88
            have er : rngL wd (HE n) sd kd s.1 s.2.1 (d + 1) k b x = rngL wd (HE n) sd kd s.1 s.2.1 d (k + 1) (b) (hrF (HE n) sd kd s.1 s.2.1 false x) := by
              conv => lhs; unfold rngL
              rw [if_neg (by simp [hw]), hw, if_neg (fun q => q.2 hs1)]
              rw [hr_cg (rg := true) (rg' := false) (by rw [hs1, hsn]; exact srt1r)]
            have hb2 : b < 256 := hb
            rw [er]
            exact lq158 b3 b4 b5 b6 hm hwd hsn d (k + 1) _ _ _ _ (by omega) hb2 hC hL hT (hrF_ok b6.1 b4 hx) hOO _ _
          · refine ev_iconst (v := nI 1) i158_96 (by decide) ?_
            refine ev_goto (t := 101) i158_97 (by decide) ?_
            refine ev_istore (L' := [some (.ref 111), some (.int (nI m)), some (.int (nI wd)), some (.int (nI b)), some (.int (nI k)), some (.int (bI (anyB (pD 63 kd x.2.1) n 0))), some (.int (nI 1))]) i158_101 ⟨Nat.le_of_ble_eq_true rfl, rfl⟩ rfl ?_
            refine ev_iload_n i158_103 rfl ?_
            refine ev_iload i158_104 rfl ?_
            refine evn_if_eq (t := 116) i158_106 (by decide) (by omega) (fun z106 => by exfalso; omega) (fun z106 => ?_)
            refine ev_iconst (v := nI 1) i158_109 (by decide) ?_
            refine ev_iload i158_110 rfl ?_
            refine ev_ishl i158_112 ?_
            refine ev_goto (t := 117) i158_113 (by decide) ?_
            refine ev_ior i158_117 ?_
            rw [or10 b (by omega) k (by omega)]
            refine ev_istore_n (L' := [some (.ref 111), some (.int (nI m)), some (.int (nI wd)), some (.int (nI (b ||| 2 ^ k))), some (.int (nI k)), some (.int (bI (anyB (pD 63 kd x.2.1) n 0))), some (.int (nI 1))]) i158_118 ⟨Nat.le_of_ble_eq_true rfl, rfl⟩ rfl ?_
            refine ev_aload_n i158_119 rfl ?_
            refine ev_iconst (v := nI 1) i158_120 (by decide) ?_
            refine ev_bipush (v := nI 63) i158_121 (by decide) ?_
            refine ev_iload i158_123 rfl ?_
            refine ev_callV (vs := [.int (nI 1), .int (nI 63), .int (nI 1)]) (rest := []) i158_125 ci158 lk8_132 (congrArg (fun q => q + 1) np135) ci135 (by decide) (by decide +kernel) (Nat.le_of_ble_eq_true rfl) ⟨rfl, rfl, Nat.le_of_ble_eq_true rfl⟩ rfl (by assumption) (c135 (rg := true) b3 b4 b5 b6.1 (by decide) (by decide) hC hT hx) (fun r H2 hq => ?_)
            obtain ⟨rfl, g2, hC, hT, hG2, hO2⟩ := hq
            rw [and63 n (by omega)] at hT
            rw [and63 n (by omega)]
            have hL := hL.of0 b3 hG2
            obtain ⟨c0, ⟨ms, mk, c1, c2, c3, c4⟩, c5⟩ := id hC
            unfold mOb at c0
            have hOO := hOO.trans hO2 (C := fun j => j = 114) (fun _ q => q) (fun _ q => q)
            show Ev tb 158 128 [some (.ref 111), some (.int (nI m)), some (.int (nI wd)), some (.int (nI (b ||| 2 ^ k))), some (.int (nI k)), some (.int (bI (anyB (pD 63 kd x.2.1) n 0))), some (.int (nI 1))] [.int (nI (srtF (HE n) kd x.2.1 s.2.1 true))] H2 _
            refine ev_pop i158_128 rfl ?_
            refine evn_iinc (d := 1) (L' := [some (.ref 111), some (.int (nI m)), some (.int (nI wd)), some (.int (nI (b ||| 2 ^ k))), some (.int (nI (k + 1))), some (.int (bI (anyB (pD 63 kd x.2.1) n 0))), some (.int (nI 1))]) i158_129 rfl rfl (by decide) rfl ?_
            refine ev_goto (t := 39) i158_132 (by decide) ?_
            exfalso
            rw [z67] at z93
            cases z93
      · refine ev_bipush (v := (-9)) i158_79 (by decide) ?_
        refine ev_iret i158_81 (by decide +kernel) ?_
        unfold rngL
        rw [if_pos ⟨by rw [hsn]; exact (srt1 b3).mpr (by simpa using z67), by simpa using z76⟩]
        exact ⟨rfl, _, hC, hL, hOO⟩
theorem y158 {tb : dxT} {H : dxH} {tx : Nat → Nat} {ln n : Nat} {sd kd : Nat → Nat} {s : Sn} {am : Nat} {stk : Nat → Sn} {kp : Nat → Bool} {ks : Nat → Sn} {tm : Nat} {tc th : Nat → Nat} {td : Nat → Bool} {sed : Int64} {m wd : Nat} (hI : MInv H tx ln n sd kd s am stk kp ks tm tc th td sed) (hS : SpOK tx ln n sd kd s am stk kp ks tm tc th) (hm1 : 1 ≤ m) (hm : m ≤ 8) (hr : wd < 2 ^ m) : Cl tb 158 [.ref 111, .int (nI m), .int (nI wd)] H (fun r H' => r = some (.int (if s.2.1 = true then -9 else rngL wd (HE n) sd kd s.1 s.2.1 m 0 0 s.2.2)) ∧ MInv H' tx ln n sd kd s am stk kp ks tm tc th td sed ∧ Off mC H H') := by
  obtain ⟨f, g, nx, ⟨hC, hL, e3, e6, e7, e8, hnx⟩, hR⟩ := id hI
  obtain ⟨⟨b1, b2⟩, b3, b4, b5, b6, b7, b8, b9, b10, b11⟩ := id hS
  obtain ⟨c0, ⟨ms, mk, c1, c2, c3, c4⟩, c5⟩ := id hC
  unfold mOb at c0
  have hp8 : 2 ^ m ≤ 2 ^ 8 := Nat.pow_le_pow_right (by decide) hm
  have hp0 := Nat.pow_pos (n := m) (show 0 < 2 by decide)
  have hOO : Off (fun j => j = 114) H H := Off.rf
  show Ev tb 158 0 [some (.ref 111), some (.int (nI m)), some (.int (nI wd)), none, none, none, none] [] H _
  refine ev_iload_n i158_0 rfl ?_
  refine ev_i2l i158_1 ?_
  refine ev_lconst (v := 1) i158_2 (by decide) ?_
  refine ev_ldc2 i158_3 ci158 ks8_138 ?_
  refine ev_callS (vs := [.long ((nI m).toInt64), .long 1, .long 8]) (rest := []) i158_6 ci158 lk8_62 (Or.inl rfl) np117 (by decide +kernel) (Nat.le_of_ble_eq_true rfl) ⟨rfl, rfl, Nat.le_of_ble_eq_true rfl⟩ rfl (c117) (fun r HH hq => ?_)
  obtain ⟨rfl, rfl⟩ := hq
  rw [inJ_M (x := (nI m)) (a := 1) (b := 8) (by decide) (by decide) (by decide) (by decide), show inM (nI m) 1 8 = true from ahd_n hm1 hm]
  show Ev tb 158 9 [some (.ref 111), some (.int (nI m)), some (.int (nI wd)), none, none, none, none] [.int (bI true)] H _
  refine evb_if_eq (t := 27) i158_9 (by decide) (fun z9 => by exfalso; cases z9) (fun z9 => ?_)
  refine ev_iload_n i158_12 rfl ?_
  refine ev_i2l i158_13 ?_
  refine ev_lconst (v := 0) i158_14 (by decide) ?_
  refine ev_iconst (v := nI 1) i158_15 (by decide) ?_
  refine ev_iload_n i158_16 rfl ?_
  refine ev_ishl i158_17 ?_
  rw [shl1 m (by omega)]
  refine ev_iconst (v := nI 1) i158_18 (by decide) ?_
  refine evn_isub i158_19 (by omega) ?_
  refine ev_i2l i158_20 ?_
  refine ev_callS (vs := [.long ((nI wd).toInt64), .long 0, .long ((nI ((2 ^ m) - 1)).toInt64)]) (rest := []) i158_21 ci158 lk8_62 (Or.inl rfl) np117 (by decide +kernel) (Nat.le_of_ble_eq_true rfl) ⟨rfl, rfl, Nat.le_of_ble_eq_true rfl⟩ rfl (c117) (fun r HH hq => ?_)
  obtain ⟨rfl, rfl⟩ := hq
  rw [inJ_R (x := nI wd) (m := 2 ^ m) (tenB (by omega) (by omega)) (by omega), inR_n (by omega) (by omega), decide_eq_true hr]
  show Ev tb 158 24 [some (.ref 111), some (.int (nI m)), some (.int (nI wd)), none, none, none, none] [.int (bI true)] H _
  refine evb_if_ne (t := 30) i158_24 (by decide) (fun z24 => ?_) (fun z24 => by exfalso; cases z24)
  refine ev_aload_n i158_30 rfl ?_
  refine ev_callV (vs := []) (rest := []) i158_31 ci158 lk8_140 (congrArg (fun q => q + 1) np143) ci143 (by decide) (by decide +kernel) (Nat.le_of_ble_eq_true rfl) ⟨rfl, rfl, Nat.le_of_ble_eq_true rfl⟩ rfl (by assumption) (c143 b3 hC hL) (fun r H1 hq => ?_)
  obtain ⟨rfl, g1, hC, hL, hT, hO1⟩ := hq
  obtain ⟨c0, ⟨ms, mk, c1, c2, c3, c4⟩, c5⟩ := id hC
  unfold mOb at c0
  have hOO := hOO.trans hO1 (C := fun j => j = 114) (fun _ q => q) (fun _ q => q)
  show Ev tb 158 34 [some (.ref 111), some (.int (nI m)), some (.int (nI wd)), none, none, none, none] [] H1 _
  refine ev_iconst (v := nI 0) i158_34 (by decide) ?_
  refine ev_istore_n (L' := [some (.ref 111), some (.int (nI m)), some (.int (nI wd)), some (.int (nI 0)), none, none, none]) i158_35 ⟨Nat.le_of_ble_eq_true rfl, rfl⟩ rfl ?_
  refine ev_iconst (v := nI 0) i158_36 (by decide) ?_
  refine ev_istore (L' := [some (.ref 111), some (.int (nI m)), some (.int (nI wd)), some (.int (nI 0)), some (.int (nI 0)), none, none]) i158_37 ⟨Nat.le_of_ble_eq_true rfl, rfl⟩ rfl ?_
  rcases Bool.eq_false_or_eq_true s.2.1 with hsn | hsn
  · refine ev_iload i158_39 rfl ?_
    refine ev_iload_n i158_41 rfl ?_
    refine evn_icmp_ge (t := 135) i158_42 (by decide) (by omega) (fun z42 => by exfalso; omega) (fun z42 => ?_)
    refine ev_aload_n i158_45 rfl ?_
    refine ev_iconst (v := nI 1) i158_46 (by decide) ?_
    refine ev_bipush (v := nI 63) i158_47 (by decide) ?_
    refine ev_callV (vs := [.int (nI 1), .int (nI 63)]) (rest := []) i158_49 ci158 lk8_115 (congrArg (fun q => q + 1) np132) ci132 (by decide) (by decide +kernel) (Nat.le_of_ble_eq_true rfl) ⟨rfl, rfl, Nat.le_of_ble_eq_true rfl⟩ rfl (by assumption) (c132 hC b3 b5 hT (by decide) b6.2.2.1 (by decide)) (fun r HH hq => ?_)
    obtain ⟨rfl, rfl⟩ := hq
    show Ev tb 158 52 [some (.ref 111), some (.int (nI m)), some (.int (nI wd)), some (.int (nI 0)), some (.int (nI 0)), none, none] [.int (bI (anyB (pD 63 kd s.2.2.2.1) n 0))] H1 _
    refine ev_istore (L' := [some (.ref 111), some (.int (nI m)), some (.int (nI wd)), some (.int (nI 0)), some (.int (nI 0)), some (.int (bI (anyB (pD 63 kd s.2.2.2.1) n 0))), none]) i158_52 ⟨Nat.le_of_ble_eq_true rfl, rfl⟩ rfl ?_
    refine ev_aload_n i158_54 rfl ?_
    refine ev_get i158_55 ci158 fl8_16 (by assumption) rfl ?_
    refine ev_bipush (v := nI 22) i158_58 (by decide) ?_
    refine ev_iald_n i158_60 (by assumption) (by omega) ?_
    have hh : g1 22 = bI s.2.1 := hL.2.2.2.1
    rw [hh, hsn]
    refine ev_iconst (v := nI 1) i158_61 (by decide) ?_
    refine ev_icmp_eq (t := 79) i158_62 (by decide) (fun z62 => ?_) (fun z62 => by exfalso; exact z62 (by decide))
    refine ev_bipush (v := (-9)) i158_79 (by decide) ?_
    refine ev_iret i158_81 (by decide +kernel) ?_
    exact ⟨by rw [if_pos rfl], MInv.tr (H := H) hC hL ⟨e3, e6, e7, e8, hnx⟩ hR hOO⟩
  · rw [if_neg (by simp [hsn])]
    refine (lq158 b3 b4 b5 b6 hm (by omega) hsn m 0 0 _ H1 g1 (by omega) (by omega) hC hL hT b6.2.2.1 hOO _ _).post (fun r H' hq2 => ?_)
    obtain ⟨h1, g2, hC2, hL2, hO2⟩ := hq2
    exact ⟨h1, MInv.tr (H := H) hC2 hL2 ⟨e3, e6, e7, e8, hnx⟩ hR hO2⟩
theorem y158f {tb : dxT} {H : dxH} {tx : Nat → Nat} {ln n : Nat} {sd kd : Nat → Nat} {s : Sn} {am : Nat} {stk : Nat → Sn} {kp : Nat → Bool} {ks : Nat → Sn} {tm : Nat} {tc th : Nat → Nat} {td : Nat → Bool} {sed : Int64} {x y : Int32} (hI : MInv H tx ln n sd kd s am stk kp ks tm tc th td sed) (hS : SpOK tx ln n sd kd s am stk kp ks tm tc th) (h : ahdB x = false) : Cl tb 158 [.ref 111, .int x, .int y] H (fun r H' => r = some (.int (-2)) ∧ MInv H' tx ln n sd kd s am stk kp ks tm tc th td sed ∧ Off mC H H') := by
  obtain ⟨f, g, nx, ⟨hC, hL, e3, e6, e7, e8, hnx⟩, hR⟩ := id hI
  obtain ⟨⟨b1, b2⟩, b3, b4, b5, b6, b7, b8, b9, b10, b11⟩ := id hS
  obtain ⟨c0, ⟨ms, mk, c1, c2, c3, c4⟩, c5⟩ := id hC
  unfold mOb at c0
  show Ev tb 158 0 [some (.ref 111), some (.int x), some (.int y), none, none, none, none] [] H _
  refine ev_iload_n i158_0 rfl ?_
  refine ev_i2l i158_1 ?_
  refine ev_lconst (v := 1) i158_2 (by decide) ?_
  refine ev_ldc2 i158_3 ci158 ks8_138 ?_
  refine ev_callS (vs := [.long x.toInt64, .long 1, .long 8]) (rest := []) i158_6 ci158 lk8_62 (Or.inl rfl) np117 (by decide +kernel) (Nat.le_of_ble_eq_true rfl) ⟨rfl, rfl, Nat.le_of_ble_eq_true rfl⟩ rfl (c117) (fun r HH hq => ?_)
  obtain ⟨rfl, rfl⟩ := hq
  rw [inJ_M (x := x) (a := 1) (b := 8) (by decide) (by decide) (by decide) (by decide), show inM x 1 8 = false from h]
  show Ev tb 158 9 [some (.ref 111), some (.int x), some (.int y), none, none, none, none] [.int (bI false)] H _
  refine evb_if_eq (t := 27) i158_9 (by decide) (fun z9 => ?_) (fun z9 => by exfalso; cases z9)
  refine ev_bipush (v := (-2)) i158_27 (by decide) ?_
  refine ev_iret i158_29 (by decide +kernel) ?_
  exact ⟨rfl, hI, Off.rf⟩
theorem y158o {tb : dxT} {H : dxH} {tx : Nat → Nat} {ln n : Nat} {sd kd : Nat → Nat} {s : Sn} {am : Nat} {stk : Nat → Sn} {kp : Nat → Bool} {ks : Nat → Sn} {tm : Nat} {tc th : Nat → Nat} {td : Nat → Bool} {sed : Int64} {m : Nat} {y : Int32} (hI : MInv H tx ln n sd kd s am stk kp ks tm tc th td sed) (hS : SpOK tx ln n sd kd s am stk kp ks tm tc th) (hm1 : 1 ≤ m) (hm : m ≤ 8) (h : inR y (2 ^ m) = false) : Cl tb 158 [.ref 111, .int (nI m), .int y] H (fun r H' => r = some (.int (-2)) ∧ MInv H' tx ln n sd kd s am stk kp ks tm tc th td sed ∧ Off mC H H') := by
  obtain ⟨f, g, nx, ⟨hC, hL, e3, e6, e7, e8, hnx⟩, hR⟩ := id hI
  obtain ⟨⟨b1, b2⟩, b3, b4, b5, b6, b7, b8, b9, b10, b11⟩ := id hS
  obtain ⟨c0, ⟨ms, mk, c1, c2, c3, c4⟩, c5⟩ := id hC
  unfold mOb at c0
  have hp8 : 2 ^ m ≤ 2 ^ 8 := Nat.pow_le_pow_right (by decide) hm
  have hp0 := Nat.pow_pos (n := m) (show 0 < 2 by decide)
  show Ev tb 158 0 [some (.ref 111), some (.int (nI m)), some (.int y), none, none, none, none] [] H _
  refine ev_iload_n i158_0 rfl ?_
  refine ev_i2l i158_1 ?_
  refine ev_lconst (v := 1) i158_2 (by decide) ?_
  refine ev_ldc2 i158_3 ci158 ks8_138 ?_
  refine ev_callS (vs := [.long ((nI m).toInt64), .long 1, .long 8]) (rest := []) i158_6 ci158 lk8_62 (Or.inl rfl) np117 (by decide +kernel) (Nat.le_of_ble_eq_true rfl) ⟨rfl, rfl, Nat.le_of_ble_eq_true rfl⟩ rfl (c117) (fun r HH hq => ?_)
  obtain ⟨rfl, rfl⟩ := hq
  rw [inJ_M (x := (nI m)) (a := 1) (b := 8) (by decide) (by decide) (by decide) (by decide), show inM (nI m) 1 8 = true from ahd_n hm1 hm]
  show Ev tb 158 9 [some (.ref 111), some (.int (nI m)), some (.int y), none, none, none, none] [.int (bI true)] H _
  refine evb_if_eq (t := 27) i158_9 (by decide) (fun z9 => by exfalso; cases z9) (fun z9 => ?_)
  refine ev_iload_n i158_12 rfl ?_
  refine ev_i2l i158_13 ?_
  refine ev_lconst (v := 0) i158_14 (by decide) ?_
  refine ev_iconst (v := nI 1) i158_15 (by decide) ?_
  refine ev_iload_n i158_16 rfl ?_
  refine ev_ishl i158_17 ?_
  rw [shl1 m (by omega)]
  refine ev_iconst (v := nI 1) i158_18 (by decide) ?_
  refine evn_isub i158_19 (by omega) ?_
  refine ev_i2l i158_20 ?_
  refine ev_callS (vs := [.long y.toInt64, .long 0, .long ((nI ((2 ^ m) - 1)).toInt64)]) (rest := []) i158_21 ci158 lk8_62 (Or.inl rfl) np117 (by decide +kernel) (Nat.le_of_ble_eq_true rfl) ⟨rfl, rfl, Nat.le_of_ble_eq_true rfl⟩ rfl (c117) (fun r HH hq => ?_)
  obtain ⟨rfl, rfl⟩ := hq
  rw [inJ_R (x := y) (m := 2 ^ m) (tenB (by omega) (by omega)) (by omega), h]
  show Ev tb 158 24 [some (.ref 111), some (.int (nI m)), some (.int y), none, none, none, none] [.int (bI false)] H _
  refine evb_if_ne (t := 30) i158_24 (by decide) (fun z24 => by exfalso; cases z24) (fun z24 => ?_)
  refine ev_bipush (v := (-2)) i158_27 (by decide) ?_
  refine ev_iret i158_29 (by decide +kernel) ?_
  exact ⟨rfl, hI, Off.rf⟩
theorem lq161i {tb : dxT} {H : dxH} {n : Nat} {f : Nat → Int32} {sed : Int64} {sd kd : Nat → Nat} {s : Sn} {tc th : Nat → Nat} {td : Nat → Bool} {tm : Nat} {ta tt : Nat → Int32} {tdd : Nat → Bool} {g : Nat → Int32} {x : Hs} {k fv h : Nat} {Q : Option Value → dxH → Prop} (b3 : n ≤ 6) (b5 : ∀ j, kd j < 4) (T1 : H[121]? = some (.inl (0, 6, .inl ta))) (T2 : H[122]? = some (.inl (0, 6, .inl tt))) (T3 : H[123]? = some (ZA 6 tdd)) (T4 : ∀ i, i < tm → ta i = nI (tc i) ∧ tt i = nI (th i) ∧ tdd i = td i) (e8 : f 8 = nI tm) (b9 : tm ≤ 6) (b10 : ∀ j, tc j < 6) (b11 : ∀ j, th j < 8) (hh8 : h < 8) (hC : MC H n f sed sd kd g) (hT : Lv g (27 * 1) n s.1 s.2.1 x) (hx : SOK x) : ∀ (d i : Nat) (acc : Bool), i + d = tm → (∀ w6, Ev tb 161 114 [some (.ref 111), some (.int (nI k)), some (.int (nI fv)), some (.int (bI (acc && !(anyB (offB (HE n) kd x.2.1 tc th td h) d i)))), some (.int (nI h)), some (.int (nI tm)), w6] [] H Q) → ∀ w6, Ev tb 161 29 [some (.ref 111), some (.int (nI k)), some (.int (nI fv)), some (.int (bI acc)), some (.int (nI h)), some (.int (nI i)), w6] [] H Q
  | 0, i, acc, hi, hQ, w6 => by
    obtain rfl : i = tm := by omega
    obtain ⟨c0, ⟨ms, mk, c1, c2, c3, c4⟩, c5⟩ := id hC
    unfold mOb at c0
    refine ev_iload i161_29 rfl ?_
    refine ev_aload_n i161_31 rfl ?_
    refine ev_get i161_32 ci161 fl8_174 (by assumption) rfl ?_
    rw [e8]
    refine evn_icmp_ge (t := 114) i161_35 (by decide) (by omega) (fun z35 => ?_) (fun z35 => by exfalso; omega)
    have k1 := hQ w6
    rw [show (acc && !(anyB (offB (HE n) kd x.2.1 tc th td h) 0 i)) = acc by show (acc && !false) = acc; simp] at k1
    exact k1
  | d + 1, i, acc, hi, hQ, w6 => by
    have q1 := b10 i
    have q2 := b11 i
    obtain ⟨c0, ⟨ms, mk, c1, c2, c3, c4⟩, c5⟩ := id hC
    unfold mOb at c0
    refine ev_iload i161_29 rfl ?_
    refine ev_aload_n i161_31 rfl ?_
    refine ev_get i161_32 ci161 fl8_174 (by assumption) rfl ?_
    rw [e8]
    refine evn_icmp_ge (t := 114) i161_35 (by decide) (by omega) (fun z35 => by exfalso; omega) (fun z35 => ?_)
    refine ev_aload_n i161_38 rfl ?_
    refine ev_get i161_39 ci161 fl8_40 (by assumption) rfl ?_
    refine ev_iload i161_42 rfl ?_
    refine ev_iald_n i161_44 (by assumption) (by omega) ?_
    rw [(T4 i (by omega)).2.1]
    refine ev_iload i161_45 rfl ?_
    refine evn_icmp_ne (t := 68) i161_47 (by decide) (by omega) (fun z47 => ?_) (fun z47 => ?_)
    · refine ev_iconst (v := nI 0) i161_68 (by decide) ?_
      refine ev_istore (L' := [some (.ref 111), some (.int (nI k)), some (.int (nI fv)), some (.int (bI acc)), some (.int (nI h)), some (.int (nI i)), some (.int (nI 0))]) i161_69 ⟨Nat.le_of_ble_eq_true rfl, rfl⟩ rfl ?_
      refine ev_iload_n i161_71 rfl ?_
      refine evb_if_eq (t := 106) i161_72 (by decide) (fun z72 => ?_) (fun z72 => ?_)
      · refine ev_iconst (v := nI 0) i161_106 (by decide) ?_
        refine ev_istore_n (L' := [some (.ref 111), some (.int (nI k)), some (.int (nI fv)), some (.int (nI 0)), some (.int (nI h)), some (.int (nI i)), some (.int (nI 0))]) i161_107 ⟨Nat.le_of_ble_eq_true rfl, rfl⟩ rfl ?_
        refine evn_iinc (d := 1) (L' := [some (.ref 111), some (.int (nI k)), some (.int (nI fv)), some (.int (nI 0)), some (.int (nI h)), some (.int (nI (i + 1))), some (.int (nI 0))]) i161_108 rfl rfl (by decide) rfl ?_
        refine ev_goto (t := 29) i161_111 (by decide) ?_
        have e : (acc && !(anyB (offB (HE n) kd x.2.1 tc th td h) (d + 1) i)) = (false && !(anyB (offB (HE n) kd x.2.1 tc th td h) d (i + 1))) := by
          show (acc && !((offB (HE n) kd x.2.1 tc th td h) i || anyB (offB (HE n) kd x.2.1 tc th td h) d (i + 1))) = _
          unfold offB
          simp [HE_bit, z47, z72]
        rw [e] at hQ
        exact lq161i b3 b5 T1 T2 T3 T4 e8 b9 b10 b11 hh8 hC hT hx d (i + 1) false (by omega) hQ _
      · refine ev_iload i161_75 rfl ?_
        refine evn_if_eq (t := 102) i161_77 (by decide) (by omega) (fun z77 => ?_) (fun z77 => by exfalso; omega)
        refine ev_iconst (v := nI 1) i161_102 (by decide) ?_
        refine ev_goto (t := 107) i161_103 (by decide) ?_
        refine ev_istore_n (L' := [some (.ref 111), some (.int (nI k)), some (.int (nI fv)), some (.int (nI 1)), some (.int (nI h)), some (.int (nI i)), some (.int (nI 0))]) i161_107 ⟨Nat.le_of_ble_eq_true rfl, rfl⟩ rfl ?_
        refine evn_iinc (d := 1) (L' := [some (.ref 111), some (.int (nI k)), some (.int (nI fv)), some (.int (nI 1)), some (.int (nI h)), some (.int (nI (i + 1))), some (.int (nI 0))]) i161_108 rfl rfl (by decide) rfl ?_
        refine ev_goto (t := 29) i161_111 (by decide) ?_
        have e : (acc && !(anyB (offB (HE n) kd x.2.1 tc th td h) (d + 1) i)) = (true && !(anyB (offB (HE n) kd x.2.1 tc th td h) d (i + 1))) := by
          show (acc && !((offB (HE n) kd x.2.1 tc th td h) i || anyB (offB (HE n) kd x.2.1 tc th td h) d (i + 1))) = _
          unfold offB
          simp [HE_bit, z47, z72]
        rw [e] at hQ
        exact lq161i b3 b5 T1 T2 T3 T4 e8 b9 b10 b11 hh8 hC hT hx d (i + 1) true (by omega) hQ _
    · refine ev_aload_n i161_50 rfl ?_
      refine ev_aload_n i161_51 rfl ?_
      refine ev_get i161_52 ci161 fl8_37 (by assumption) rfl ?_
      refine ev_iload i161_55 rfl ?_
      refine ev_iald_n i161_57 (by assumption) (by omega) ?_
      rw [(T4 i (by omega)).1]
      refine ev_callV (vs := [.int (nI (tc i))]) (rest := []) i161_58 ci161 lk8_108 (congrArg (fun q => q + 1) np128) ci128 (by decide) (by decide +kernel) (Nat.le_of_ble_eq_true rfl) ⟨rfl, rfl, Nat.le_of_ble_eq_true rfl⟩ rfl (by assumption) (c128 hC b3 b5) (fun r HH hq => ?_)
      obtain ⟨rfl, rfl⟩ := hq
      rw [inR_n (by omega) (by omega)]
      show Ev tb 161 61 [some (.ref 111), some (.int (nI k)), some (.int (nI fv)), some (.int (bI acc)), some (.int (nI h)), some (.int (nI i)), w6] [.int (bI (decide (tc i < n)))] H _
      refine evd_if_eq (t := 68) i161_61 (by decide) (fun z61 => ?_) (fun z61 => ?_)
      · refine ev_iconst (v := nI 0) i161_68 (by decide) ?_
        refine ev_istore (L' := [some (.ref 111), some (.int (nI k)), some (.int (nI fv)), some (.int (bI acc)), some (.int (nI h)), some (.int (nI i)), some (.int (nI 0))]) i161_69 ⟨Nat.le_of_ble_eq_true rfl, rfl⟩ rfl ?_
        refine ev_iload_n i161_71 rfl ?_
        refine evb_if_eq (t := 106) i161_72 (by decide) (fun z72 => ?_) (fun z72 => ?_)
        · refine ev_iconst (v := nI 0) i161_106 (by decide) ?_
          refine ev_istore_n (L' := [some (.ref 111), some (.int (nI k)), some (.int (nI fv)), some (.int (nI 0)), some (.int (nI h)), some (.int (nI i)), some (.int (nI 0))]) i161_107 ⟨Nat.le_of_ble_eq_true rfl, rfl⟩ rfl ?_
          refine evn_iinc (d := 1) (L' := [some (.ref 111), some (.int (nI k)), some (.int (nI fv)), some (.int (nI 0)), some (.int (nI h)), some (.int (nI (i + 1))), some (.int (nI 0))]) i161_108 rfl rfl (by decide) rfl ?_
          refine ev_goto (t := 29) i161_111 (by decide) ?_
          have e : (acc && !(anyB (offB (HE n) kd x.2.1 tc th td h) (d + 1) i)) = (false && !(anyB (offB (HE n) kd x.2.1 tc th td h) d (i + 1))) := by
            show (acc && !((offB (HE n) kd x.2.1 tc th td h) i || anyB (offB (HE n) kd x.2.1 tc th td h) d (i + 1))) = _
            unfold offB
            simp [HE_bit, z47, z61, z72]
          rw [e] at hQ
          exact lq161i b3 b5 T1 T2 T3 T4 e8 b9 b10 b11 hh8 hC hT hx d (i + 1) false (by omega) hQ _
        · refine ev_iload i161_75 rfl ?_
          refine evn_if_eq (t := 102) i161_77 (by decide) (by omega) (fun z77 => ?_) (fun z77 => by exfalso; omega)
          refine ev_iconst (v := nI 1) i161_102 (by decide) ?_
          refine ev_goto (t := 107) i161_103 (by decide) ?_
          refine ev_istore_n (L' := [some (.ref 111), some (.int (nI k)), some (.int (nI fv)), some (.int (nI 1)), some (.int (nI h)), some (.int (nI i)), some (.int (nI 0))]) i161_107 ⟨Nat.le_of_ble_eq_true rfl, rfl⟩ rfl ?_
          refine evn_iinc (d := 1) (L' := [some (.ref 111), some (.int (nI k)), some (.int (nI fv)), some (.int (nI 1)), some (.int (nI h)), some (.int (nI (i + 1))), some (.int (nI 0))]) i161_108 rfl rfl (by decide) rfl ?_
          refine ev_goto (t := 29) i161_111 (by decide) ?_
          have e : (acc && !(anyB (offB (HE n) kd x.2.1 tc th td h) (d + 1) i)) = (true && !(anyB (offB (HE n) kd x.2.1 tc th td h) d (i + 1))) := by
            show (acc && !((offB (HE n) kd x.2.1 tc th td h) i || anyB (offB (HE n) kd x.2.1 tc th td h) d (i + 1))) = _
            unfold offB
            simp [HE_bit, z47, z61, z72]
          rw [e] at hQ
          exact lq161i b3 b5 T1 T2 T3 T4 e8 b9 b10 b11 hh8 hC hT hx d (i + 1) true (by omega) hQ _
      · refine ev_iconst (v := nI 1) i161_64 (by decide) ?_
        refine ev_goto (t := 69) i161_65 (by decide) ?_
        refine ev_istore (L' := [some (.ref 111), some (.int (nI k)), some (.int (nI fv)), some (.int (bI acc)), some (.int (nI h)), some (.int (nI i)), some (.int (nI 1))]) i161_69 ⟨Nat.le_of_ble_eq_true rfl, rfl⟩ rfl ?_
        refine ev_iload_n i161_71 rfl ?_
        refine evb_if_eq (t := 106) i161_72 (by decide) (fun z72 => ?_) (fun z72 => ?_)
        · refine ev_iconst (v := nI 0) i161_106 (by decide) ?_
          refine ev_istore_n (L' := [some (.ref 111), some (.int (nI k)), some (.int (nI fv)), some (.int (nI 0)), some (.int (nI h)), some (.int (nI i)), some (.int (nI 1))]) i161_107 ⟨Nat.le_of_ble_eq_true rfl, rfl⟩ rfl ?_
          refine evn_iinc (d := 1) (L' := [some (.ref 111), some (.int (nI k)), some (.int (nI fv)), some (.int (nI 0)), some (.int (nI h)), some (.int (nI (i + 1))), some (.int (nI 1))]) i161_108 rfl rfl (by decide) rfl ?_
          refine ev_goto (t := 29) i161_111 (by decide) ?_
          have e : (acc && !(anyB (offB (HE n) kd x.2.1 tc th td h) (d + 1) i)) = (false && !(anyB (offB (HE n) kd x.2.1 tc th td h) d (i + 1))) := by
            show (acc && !((offB (HE n) kd x.2.1 tc th td h) i || anyB (offB (HE n) kd x.2.1 tc th td h) d (i + 1))) = _
            unfold offB
            simp [HE_bit, z47, z61, z72]
          rw [e] at hQ
          exact lq161i b3 b5 T1 T2 T3 T4 e8 b9 b10 b11 hh8 hC hT hx d (i + 1) false (by omega) hQ _
        · refine ev_iload i161_75 rfl ?_
          refine evn_if_eq (t := 102) i161_77 (by decide) (by omega) (fun z77 => by exfalso; omega) (fun z77 => ?_)
          refine ev_aload_n i161_80 rfl ?_
          refine ev_iconst (v := nI 1) i161_81 (by decide) ?_
          refine ev_aload_n i161_82 rfl ?_
          refine ev_get i161_83 ci161 fl8_37 (by assumption) rfl ?_
          refine ev_iload i161_86 rfl ?_
          refine ev_iald_n i161_88 (by assumption) (by omega) ?_
          rw [(T4 i (by omega)).1]
          refine ev_callV (vs := [.int (nI 1), .int (nI (tc i))]) (rest := []) i161_89 ci161 lk8_112 (congrArg (fun q => q + 1) np130) ci130 (by decide) (by decide +kernel) (Nat.le_of_ble_eq_true rfl) ⟨rfl, rfl, Nat.le_of_ble_eq_true rfl⟩ rfl (by assumption) (c130 hC b3 b5 hT (by decide) z61 hx) (fun r HH hq => ?_)
          obtain ⟨rfl, rfl⟩ := hq
          show Ev tb 161 92 [some (.ref 111), some (.int (nI k)), some (.int (nI fv)), some (.int (bI acc)), some (.int (nI h)), some (.int (nI i)), some (.int (nI 1))] [.int (bI (dueB (kd (tc i)) (x.2.1 (tc i))))] H _
          refine ev_aload_n i161_92 rfl ?_
          refine ev_get i161_93 ci161 fl8_43 (by assumption) rfl ?_
          refine ev_iload i161_96 rfl ?_
          refine evz_bald i161_98 (by assumption) (by omega) ?_
          rw [(T4 i (by omega)).2.2]
          refine evb_icmp_ne (t := 106) i161_99 (by decide) (fun z99 => ?_) (fun z99 => ?_)
          · refine ev_iconst (v := nI 0) i161_106 (by decide) ?_
            refine ev_istore_n (L' := [some (.ref 111), some (.int (nI k)), some (.int (nI fv)), some (.int (nI 0)), some (.int (nI h)), some (.int (nI i)), some (.int (nI 1))]) i161_107 ⟨Nat.le_of_ble_eq_true rfl, rfl⟩ rfl ?_
            refine evn_iinc (d := 1) (L' := [some (.ref 111), some (.int (nI k)), some (.int (nI fv)), some (.int (nI 0)), some (.int (nI h)), some (.int (nI (i + 1))), some (.int (nI 1))]) i161_108 rfl rfl (by decide) rfl ?_
            refine ev_goto (t := 29) i161_111 (by decide) ?_
            have e : (acc && !(anyB (offB (HE n) kd x.2.1 tc th td h) (d + 1) i)) = (false && !(anyB (offB (HE n) kd x.2.1 tc th td h) d (i + 1))) := by
              show (acc && !((offB (HE n) kd x.2.1 tc th td h) i || anyB (offB (HE n) kd x.2.1 tc th td h) d (i + 1))) = _
              unfold offB
              simp [HE_bit, z47, z61, z72, z99]
            rw [e] at hQ
            exact lq161i b3 b5 T1 T2 T3 T4 e8 b9 b10 b11 hh8 hC hT hx d (i + 1) false (by omega) hQ _
          · refine ev_iconst (v := nI 1) i161_102 (by decide) ?_
            refine ev_goto (t := 107) i161_103 (by decide) ?_
            refine ev_istore_n (L' := [some (.ref 111), some (.int (nI k)), some (.int (nI fv)), some (.int (nI 1)), some (.int (nI h)), some (.int (nI i)), some (.int (nI 1))]) i161_107 ⟨Nat.le_of_ble_eq_true rfl, rfl⟩ rfl ?_
            refine evn_iinc (d := 1) (L' := [some (.ref 111), some (.int (nI k)), some (.int (nI fv)), some (.int (nI 1)), some (.int (nI h)), some (.int (nI (i + 1))), some (.int (nI 1))]) i161_108 rfl rfl (by decide) rfl ?_
            refine ev_goto (t := 29) i161_111 (by decide) ?_
            have e : (acc && !(anyB (offB (HE n) kd x.2.1 tc th td h) (d + 1) i)) = (true && !(anyB (offB (HE n) kd x.2.1 tc th td h) d (i + 1))) := by
              show (acc && !((offB (HE n) kd x.2.1 tc th td h) i || anyB (offB (HE n) kd x.2.1 tc th td h) d (i + 1))) = _
              unfold offB
              simp [HE_bit, z47, z61, z72, z99]
            rw [e] at hQ
            exact lq161i b3 b5 T1 T2 T3 T4 e8 b9 b10 b11 hh8 hC hT hx d (i + 1) true (by omega) hQ _
theorem lq161 {tb : dxT} {H : dxH} {n : Nat} {f : Nat → Int32} {sed : Int64} {sd kd : Nat → Nat} {s : Sn} {tc th : Nat → Nat} {td : Nat → Bool} {tm : Nat} {ta tt : Nat → Int32} {tdd : Nat → Bool} {k fv : Nat} (b3 : n ≤ 6) (b4 : ∀ j, sd j < 2) (b5 : ∀ j, kd j < 4) (b6 : SnOK n s) (T1 : H[121]? = some (.inl (0, 6, .inl ta))) (T2 : H[122]? = some (.inl (0, 6, .inl tt))) (T3 : H[123]? = some (ZA 6 tdd)) (T4 : ∀ i, i < tm → ta i = nI (tc i) ∧ tt i = nI (th i) ∧ tdd i = td i) (e8 : f 8 = nI tm) (b9 : tm ≤ 6) (b10 : ∀ j, tc j < 6) (b11 : ∀ j, th j < 8) : ∀ (d h : Nat) (acc : Bool) (x : Hs) (H1 : dxH) (g : Nat → Int32), h + d = 8 → MC H1 n f sed sd kd g → LvS g 0 n s → Lv g (27 * 1) n s.1 s.2.1 x → SOK x → Off (fun j => j = 114) H H1 → ∀ w5 w6, Ev tb 161 19 [some (.ref 111), some (.int (nI k)), some (.int (nI fv)), some (.int (bI acc)), some (.int (nI h)), w5, w6] [] H1 (fun r H' => r = some (.int (bI (acc && allL (HE n) sd kd s.1 s.2.1 tc th td tm d h x))) ∧ ∃ g', MC H' n f sed sd kd g' ∧ LvS g' 0 n s ∧ Off (fun j => j = 114) H H')
  | 0, h, acc, x, H1, g, hh, hC, hL, hT, hx, hOO, w5, w6 => by
    obtain rfl : h = 8 := by omega
    obtain ⟨c0, ⟨ms, mk, c1, c2, c3, c4⟩, c5⟩ := id hC
    unfold mOb at c0
    refine ev_iload i161_19 rfl ?_
    refine ev_bipush (v := nI 8) i161_21 (by decide) ?_
    refine evn_icmp_ge (t := 129) i161_23 (by decide) (by omega) (fun z23 => ?_) (fun z23 => by exfalso; omega)
    refine ev_iload_n i161_129 rfl ?_
    refine ev_zret i161_130 (by decide +kernel) (bI_and _) ?_
    rw [show (acc && allL (HE n) sd kd s.1 s.2.1 tc th td tm 0 8 x) = acc from Bool.and_true _]
    exact ⟨rfl, g, hC, hL, hOO⟩
  | d + 1, h, acc, x, H1, g, hh, hC, hL, hT, hx, hOO, w5, w6 => by
    obtain ⟨c0, ⟨ms, mk, c1, c2, c3, c4⟩, c5⟩ := id hC
    unfold mOb at c0
    refine ev_iload i161_19 rfl ?_
    refine ev_bipush (v := nI 8) i161_21 (by decide) ?_
    refine evn_icmp_ge (t := 129) i161_23 (by decide) (by omega) (fun z23 => by exfalso; omega) (fun z23 => ?_)
    refine ev_iconst (v := nI 0) i161_26 (by decide) ?_
    refine ev_istore (L' := [some (.ref 111), some (.int (nI k)), some (.int (nI fv)), some (.int (bI acc)), some (.int (nI h)), some (.int (nI 0)), w6]) i161_27 ⟨Nat.le_of_ble_eq_true rfl, rfl⟩ rfl ?_
    refine lq161i b3 b5 (hOO.at T1 (by decide)) (hOO.at T2 (by decide)) (hOO.at T3 (by decide)) T4 e8 b9 b10 b11 (by omega) hC hT hx tm 0 acc (by omega) (fun w6 => ?_) _
    refine ev_aload_n i161_114 rfl ?_
    refine ev_iconst (v := nI 1) i161_115 (by decide) ?_
    refine ev_bipush (v := nI 63) i161_116 (by decide) ?_
    refine ev_iconst (v := nI 0) i161_118 (by decide) ?_
    refine ev_callV (vs := [.int (nI 1), .int (nI 63), .int (nI 0)]) (rest := []) i161_119 ci161 lk8_132 (congrArg (fun q => q + 1) np135) ci135 (by decide) (by decide +kernel) (Nat.le_of_ble_eq_true rfl) ⟨rfl, rfl, Nat.le_of_ble_eq_true rfl⟩ rfl (by assumption) (c135 (rg := false) b3 b4 b5 b6.1 (by decide) (by decide) hC hT hx) (fun r H2 hq => ?_)
    obtain ⟨rfl, g2, hC, hT, hG2, hO2⟩ := hq
    rw [and63 n (by omega)] at hT
    rw [and63 n (by omega)]
    have hL := hL.of0 b3 hG2
    obtain ⟨c0, ⟨ms, mk, c1, c2, c3, c4⟩, c5⟩ := id hC
    unfold mOb at c0
    have hOO := hOO.trans hO2 (C := fun j => j = 114) (fun _ q => q) (fun _ q => q)
    have hx3 := hrF_ok (he := HE n) (sd := sd) (kd := kd) (ce := s.1) (sn := s.2.1) (rg := false) b6.1 b4 hx
    show Ev tb 161 122 [some (.ref 111), some (.int (nI k)), some (.int (nI fv)), some (.int (bI (acc && !(anyB (offB (HE n) kd x.2.1 tc th td h) tm 0)))), some (.int (nI h)), some (.int (nI tm)), w6] [.int (nI (srtF (HE n) kd x.2.1 s.2.1 false))] H2 _
    refine ev_pop i161_122 rfl ?_
    refine evn_iinc (d := 1) (L' := [some (.ref 111), some (.int (nI k)), some (.int (nI fv)), some (.int (bI (acc && !(anyB (offB (HE n) kd x.2.1 tc th td h) tm 0)))), some (.int (nI (h + 1))), some (.int (nI tm)), w6]) i161_123 rfl rfl (by decide) rfl ?_
    refine ev_goto (t := 19) i161_126 (by decide) ?_
    have ea : (acc && allL (HE n) sd kd s.1 s.2.1 tc th td tm (d + 1) h x) = ((acc && !(anyB (offB (HE n) kd x.2.1 tc th td h) tm 0)) && allL (HE n) sd kd s.1 s.2.1 tc th td tm d (h + 1) (hrF (HE n) sd kd s.1 s.2.1 false x)) := by
      conv => lhs; unfold allL
      rw [Bool.and_assoc]
    rw [ea]
    exact lq161 b3 b4 b5 b6 T1 T2 T3 T4 e8 b9 b10 b11 d (h + 1) _ _ _ _ (by omega) hC hL hT hx3 hOO _ _
theorem c161 {tb : dxT} {H : dxH} {n : Nat} {f : Nat → Int32} {sed : Int64} {sd kd : Nat → Nat} {s : Sn} {tc th : Nat → Nat} {td : Nat → Bool} {tm : Nat} {ta tt : Nat → Int32} {tdd : Nat → Bool} {k fv : Nat} {g : Nat → Int32} (b3 : n ≤ 6) (b4 : ∀ j, sd j < 2) (b5 : ∀ j, kd j < 4) (b6 : SnOK n s) (T1 : H[121]? = some (.inl (0, 6, .inl ta))) (T2 : H[122]? = some (.inl (0, 6, .inl tt))) (T3 : H[123]? = some (ZA 6 tdd)) (T4 : ∀ i, i < tm → ta i = nI (tc i) ∧ tt i = nI (th i) ∧ tdd i = td i) (e8 : f 8 = nI tm) (b9 : tm ≤ 6) (b10 : ∀ j, tc j < 6) (b11 : ∀ j, th j < 8) (hk : k < n) (hfv : fv < 10) (hC : MC H n f sed sd kd g) (hL : LvS g 0 n s) : Cl tb 161 [.ref 111, .int (nI k), .int (nI fv)] H (fun r H' => r = some (.int (bI ((allL (HE n) sd kd s.1 s.2.1 tc th td tm 8 0 (s.2.2.1, updN s.2.2.2.1 k fv, s.2.2.2.2))))) ∧ ∃ g', MC H' n f sed sd kd g' ∧ LvS g' 0 n s ∧ Off (fun j => j = 114) H H') := by
  have hOO : Off (fun j => j = 114) H H := Off.rf
  obtain ⟨c0, ⟨ms, mk, c1, c2, c3, c4⟩, c5⟩ := id hC
  unfold mOb at c0
  show Ev tb 161 0 [some (.ref 111), some (.int (nI k)), some (.int (nI fv)), none, none, none, none] [] H _
  refine ev_aload_n i161_0 rfl ?_
  refine ev_callV (vs := []) (rest := []) i161_1 ci161 lk8_140 (congrArg (fun q => q + 1) np143) ci143 (by decide) (by decide +kernel) (Nat.le_of_ble_eq_true rfl) ⟨rfl, rfl, Nat.le_of_ble_eq_true rfl⟩ rfl (by assumption) (c143 b3 hC hL) (fun r H1 hq => ?_)
  obtain ⟨rfl, g1, hC, hL, hT, hO1⟩ := hq
  obtain ⟨c0, ⟨ms, mk, c1, c2, c3, c4⟩, c5⟩ := id hC
  unfold mOb at c0
  have hOO := hOO.trans hO1 (C := fun j => j = 114) (fun _ q => q) (fun _ q => q)
  show Ev tb 161 4 [some (.ref 111), some (.int (nI k)), some (.int (nI fv)), none, none, none, none] [] H1 _
  have hO := hOO
  refine ev_aload_n i161_4 rfl ?_
  refine ev_get i161_5 ci161 fl8_16 (by assumption) rfl ?_
  refine ev_bipush (v := nI 43) i161_8 (by decide) ?_
  refine ev_iload_n i161_10 rfl ?_
  refine evn_iadd i161_11 ?_
  refine ev_iload_n i161_12 rfl ?_
  refine evs_iastw i161_13 (by assumption) (by omega) (fun H2 hH2 => ?_)
  have c0 : H2[111]? = some (.inr (8, [.int (nI n), .ref 112, .ref 113, .ref 114, .ref 115, .ref 116, .ref 117, .int (f 0), .int (f 1), .int (f 2), .ref 118, .int (f 3), .int (f 4), .int (f 5), .int (f 6), .int (f 7), .ref 119, .ref 120, .int (f 8), .ref 121, .ref 122, .ref 123, .ref 124, .long sed, .ref 125, .ref 126])) := by rw [hH2]; exact set_ne c0 (by omega)
  have c1 : H2[112]? = some (.inl (0, 6, .inl ms)) := by rw [hH2]; exact set_ne c1 (by omega)
  have c3 : H2[113]? = some (.inl (0, 6, .inl mk)) := by rw [hH2]; exact set_ne c3 (by omega)
  have c5 : H2[114]? = some (.inl (0, 54, .inl (upd g1 (43 + k) (nI fv)))) := by rw [hH2]; exact set_self c5
  have hO : Off (fun j => j = 114) H H2 := by rw [hH2]; exact hO.set (by rfl)
  refine ev_iconst (v := nI 1) i161_14 (by decide) ?_
  refine ev_istore_n (L' := [some (.ref 111), some (.int (nI k)), some (.int (nI fv)), some (.int (nI 1)), none, none, none]) i161_15 ⟨Nat.le_of_ble_eq_true rfl, rfl⟩ rfl ?_
  refine ev_iconst (v := nI 0) i161_16 (by decide) ?_
  refine ev_istore (L' := [some (.ref 111), some (.int (nI k)), some (.int (nI fv)), some (.int (nI 1)), some (.int (nI 0)), none, none]) i161_17 ⟨Nat.le_of_ble_eq_true rfl, rfl⟩ rfl ?_
  refine (lq161 b3 b4 b5 b6 T1 T2 T3 T4 e8 b9 b10 b11 8 0 true (s.2.2.1, updN s.2.2.2.1 k fv, s.2.2.2.2) H2 _ (by omega) ⟨c0, ⟨ms, mk, c1, c2, c3, c4⟩, c5⟩ (hL.of0 b3 (ofL.rf.up (by omega))) (hT.fu (v := fv) b3 hk) ⟨b6.x.1, updN_lt b6.x.2.1 hfv, b6.x.2.2.1, b6.x.2.2.2.1.up (by omega), b6.x.2.2.2.2⟩ hO _ _).post (fun r H' hq2 => ?_)
  rw [Bool.true_and] at hq2
  exact hq2
theorem lq162 {tb : dxT} {H : dxH} {n : Nat} {f : Nat → Int32} {sed : Int64} {sd kd : Nat → Nat} {s : Sn} {tc th : Nat → Nat} {td : Nat → Bool} {tm : Nat} {ta tt : Nat → Int32} {tdd : Nat → Bool} {k : Nat} (b3 : n ≤ 6) (b4 : ∀ j, sd j < 2) (b5 : ∀ j, kd j < 4) (b6 : SnOK n s) (T1 : H[121]? = some (.inl (0, 6, .inl ta))) (T2 : H[122]? = some (.inl (0, 6, .inl tt))) (T3 : H[123]? = some (ZA 6 tdd)) (T4 : ∀ i, i < tm → ta i = nI (tc i) ∧ tt i = nI (th i) ∧ tdd i = td i) (e8 : f 8 = nI tm) (b9 : tm ≤ 6) (b10 : ∀ j, tc j < 6) (b11 : ∀ j, th j < 8) (hk : k < n) : ∀ (d fv b : Nat) (H1 : dxH) (g : Nat → Int32), fv + d = 10 → b < 1024 → MC H1 n f sed sd kd g → LvS g 0 n s → Off (fun j => j = 114) H H1 → Ev tb 162 14 [some (.ref 111), some (.int (nI k)), some (.int (nI b)), some (.int (nI fv))] [] H1 (fun r H' => r = some (.int (nI (fulL (HE n) sd kd s.1 s.2.1 tc th td tm k s.2.2 d fv b))) ∧ ∃ g', MC H' n f sed sd kd g' ∧ LvS g' 0 n s ∧ Off (fun j => j = 114) H H')
  | 0, fv, b, H1, g, hf, hb, hC, hL, hOO => by
    obtain rfl : fv = 10 := by omega
    obtain ⟨c0, ⟨ms, mk, c1, c2, c3, c4⟩, c5⟩ := id hC
    unfold mOb at c0
    refine ev_iload_n i162_14 rfl ?_
    refine ev_bipush (v := nI 10) i162_15 (by decide) ?_
    refine evn_icmp_ge (t := 45) i162_17 (by decide) (by omega) (fun z17 => ?_) (fun z17 => by exfalso; omega)
    refine ev_iload_n i162_45 rfl ?_
    refine ev_iret i162_46 (by decide +kernel) ?_
    exact ⟨rfl, g, hC, hL, hOO⟩
  | d + 1, fv, b, H1, g, hf, hb, hC, hL, hOO => by
    obtain ⟨c0, ⟨ms, mk, c1, c2, c3, c4⟩, c5⟩ := id hC
    unfold mOb at c0
    refine ev_iload_n i162_14 rfl ?_
    refine ev_bipush (v := nI 10) i162_15 (by decide) ?_
    refine evn_icmp_ge (t := 45) i162_17 (by decide) (by omega) (fun z17 => by exfalso; omega) (fun z17 => ?_)
    refine ev_iload_n i162_20 rfl ?_
    refine ev_aload_n i162_21 rfl ?_
    refine ev_iload_n i162_22 rfl ?_
    refine ev_iload_n i162_23 rfl ?_
    refine ev_callV (vs := [.int (nI k), .int (nI fv)]) (rest := [.int (nI b)]) i162_24 ci162 lk8_177 (congrArg (fun q => q + 1) np161) ci161 (by decide) (by decide +kernel) (Nat.le_of_ble_eq_true rfl) ⟨rfl, rfl, Nat.le_of_ble_eq_true rfl⟩ rfl (by assumption) (c161 b3 b4 b5 b6 (hOO.at T1 (by decide)) (hOO.at T2 (by decide)) (hOO.at T3 (by decide)) T4 e8 b9 b10 b11 hk (by omega) hC hL) (fun r H2 hq => ?_)
    obtain ⟨rfl, g2, hC, hL, hO2⟩ := hq
    obtain ⟨c0, ⟨ms, mk, c1, c2, c3, c4⟩, c5⟩ := id hC
    unfold mOb at c0
    have hOO := hOO.trans hO2 (C := fun j => j = 114) (fun _ q => q) (fun _ q => q)
    show Ev tb 162 27 [some (.ref 111), some (.int (nI k)), some (.int (nI b)), some (.int (nI fv))] [.int (bI (allL (HE n) sd kd s.1 s.2.1 tc th td tm 8 0 (s.2.2.1, updN s.2.2.2.1 k fv, s.2.2.2.2))), .int (nI b)] H2 _
    refine evb_if_eq (t := 36) i162_27 (by decide) (fun z27 => ?_) (fun z27 => ?_)
    · refine ev_iconst (v := nI 0) i162_36 (by decide) ?_
      refine ev_ior i162_37 ?_
      rw [or0]
      refine ev_istore_n (L' := [some (.ref 111), some (.int (nI k)), some (.int (nI b)), some (.int (nI fv))]) i162_38 ⟨Nat.le_of_ble_eq_true rfl, rfl⟩ rfl ?_
      refine evn_iinc (d := 1) (L' := [some (.ref 111), some (.int (nI k)), some (.int (nI b)), some (.int (nI (fv + 1)))]) i162_39 rfl rfl (by decide) rfl ?_
      refine ev_goto (t := 14) i162_42 (by decide) ?_
      have ef : fulL (HE n) sd kd s.1 s.2.1 tc th td tm k s.2.2 (d + 1) fv b = fulL (HE n) sd kd s.1 s.2.1 tc th td tm k s.2.2 d (fv + 1) (b) := by
        conv => lhs; unfold fulL
        rw [if_neg (by simp [z27])]
      rw [ef]
      exact lq162 b3 b4 b5 b6 T1 T2 T3 T4 e8 b9 b10 b11 hk d (fv + 1) _ _ _ (by omega) hb hC hL hOO
    · refine ev_iconst (v := nI 1) i162_30 (by decide) ?_
      refine ev_iload_n i162_31 rfl ?_
      refine ev_ishl i162_32 ?_
      refine ev_goto (t := 37) i162_33 (by decide) ?_
      refine ev_ior i162_37 ?_
      rw [or10 b (by omega) fv (by omega)]
      refine ev_istore_n (L' := [some (.ref 111), some (.int (nI k)), some (.int (nI (b ||| 2 ^ fv))), some (.int (nI fv))]) i162_38 ⟨Nat.le_of_ble_eq_true rfl, rfl⟩ rfl ?_
      refine evn_iinc (d := 1) (L' := [some (.ref 111), some (.int (nI k)), some (.int (nI (b ||| 2 ^ fv))), some (.int (nI (fv + 1)))]) i162_39 rfl rfl (by decide) rfl ?_
      refine ev_goto (t := 14) i162_42 (by decide) ?_
      have ef : fulL (HE n) sd kd s.1 s.2.1 tc th td tm k s.2.2 (d + 1) fv b = fulL (HE n) sd kd s.1 s.2.1 tc th td tm k s.2.2 d (fv + 1) (b ||| 2 ^ fv) := by
        conv => lhs; unfold fulL
        rw [if_pos z27]
      rw [ef]
      exact lq162 b3 b4 b5 b6 T1 T2 T3 T4 e8 b9 b10 b11 hk d (fv + 1) _ _ _ (by omega) (or10_lt (m := 10) hb (by omega)) hC hL hOO
theorem y162 {tb : dxT} {H : dxH} {tx : Nat → Nat} {ln n : Nat} {sd kd : Nat → Nat} {s : Sn} {am : Nat} {stk : Nat → Sn} {kp : Nat → Bool} {ks : Nat → Sn} {tm : Nat} {tc th : Nat → Nat} {td : Nat → Bool} {sed : Int64} {k : Nat} (hI : MInv H tx ln n sd kd s am stk kp ks tm tc th td sed) (hS : SpOK tx ln n sd kd s am stk kp ks tm tc th) (hk : k < n) : Cl tb 162 [.ref 111, .int (nI k)] H (fun r H' => r = some (.int (nI (fulL (HE n) sd kd s.1 s.2.1 tc th td tm k s.2.2 10 0 0))) ∧ MInv H' tx ln n sd kd s am stk kp ks tm tc th td sed ∧ Off mC H H') := by
  obtain ⟨f, g, nx, ⟨hC, hL, e3, e6, e7, e8, hnx⟩, hR⟩ := id hI
  obtain ⟨⟨b1, b2⟩, b3, b4, b5, b6, b7, b8, b9, b10, b11⟩ := id hS
  obtain ⟨c0, ⟨ms, mk, c1, c2, c3, c4⟩, c5⟩ := id hC
  unfold mOb at c0
  obtain ⟨_, _, ⟨ta, tt, tdd, T1, T2, T3, T4⟩, _⟩ := id hR
  show Ev tb 162 0 [some (.ref 111), some (.int (nI k)), none, none] [] H _
  refine ev_aload_n i162_0 rfl ?_
  refine ev_iload_n i162_1 rfl ?_
  refine ev_callV (vs := [.int (nI k)]) (rest := []) i162_2 ci162 lk8_108 (congrArg (fun q => q + 1) np128) ci128 (by decide) (by decide +kernel) (Nat.le_of_ble_eq_true rfl) ⟨rfl, rfl, Nat.le_of_ble_eq_true rfl⟩ rfl (by assumption) (c128 hC b3 b5) (fun r HH hq => ?_)
  obtain ⟨rfl, rfl⟩ := hq
  rw [inR_n (by omega) (by omega), decide_eq_true hk]
  show Ev tb 162 5 [some (.ref 111), some (.int (nI k)), none, none] [.int (bI true)] H _
  refine evb_if_ne (t := 10) i162_5 (by decide) (fun z5 => ?_) (fun z5 => by exfalso; cases z5)
  refine ev_iconst (v := nI 0) i162_10 (by decide) ?_
  refine ev_istore_n (L' := [some (.ref 111), some (.int (nI k)), some (.int (nI 0)), none]) i162_11 ⟨Nat.le_of_ble_eq_true rfl, rfl⟩ rfl ?_
  refine ev_iconst (v := nI 0) i162_12 (by decide) ?_
  refine ev_istore_n (L' := [some (.ref 111), some (.int (nI k)), some (.int (nI 0)), some (.int (nI 0))]) i162_13 ⟨Nat.le_of_ble_eq_true rfl, rfl⟩ rfl ?_
  refine (lq162 b3 b4 b5 b6 T1 T2 T3 T4 e8 b9 b10 b11 hk 10 0 0 H g (by omega) (by omega) hC hL Off.rf).post (fun r H' hq2 => ?_)
  obtain ⟨h1, g2, hC2, hL2, hO2⟩ := hq2
  exact ⟨h1, MInv.tr (H := H) hC2 hL2 ⟨e3, e6, e7, e8, hnx⟩ hR hO2⟩
theorem y162u {tb : dxT} {H : dxH} {tx : Nat → Nat} {ln n : Nat} {sd kd : Nat → Nat} {s : Sn} {am : Nat} {stk : Nat → Sn} {kp : Nat → Bool} {ks : Nat → Sn} {tm : Nat} {tc th : Nat → Nat} {td : Nat → Bool} {sed : Int64} {x : Int32} (hI : MInv H tx ln n sd kd s am stk kp ks tm tc th td sed) (hS : SpOK tx ln n sd kd s am stk kp ks tm tc th) (h : inR x n = false) : Cl tb 162 [.ref 111, .int x] H (fun r H' => r = some (.int (-1)) ∧ MInv H' tx ln n sd kd s am stk kp ks tm tc th td sed ∧ Off mC H H') := by
  obtain ⟨f, g, nx, ⟨hC, hL, e3, e6, e7, e8, hnx⟩, hR⟩ := id hI
  obtain ⟨⟨b1, b2⟩, b3, b4, b5, b6, b7, b8, b9, b10, b11⟩ := id hS
  obtain ⟨c0, ⟨ms, mk, c1, c2, c3, c4⟩, c5⟩ := id hC
  unfold mOb at c0
  show Ev tb 162 0 [some (.ref 111), some (.int x), none, none] [] H _
  refine ev_aload_n i162_0 rfl ?_
  refine ev_iload_n i162_1 rfl ?_
  refine ev_callV (vs := [.int x]) (rest := []) i162_2 ci162 lk8_108 (congrArg (fun q => q + 1) np128) ci128 (by decide) (by decide +kernel) (Nat.le_of_ble_eq_true rfl) ⟨rfl, rfl, Nat.le_of_ble_eq_true rfl⟩ rfl (by assumption) (c128 hC b3 b5) (fun r HH hq => ?_)
  obtain ⟨rfl, rfl⟩ := hq
  rw [h]
  show Ev tb 162 5 [some (.ref 111), some (.int x), none, none] [.int (bI false)] H _
  refine evb_if_ne (t := 10) i162_5 (by decide) (fun z5 => by exfalso; cases z5) (fun z5 => ?_)
  refine ev_iconst (v := (-1)) i162_8 (by decide) ?_
  refine ev_iret i162_9 (by decide +kernel) ?_
  exact ⟨rfl, hI, Off.rf⟩
