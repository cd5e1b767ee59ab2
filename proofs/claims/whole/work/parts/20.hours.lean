/-! the class's calls: hours tried out, one by one -/
theorem shl1 : ∀ m, m < 10 → nI 1 <<< (nI m &&& 31) = nI (2 ^ m) := by decide +kernel
theorem or10 : ∀ b, b < 1024 → ∀ k, k < 10 → nI b ||| (nI 1 <<< (nI k &&& 31)) = nI (b ||| 2 ^ k) := by decide +kernel
theorem or10_lt {b k m : Nat} (hb : b < 2 ^ m) (hk : k < m) : b ||| 2 ^ k < 2 ^ m := Nat.or_lt_two_pow hb (Nat.pow_lt_pow_right (by decide) hk)
section EV20
variable {tb : dxT} {k pc : Nat} {L : dxL} {S : List Value} {H : dxH} {Q : Option Value → dxH → Prop}
theorem evb1_icmp_ne {o : Int} {t : Nat} {b : Bool} (hI : dxI k pc = some (.if_icmp .ne o, 3)) (ht : (pc : Int) + o = (t : Int)) (kt : b = false → Ev tb k t L S H Q) (kf : b = true → Ev tb k (pc + 3) L S H Q) : Ev tb k pc L (.int (nI 1) :: .int (bI b) :: S) H Q := by
  rw [← bI_t]
  exact evb_icmp_ne hI ht (fun q => kt (by simpa using q)) kf
end EV20
def jdgL (row he : Nat) (sd kd ce : Nat → Nat) (sn : Bool) : Nat → Nat → Hs → Int32
  | 0, _, _ => -9
  | d + 1, k, x => if row / 10 ^ d % 10 = srtF he kd x.2.1 sn false then jdgL row he sd kd ce sn d (k + 1) (hrF he sd kd ce sn false x) else nI k
def rngL (wd he : Nat) (sd kd ce : Nat → Nat) (sn : Bool) : Nat → Nat → Nat → Hs → Int32
  | 0, _, b, _ => nI b
  | d + 1, k, b, x => if srtF he kd x.2.1 sn false = 1 ∧ wd.testBit k = false then -9 else rngL wd he sd kd ce sn d (k + 1) (if wd.testBit k = true ∧ ¬ srtF he kd x.2.1 sn false = 1 then b ||| 2 ^ k else b) (hrF he sd kd ce sn (wd.testBit k) x)
def allL (he : Nat) (sd kd ce : Nat → Nat) (sn : Bool) (tc th : Nat → Nat) (td : Nat → Bool) (tm : Nat) : Nat → Nat → Hs → Bool
  | 0, _, _ => true
  | d + 1, h, x => !(anyB (offB he kd x.2.1 tc th td h) tm 0) && allL he sd kd ce sn tc th td tm d (h + 1) (hrF he sd kd ce sn false x)
def fulL (he : Nat) (sd kd ce : Nat → Nat) (sn : Bool) (tc th : Nat → Nat) (td : Nat → Bool) (tm k : Nat) (x : Hs) : Nat → Nat → Nat → Nat
  | 0, _, b => b
  | d + 1, f, b => fulL he sd kd ce sn tc th td tm k x d (f + 1) (if allL he sd kd ce sn tc th td tm 8 0 (x.1, updN x.2.1 k f, x.2.2) = true then b ||| 2 ^ f else b)
def snwX (wd he : Nat) (sd kd ce : Nat → Nat) : Nat → Nat → Hs → Int32 → Int32
  | 0, _, _, v => v
  | d + 1, k, x, _ => snwX wd he sd kd ce d (k + 1) (hrF he sd kd ce (wd.testBit k) false x) (nI (srtF he kd x.2.1 (wd.testBit k) false))
theorem lq83 {tb : dxT} {n : Nat} {sd kd : Nat → Nat} {s : Sn} {sed : Int64} {m row : Nat} (b3 : n ≤ 6) (b4 : ∀ j, sd j < 2) (b5 : ∀ j, kd j < 4) (b6 : SnOK n s) (hm : m ≤ 8) (hr : row < 2147483648) : ∀ (d k wt : Nat) (H : dxH) (x : Hs), k + d = m → (∀ e, d = e + 1 → wt = 10 ^ e) → wt < 2147483648 → CC H sed → HrdAt H n sd kd → MdS H 11 s.1 (HE n) s.2.1 x → SOK x → Ev tb 83 43 [some (.ref 0), some (.int (nI m)), some (.int (nI row)), some (.int (nI wt)), some (.int (nI k))] [] H (fun r H' => r = some (.int (jdgL row (HE n) sd kd s.1 s.2.1 d k x)) ∧ ShpM H' 11 ∧ Off (mdC 11) H H')
  | 0, k, wt, H, x, hk, hw, hw2, f0, fH, hN, hx => by
    obtain rfl : k = m := by omega
    refine ev_iload i83_43 rfl ?_
    refine ev_iload_n i83_45 rfl ?_
    refine evn_icmp_ge (t := 84) i83_46 (by decide) (by omega) (fun z46 => ?_) (fun z46 => by exfalso; omega)
    refine ev_bipush (v := (-9)) i83_84 (by decide) ?_
    refine ev_iret i83_86 (by decide +kernel) ?_
    exact ⟨rfl, hN.shp b6.2.1 hx, Off.rf⟩
  | d + 1, k, wt, H, x, hk, hw, hw2, f0, fH, hN, hx => by
    obtain rfl := hw d rfl
    have hp := Nat.pow_pos (n := d) (show 0 < 10 by decide)
    have hb : HE n < 64 := HE_lt b3
    have g0 := f0
    unfold CC at g0
    obtain ⟨t0, _⟩ := id hN
    have hs4 := srtF_lt (he := HE n) (kd := kd) (fu := x.2.1) (sn := s.2.1) (rg := false)
    refine ev_iload i83_43 rfl ?_
    refine ev_iload_n i83_45 rfl ?_
    refine evn_icmp_ge (t := 84) i83_46 (by decide) (by omega) (fun z46 => by exfalso; omega) (fun z46 => ?_)
    refine ev_iload_n i83_49 rfl ?_
    refine evn_if_le (t := 84) i83_50 (by decide) (by omega) (fun z50 => by exfalso; omega) (fun z50 => ?_)
    refine ev_iload_n i83_53 rfl ?_
    refine ev_iload_n i83_54 rfl ?_
    refine evn_idiv i83_55 (by omega) ?_
    refine ev_bipush (v := nI 10) i83_56 (by decide) ?_
    refine evn_irem i83_58 (by first | omega | exact ⟨Nat.lt_of_le_of_lt (Nat.div_le_self _ _) (by omega), by decide, by decide⟩) ?_
    refine ev_aload_n i83_59 rfl ?_
    refine ev_get i83_60 ci83 fl7_32 (by assumption) rfl ?_
    refine ev_iconst (v := nI 0) i83_63 (by decide) ?_
    refine ev_callV (vs := [.int (nI 0)]) (rest := [.int (nI ((row / (10 ^ d)) % 10))]) i83_64 ci83 lk7_126 (congrArg (fun q => q + 1) np43) ci43 (by decide) (by decide +kernel) (Nat.le_of_ble_eq_true rfl) ⟨rfl, rfl, Nat.le_of_ble_eq_true rfl⟩ rfl (by assumption) (c43x (rg := false) hb (by decide) b6.1 b5 b4 hN fH hx) (fun r H1 hq => ?_)
    obtain ⟨rfl, hN, hO1⟩ := hq
    have f0 := f0.off hO1 (by unfold mdC; omega)
    have fH := fH.off hO1 (by unfold mdC; omega) (by unfold mdC; omega) (by unfold mdC; omega)
    show Ev tb 83 67 [some (.ref 0), some (.int (nI m)), some (.int (nI row)), some (.int (nI (10 ^ d))), some (.int (nI k))] [.int (nI (srtF (HE n) kd x.2.1 s.2.1 false)), .int (nI ((row / (10 ^ d)) % 10))] H1 _
    refine evn_icmp_eq (t := 73) i83_67 (by decide) (by omega) (fun z67 => ?_) (fun z67 => ?_)
    · refine ev_iload_n i83_73 rfl ?_
      refine ev_bipush (v := nI 10) i83_74 (by decide) ?_
      refine evn_idiv i83_76 (by omega) ?_
      refine ev_istore_n (L' := [some (.ref 0), some (.int (nI m)), some (.int (nI row)), some (.int (nI ((10 ^ d) / 10))), some (.int (nI k))]) i83_77 ⟨Nat.le_of_ble_eq_true rfl, rfl⟩ rfl ?_
      refine evn_iinc (d := 1) (L' := [some (.ref 0), some (.int (nI m)), some (.int (nI row)), some (.int (nI ((10 ^ d) / 10))), some (.int (nI (k + 1)))]) i83_78 rfl rfl (by decide) rfl ?_
      refine ev_goto (t := 43) i83_81 (by decide) ?_
      refine (lq83 b3 b4 b5 b6 hm hr d (k + 1) (10 ^ d / 10) H1 _ (by omega) (fun e he => by rw [he, Nat.pow_succ]; exact Nat.mul_div_cancel _ (by decide)) (by omega) f0 fH hN (hrF_ok b6.1 b4 hx)).post (fun r H' hq => ?_)
      unfold jdgL
      rw [if_pos z67]
      exact ⟨hq.1, hq.2.1, hO1.trans hq.2.2 (fun _ q => q) (fun _ q => q)⟩
    · refine ev_iload i83_70 rfl ?_
      refine ev_iret i83_72 (by decide +kernel) ?_
      unfold jdgL
      rw [if_neg z67]
      exact ⟨rfl, hN.shp b6.2.1 (hrF_ok b6.1 b4 hx), hO1⟩
theorem x83 {tb : dxT} {H : dxH} {tx : Nat → Nat} {ln n : Nat} {sd kd : Nat → Nat} {s : Sn} {am : Nat} {stk : Nat → Sn} {kp : Nat → Bool} {ks : Nat → Sn} {tm : Nat} {tc th : Nat → Nat} {td : Nat → Bool} {sed : Int64} {m row : Nat} (hI : CInv H tx ln n sd kd s am stk kp ks tm tc th td sed) (hS : SpOK tx ln n sd kd s am stk kp ks tm tc th) (hm1 : 1 ≤ m) (hm : m ≤ 8) (hr : row < 10 ^ m) : Cl tb 83 [.ref 0, .int (nI m), .int (nI row)] H (fun r H' => r = some (.int (jdgL row (HE n) sd kd s.1 s.2.1 m 0 s.2.2)) ∧ CInv H' tx ln n sd kd s am stk kp ks tm tc th td sed ∧ Off xC H H') := by
  obtain ⟨f0, fT, fH, fM, fA, fK, fL, fP⟩ := id hI
  obtain ⟨⟨b1, b2⟩, b3, b4, b5, b6, b7, b8, b9, b10, b11⟩ := id hS
  have hT := fP.1
  have g0 := f0
  unfold CC at g0
  obtain ⟨m0, m1, m2, m3, m4⟩ := id fM
  obtain ⟨_, _, _, _, _, _, _, _, ⟨t0, _⟩, _⟩ := id hT
  have hb : HE n < 64 := HE_lt b3
  have ha : 6 ≤ 6 := Nat.le_refl 6
  have hp8 : 10 ^ m ≤ 10 ^ 8 := Nat.pow_le_pow_right (by decide) hm
  show Ev tb 83 0 [some (.ref 0), some (.int (nI m)), some (.int (nI row)), none, none] [] H _
  refine ev_iload_n i83_0 rfl ?_
  refine ev_callS (vs := [.int (nI m)]) (rest := []) i83_1 ci83 lk7_156 (Or.inl rfl) np99 (by decide +kernel) (Nat.le_of_ble_eq_true rfl) ⟨rfl, rfl, Nat.le_of_ble_eq_true rfl⟩ rfl (c99t (by omega) (by omega)) (fun r HH hq => ?_)
  obtain ⟨rfl, rfl⟩ := hq
  show Ev tb 83 4 [some (.ref 0), some (.int (nI m)), some (.int (nI row)), none, none] [.int (bI true)] H _
  refine evb_if_eq (t := 19) i83_4 (by decide) (fun z4 => by exfalso; cases z4) (fun z4 => ?_)
  refine ev_iload_n i83_7 rfl ?_
  refine evn_if_lt (t := 19) i83_8 (by decide) (by omega) ?_
  refine ev_iload_n i83_11 rfl ?_
  refine ev_iload_n i83_12 rfl ?_
  refine ev_callS (vs := [.int (nI m)]) (rest := [.int (nI row)]) i83_13 ci83 lk7_193 (Or.inl rfl) np113 (by decide +kernel) (Nat.le_of_ble_eq_true rfl) ⟨rfl, rfl, Nat.le_of_ble_eq_true rfl⟩ rfl (c113 (by omega)) (fun r HH hq => ?_)
  obtain ⟨rfl, rfl⟩ := hq
  show Ev tb 83 16 [some (.ref 0), some (.int (nI m)), some (.int (nI row)), none, none] [.int (nI (10 ^ m)), .int (nI row)] H _
  refine evn_icmp_lt (t := 22) i83_16 (by decide) (by omega) (fun z16 => ?_) (fun z16 => by exfalso; omega)
  refine ev_aload_n i83_22 rfl ?_
  refine ev_get i83_23 ci83 fl7_32 (by assumption) rfl ?_
  refine ev_aload_n i83_26 rfl ?_
  refine ev_get i83_27 ci83 fl7_28 (by assumption) rfl ?_
  refine ev_callV (vs := [.ref 6]) (rest := []) i83_30 ci83 lk7_159 (congrArg (fun q => q + 1) np20) ci20 (by decide) (by decide +kernel) (Nat.le_of_ble_eq_true rfl) ⟨rfl, rfl, Nat.le_of_ble_eq_true rfl⟩ rfl (by assumption) (c20 hT fM b6.2.2.1.2.2.1 b6.2.1 b6.2.2.1.2.2.2.1 b6.2.2.1.2.2.2.2 (by decide)) (fun r H1 hq => ?_)
  obtain ⟨rfl, hN, hO1⟩ := hq
  have f0 := f0.off hO1 (by unfold mdC; omega)
  have fH := fH.off hO1 (by unfold mdC; omega) (by unfold mdC; omega) (by unfold mdC; omega)
  have fM := fM.off hO1 (fun j u1 u2 => by unfold mdC; omega)
  have g0 := f0
  unfold CC at g0
  obtain ⟨t0, t1, t2, t3, t4⟩ := id hN
  obtain ⟨m0, m1, m2, m3, m4⟩ := id fM
  have hOO : Off (mdC 11) H H1 := hO1
  show Ev tb 83 33 [some (.ref 0), some (.int (nI m)), some (.int (nI row)), none, none] [] H1 _
  refine ev_iload_n i83_33 rfl ?_
  refine ev_iconst (v := nI 1) i83_34 (by decide) ?_
  refine evn_isub i83_35 (by omega) ?_
  refine ev_callS (vs := [.int (nI (m - 1))]) (rest := []) i83_36 ci83 lk7_193 (Or.inl rfl) np113 (by decide +kernel) (Nat.le_of_ble_eq_true rfl) ⟨rfl, rfl, Nat.le_of_ble_eq_true rfl⟩ rfl (c113 (by omega)) (fun r HH hq => ?_)
  obtain ⟨rfl, rfl⟩ := hq
  show Ev tb 83 39 [some (.ref 0), some (.int (nI m)), some (.int (nI row)), none, none] [.int (nI (10 ^ (m - 1)))] H1 _
  refine ev_istore_n (L' := [some (.ref 0), some (.int (nI m)), some (.int (nI row)), some (.int (nI (10 ^ (m - 1)))), none]) i83_39 ⟨Nat.le_of_ble_eq_true rfl, rfl⟩ rfl ?_
  refine ev_iconst (v := nI 0) i83_40 (by decide) ?_
  refine ev_istore (L' := [some (.ref 0), some (.int (nI m)), some (.int (nI row)), some (.int (nI (10 ^ (m - 1)))), some (.int (nI 0))]) i83_41 ⟨Nat.le_of_ble_eq_true rfl, rfl⟩ rfl ?_
  have hp9 : 10 ^ (m - 1) ≤ 10 ^ 8 := Nat.pow_le_pow_right (by decide) (by omega)
  refine (lq83 b3 b4 b5 b6 hm (by omega) m 0 (10 ^ (m - 1)) H1 _ (Nat.zero_add m) (fun e he => by rw [he, Nat.add_sub_cancel]) (by omega) f0 fH hN b6.x).post (fun r H' hq => ?_)
  exact ⟨hq.1, hI.tr (hOO.trans hq.2.2 (fun _ q => q) (fun _ q => q)) hq.2.1⟩
theorem x83f {tb : dxT} {H : dxH} {tx : Nat → Nat} {ln n : Nat} {sd kd : Nat → Nat} {s : Sn} {am : Nat} {stk : Nat → Sn} {kp : Nat → Bool} {ks : Nat → Sn} {tm : Nat} {tc th : Nat → Nat} {td : Nat → Bool} {sed : Int64} {x y : Int32} (hI : CInv H tx ln n sd kd s am stk kp ks tm tc th td sed) (hS : SpOK tx ln n sd kd s am stk kp ks tm tc th) (h : ahdB x = false) : Cl tb 83 [.ref 0, .int x, .int y] H (fun r H' => r = some (.int (-2)) ∧ CInv H' tx ln n sd kd s am stk kp ks tm tc th td sed ∧ Off xC H H') := by
  obtain ⟨f0, fT, fH, fM, fA, fK, fL, fP⟩ := id hI
  obtain ⟨⟨b1, b2⟩, b3, b4, b5, b6, b7, b8, b9, b10, b11⟩ := id hS
  have hT := fP.1
  have g0 := f0
  unfold CC at g0
  obtain ⟨m0, m1, m2, m3, m4⟩ := id fM
  obtain ⟨_, _, _, _, _, _, _, _, ⟨t0, _⟩, _⟩ := id hT
  have hb : HE n < 64 := HE_lt b3
  have ha : 6 ≤ 6 := Nat.le_refl 6
  show Ev tb 83 0 [some (.ref 0), some (.int x), some (.int y), none, none] [] H _
  refine ev_iload_n i83_0 rfl ?_
  refine ev_callS (vs := [.int x]) (rest := []) i83_1 ci83 lk7_156 (Or.inl rfl) np99 (by decide +kernel) (Nat.le_of_ble_eq_true rfl) ⟨rfl, rfl, Nat.le_of_ble_eq_true rfl⟩ rfl (c99f (by assumption)) (fun r HH hq => ?_)
  obtain ⟨rfl, rfl⟩ := hq
  show Ev tb 83 4 [some (.ref 0), some (.int x), some (.int y), none, none] [.int (bI false)] H _
  refine evb_if_eq (t := 19) i83_4 (by decide) (fun z4 => ?_) (fun z4 => by exfalso; cases z4)
  refine ev_bipush (v := (-2)) i83_19 (by decide) ?_
  refine ev_iret i83_21 (by decide +kernel) ?_
  exact ⟨rfl, hI, Off.rf⟩
theorem x83o {tb : dxT} {H : dxH} {tx : Nat → Nat} {ln n : Nat} {sd kd : Nat → Nat} {s : Sn} {am : Nat} {stk : Nat → Sn} {kp : Nat → Bool} {ks : Nat → Sn} {tm : Nat} {tc th : Nat → Nat} {td : Nat → Bool} {sed : Int64} {m : Nat} {y : Int32} (hI : CInv H tx ln n sd kd s am stk kp ks tm tc th td sed) (hS : SpOK tx ln n sd kd s am stk kp ks tm tc th) (hm1 : 1 ≤ m) (hm : m ≤ 8) (h : inR y (10 ^ m) = false) : Cl tb 83 [.ref 0, .int (nI m), .int y] H (fun r H' => r = some (.int (-2)) ∧ CInv H' tx ln n sd kd s am stk kp ks tm tc th td sed ∧ Off xC H H') := by
  obtain ⟨f0, fT, fH, fM, fA, fK, fL, fP⟩ := id hI
  obtain ⟨⟨b1, b2⟩, b3, b4, b5, b6, b7, b8, b9, b10, b11⟩ := id hS
  have hT := fP.1
  have g0 := f0
  unfold CC at g0
  obtain ⟨m0, m1, m2, m3, m4⟩ := id fM
  obtain ⟨_, _, _, _, _, _, _, _, ⟨t0, _⟩, _⟩ := id hT
  have hb : HE n < 64 := HE_lt b3
  have ha : 6 ≤ 6 := Nat.le_refl 6
  have h1 := of_decide_eq_false h
  show Ev tb 83 0 [some (.ref 0), some (.int (nI m)), some (.int y), none, none] [] H _
  refine ev_iload_n i83_0 rfl ?_
  refine ev_callS (vs := [.int (nI m)]) (rest := []) i83_1 ci83 lk7_156 (Or.inl rfl) np99 (by decide +kernel) (Nat.le_of_ble_eq_true rfl) ⟨rfl, rfl, Nat.le_of_ble_eq_true rfl⟩ rfl (c99t (by omega) (by omega)) (fun r HH hq => ?_)
  obtain ⟨rfl, rfl⟩ := hq
  show Ev tb 83 4 [some (.ref 0), some (.int (nI m)), some (.int y), none, none] [.int (bI true)] H _
  refine evb_if_eq (t := 19) i83_4 (by decide) (fun z4 => by exfalso; cases z4) (fun z4 => ?_)
  refine ev_iload_n i83_7 rfl ?_
  refine ev_if_lt (t := 19) i83_8 (by decide) (fun z8 => ?_) (fun z8 => ?_)
  · refine ev_bipush (v := (-2)) i83_19 (by decide) ?_
    refine ev_iret i83_21 (by decide +kernel) ?_
    exact ⟨rfl, hI, Off.rf⟩
  · refine ev_iload_n i83_11 rfl ?_
    refine ev_iload_n i83_12 rfl ?_
    refine ev_callS (vs := [.int (nI m)]) (rest := [.int y]) i83_13 ci83 lk7_193 (Or.inl rfl) np113 (by decide +kernel) (Nat.le_of_ble_eq_true rfl) ⟨rfl, rfl, Nat.le_of_ble_eq_true rfl⟩ rfl (c113 (by omega)) (fun r HH hq => ?_)
    obtain ⟨rfl, rfl⟩ := hq
    show Ev tb 83 16 [some (.ref 0), some (.int (nI m)), some (.int y), none, none] [.int (nI (10 ^ m)), .int y] H _
    refine ev_icmp_lt (t := 22) i83_16 (by decide) (fun z16 => by exfalso; exact h1 ⟨z8, z16⟩) (fun z16 => ?_)
    refine ev_bipush (v := (-2)) i83_19 (by decide) ?_
    refine ev_iret i83_21 (by decide +kernel) ?_
    exact ⟨rfl, hI, Off.rf⟩
theorem lq85 {tb : dxT} {n : Nat} {sd kd : Nat → Nat} {s : Sn} {sed : Int64} {m wd : Nat} (b3 : n ≤ 6) (b4 : ∀ j, sd j < 2) (b5 : ∀ j, kd j < 4) (b6 : SnOK n s) (hm : m ≤ 8) (hwd : wd < 256) : ∀ (d k b : Nat) (H : dxH) (x : Hs), k + d = m → b < 256 → CC H sed → HrdAt H n sd kd → MdS H 11 s.1 (HE n) s.2.1 x → SOK x → ∀ v5 v6, Ev tb 85 50 [some (.ref 0), some (.int (nI m)), some (.int (nI wd)), some (.int (nI b)), some (.int (nI k)), v5, v6] [] H (fun r H' => r = some (.int (rngL wd (HE n) sd kd s.1 s.2.1 d k b x)) ∧ ShpM H' 11 ∧ Off (mdC 11) H H')
  | 0, k, b, H, x, hk, hb2, f0, fH, hN, hx, v5, v6 => by
    obtain rfl : k = m := by omega
    refine ev_iload i85_50 rfl ?_
    refine ev_iload_n i85_52 rfl ?_
    refine evn_icmp_ge (t := 138) i85_53 (by decide) (by omega) (fun z53 => ?_) (fun z53 => by exfalso; omega)
    refine ev_iload_n i85_138 rfl ?_
    refine ev_iret i85_139 (by decide +kernel) ?_
    exact ⟨rfl, hN.shp b6.2.1 hx, Off.rf⟩
  | d + 1, k, b, H, x, hk, hb2, f0, fH, hN, hx, v5, v6 => by
    have hb : HE n < 64 := HE_lt b3
    have g0 := f0
    unfold CC at g0
    obtain ⟨t0, _⟩ := id hN
    have hs4 := srtF_lt (he := HE n) (kd := kd) (fu := x.2.1) (sn := s.2.1) (rg := false)
    refine ev_iload i85_50 rfl ?_
    refine ev_iload_n i85_52 rfl ?_
    refine evn_icmp_ge (t := 138) i85_53 (by decide) (by omega) (fun z53 => by exfalso; omega) (fun z53 => ?_)
    refine ev_iload_n i85_56 rfl ?_
    refine ev_iload i85_57 rfl ?_
    refine ev_ishr i85_59 ?_
    refine ev_iconst (v := nI 1) i85_60 (by decide) ?_
    refine ev_iand i85_61 ?_
    rw [bit10 wd (by omega) k (by omega)]
    refine ev_iconst (v := nI 1) i85_62 (by decide) ?_
    refine evb1_icmp_ne (t := 70) i85_63 (by decide) (fun z63 => ?_) (fun z63 => ?_)
    · refine ev_iconst (v := nI 0) i85_70 (by decide) ?_
      refine ev_istore (L' := [some (.ref 0), some (.int (nI m)), some (.int (nI wd)), some (.int (nI b)), some (.int (nI k)), some (.int (nI 0)), v6]) i85_71 ⟨Nat.le_of_ble_eq_true rfl, rfl⟩ rfl ?_
      refine ev_aload_n i85_73 rfl ?_
      refine ev_get i85_74 ci85 fl7_32 (by assumption) rfl ?_
      refine ev_iconst (v := nI 0) i85_77 (by decide) ?_
      refine ev_callV (vs := [.int (nI 0)]) (rest := []) i85_78 ci85 lk7_212 (congrArg (fun q => q + 1) np42) ci42 (by decide) (by decide +kernel) (Nat.le_of_ble_eq_true rfl) ⟨rfl, rfl, Nat.le_of_ble_eq_true rfl⟩ rfl (by assumption) (c42 (rg := false) hN fH hb (by decide) hx.2.1 b5) (fun r HH hq => ?_)
      obtain ⟨rfl, rfl⟩ := hq
      show Ev tb 85 81 [some (.ref 0), some (.int (nI m)), some (.int (nI wd)), some (.int (nI b)), some (.int (nI k)), some (.int (nI 0)), v6] [.int (nI (srtF (HE n) kd x.2.1 s.2.1 false))] H _
      refine ev_iconst (v := nI 1) i85_81 (by decide) ?_
      refine evn_icmp_ne (t := 89) i85_82 (by decide) (by omega) (fun z82 => ?_) (fun z82 => ?_)
      · refine ev_iconst (v := nI 0) i85_89 (by decide) ?_
        refine ev_istore (L' := [some (.ref 0), some (.int (nI m)), some (.int (nI wd)), some (.int (nI b)), some (.int (nI k)), some (.int (nI 0)), some (.int (nI 0))]) i85_90 ⟨Nat.le_of_ble_eq_true rfl, rfl⟩ rfl ?_
        refine ev_iload i85_92 rfl ?_
        refine evn_if_eq (t := 105) i85_94 (by decide) (by omega) (fun z94 => ?_) (fun z94 => by exfalso; omega)
        refine ev_iload i85_105 rfl ?_
        refine evn_if_eq (t := 122) i85_107 (by decide) (by omega) (fun z107 => ?_) (fun z107 => by exfalso; omega)
        refine ev_aload_n i85_122 rfl ?_
        refine ev_get i85_123 ci85 fl7_32 (by assumption) rfl ?_
        refine ev_iload i85_126 rfl ?_
        refine ev_callV (vs := [.int (nI 0)]) (rest := []) i85_128 ci85 lk7_126 (congrArg (fun q => q + 1) np43) ci43 (by decide) (by decide +kernel) (Nat.le_of_ble_eq_true rfl) ⟨rfl, rfl, Nat.le_of_ble_eq_true rfl⟩ rfl (by assumption) (c43x (rg := false) hb (by decide) b6.1 b5 b4 hN fH hx) (fun r H1 hq => ?_)
        obtain ⟨rfl, hN, hO1⟩ := hq
        have f0 := f0.off hO1 (by unfold mdC; omega)
        have fH := fH.off hO1 (by unfold mdC; omega) (by unfold mdC; omega) (by unfold mdC; omega)
        show Ev tb 85 131 [some (.ref 0), some (.int (nI m)), some (.int (nI wd)), some (.int (nI b)), some (.int (nI k)), some (.int (nI 0)), some (.int (nI 0))] [.int (nI (srtF (HE n) kd x.2.1 s.2.1 false))] H1 _
        refine ev_pop i85_131 rfl ?_
        refine evn_iinc (d := 1) (L' := [some (.ref 0), some (.int (nI m)), some (.int (nI wd)), some (.int (nI b)), some (.int (nI (k + 1))), some (.int (nI 0)), some (.int (nI 0))]) i85_132 rfl rfl (by decide) rfl ?_
        refine ev_goto (t := 50) i85_135 (by decide) ?_
        have hb3 : b < 256 := hb2
        refine (lq85 b3 b4 b5 b6 hm hwd d (k + 1) (b) H1 _ (by omega) hb3 f0 fH hN (hrF_ok b6.1 b4 hx) _ _).post (fun r H' hq => ?_)
        unfold rngL
        rw [if_neg (by rw [z63]; simp [*]), z63, if_neg (by simp [*])]
        exact ⟨hq.1, hq.2.1, hO1.trans hq.2.2 (fun _ q => q) (fun _ q => q)⟩
      · refine ev_iconst (v := nI 1) i85_85 (by decide) ?_
        refine ev_goto (t := 90) i85_86 (by decide) ?_
        refine ev_istore (L' := [some (.ref 0), some (.int (nI m)), some (.int (nI wd)), some (.int (nI b)), some (.int (nI k)), some (.int (nI 0)), some (.int (nI 1))]) i85_90 ⟨Nat.le_of_ble_eq_true rfl, rfl⟩ rfl ?_
        refine ev_iload i85_92 rfl ?_
        refine evn_if_eq (t := 105) i85_94 (by decide) (by omega) (fun z94 => by exfalso; omega) (fun z94 => ?_)
        refine ev_iload i85_97 rfl ?_
        refine evn_if_ne (t := 105) i85_99 (by decide) (by omega) (fun z99 => by exfalso; omega) (fun z99 => ?_)
        refine ev_bipush (v := (-9)) i85_102 (by decide) ?_
        refine ev_iret i85_104 (by decide +kernel) ?_
        unfold rngL
        rw [if_pos ⟨by assumption, by assumption⟩]
        exact ⟨rfl, hN.shp b6.2.1 hx, Off.rf⟩
    · refine ev_iconst (v := nI 1) i85_66 (by decide) ?_
      refine ev_goto (t := 71) i85_67 (by decide) ?_
      refine ev_istore (L' := [some (.ref 0), some (.int (nI m)), some (.int (nI wd)), some (.int (nI b)), some (.int (nI k)), some (.int (nI 1)), v6]) i85_71 ⟨Nat.le_of_ble_eq_true rfl, rfl⟩ rfl ?_
      refine ev_aload_n i85_73 rfl ?_
      refine ev_get i85_74 ci85 fl7_32 (by assumption) rfl ?_
      refine ev_iconst (v := nI 0) i85_77 (by decide) ?_
      refine ev_callV (vs := [.int (nI 0)]) (rest := []) i85_78 ci85 lk7_212 (congrArg (fun q => q + 1) np42) ci42 (by decide) (by decide +kernel) (Nat.le_of_ble_eq_true rfl) ⟨rfl, rfl, Nat.le_of_ble_eq_true rfl⟩ rfl (by assumption) (c42 (rg := false) hN fH hb (by decide) hx.2.1 b5) (fun r HH hq => ?_)
      obtain ⟨rfl, rfl⟩ := hq
      show Ev tb 85 81 [some (.ref 0), some (.int (nI m)), some (.int (nI wd)), some (.int (nI b)), some (.int (nI k)), some (.int (nI 1)), v6] [.int (nI (srtF (HE n) kd x.2.1 s.2.1 false))] H _
      refine ev_iconst (v := nI 1) i85_81 (by decide) ?_
      refine evn_icmp_ne (t := 89) i85_82 (by decide) (by omega) (fun z82 => ?_) (fun z82 => ?_)
      · refine ev_iconst (v := nI 0) i85_89 (by decide) ?_
        refine ev_istore (L' := [some (.ref 0), some (.int (nI m)), some (.int (nI wd)), some (.int (nI b)), some (.int (nI k)), some (.int (nI 1)), some (.int (nI 0))]) i85_90 ⟨Nat.le_of_ble_eq_true rfl, rfl⟩ rfl ?_
        refine ev_iload i85_92 rfl ?_
        refine evn_if_eq (t := 105) i85_94 (by decide) (by omega) (fun z94 => ?_) (fun z94 => by exfalso; omega)
        refine ev_iload i85_105 rfl ?_
        refine evn_if_eq (t := 122) i85_107 (by decide) (by omega) (fun z107 => by exfalso; omega) (fun z107 => ?_)
        refine ev_iload i85_110 rfl ?_
        refine evn_if_ne (t := 122) i85_112 (by decide) (by omega) (fun z112 => by exfalso; omega) (fun z112 => ?_)
        refine ev_iload_n i85_115 rfl ?_
        refine ev_iconst (v := nI 1) i85_116 (by decide) ?_
        refine ev_iload i85_117 rfl ?_
        refine ev_ishl i85_119 ?_
        refine ev_ior i85_120 ?_
        rw [or10 b (by omega) k (by omega)]
        refine ev_istore_n (L' := [some (.ref 0), some (.int (nI m)), some (.int (nI wd)), some (.int (nI (b ||| 2 ^ k))), some (.int (nI k)), some (.int (nI 1)), some (.int (nI 0))]) i85_121 ⟨Nat.le_of_ble_eq_true rfl, rfl⟩ rfl ?_
        refine ev_aload_n i85_122 rfl ?_
        refine ev_get i85_123 ci85 fl7_32 (by assumption) rfl ?_
        refine ev_iload i85_126 rfl ?_
        refine ev_callV (vs := [.int (nI 1)]) (rest := []) i85_128 ci85 lk7_126 (congrArg (fun q => q + 1) np43) ci43 (by decide) (by decide +kernel) (Nat.le_of_ble_eq_true rfl) ⟨rfl, rfl, Nat.le_of_ble_eq_true rfl⟩ rfl (by assumption) (c43x (rg := true) hb (by decide) b6.1 b5 b4 hN fH hx) (fun r H1 hq => ?_)
        obtain ⟨rfl, hN, hO1⟩ := hq
        have f0 := f0.off hO1 (by unfold mdC; omega)
        have fH := fH.off hO1 (by unfold mdC; omega) (by unfold mdC; omega) (by unfold mdC; omega)
        show Ev tb 85 131 [some (.ref 0), some (.int (nI m)), some (.int (nI wd)), some (.int (nI (b ||| 2 ^ k))), some (.int (nI k)), some (.int (nI 1)), some (.int (nI 0))] [.int (nI (srtF (HE n) kd x.2.1 s.2.1 true))] H1 _
        refine ev_pop i85_131 rfl ?_
        refine evn_iinc (d := 1) (L' := [some (.ref 0), some (.int (nI m)), some (.int (nI wd)), some (.int (nI (b ||| 2 ^ k))), some (.int (nI (k + 1))), some (.int (nI 1)), some (.int (nI 0))]) i85_132 rfl rfl (by decide) rfl ?_
        refine ev_goto (t := 50) i85_135 (by decide) ?_
        have hb3 : b ||| 2 ^ k < 256 := or10_lt (m := 8) hb2 (by omega)
        refine (lq85 b3 b4 b5 b6 hm hwd d (k + 1) (b ||| 2 ^ k) H1 _ (by omega) hb3 f0 fH hN (hrF_ok b6.1 b4 hx) _ _).post (fun r H' hq => ?_)
        unfold rngL
        rw [if_neg (by rw [z63]; simp [*]), z63, if_pos ⟨rfl, by assumption⟩]
        exact ⟨hq.1, hq.2.1, hO1.trans hq.2.2 (fun _ q => q) (fun _ q => q)⟩
      · refine ev_iconst (v := nI 1) i85_85 (by decide) ?_
        refine ev_goto (t := 90) i85_86 (by decide) ?_
        refine ev_istore (L' := [some (.ref 0), some (.int (nI m)), some (.int (nI wd)), some (.int (nI b)), some (.int (nI k)), some (.int (nI 1)), some (.int (nI 1))]) i85_90 ⟨Nat.le_of_ble_eq_true rfl, rfl⟩ rfl ?_
        refine ev_iload i85_92 rfl ?_
        refine evn_if_eq (t := 105) i85_94 (by decide) (by omega) (fun z94 => by exfalso; omega) (fun z94 => ?_)
        refine ev_iload i85_97 rfl ?_
        refine evn_if_ne (t := 105) i85_99 (by decide) (by omega) (fun z99 => ?_) (fun z99 => by exfalso; omega)
        refine ev_iload i85_105 rfl ?_
        refine evn_if_eq (t := 122) i85_107 (by decide) (by omega) (fun z107 => by exfalso; omega) (fun z107 => ?_)
        refine ev_iload i85_110 rfl ?_
        refine evn_if_ne (t := 122) i85_112 (by decide) (by omega) (fun z112 => ?_) (fun z112 => by exfalso; omega)
        refine ev_aload_n i85_122 rfl ?_
        refine ev_get i85_123 ci85 fl7_32 (by assumption) rfl ?_
        refine ev_iload i85_126 rfl ?_
        refine ev_callV (vs := [.int (nI 1)]) (rest := []) i85_128 ci85 lk7_126 (congrArg (fun q => q + 1) np43) ci43 (by decide) (by decide +kernel) (Nat.le_of_ble_eq_true rfl) ⟨rfl, rfl, Nat.le_of_ble_eq_true rfl⟩ rfl (by assumption) (c43x (rg := true) hb (by decide) b6.1 b5 b4 hN fH hx) (fun r H1 hq => ?_)
        obtain ⟨rfl, hN, hO1⟩ := hq
        have f0 := f0.off hO1 (by unfold mdC; omega)
        have fH := fH.off hO1 (by unfold mdC; omega) (by unfold mdC; omega) (by unfold mdC; omega)
        show Ev tb 85 131 [some (.ref 0), some (.int (nI m)), some (.int (nI wd)), some (.int (nI b)), some (.int (nI k)), some (.int (nI 1)), some (.int (nI 1))] [.int (nI (srtF (HE n) kd x.2.1 s.2.1 true))] H1 _
        refine ev_pop i85_131 rfl ?_
        refine evn_iinc (d := 1) (L' := [some (.ref 0), some (.int (nI m)), some (.int (nI wd)), some (.int (nI b)), some (.int (nI (k + 1))), some (.int (nI 1)), some (.int (nI 1))]) i85_132 rfl rfl (by decide) rfl ?_
        refine ev_goto (t := 50) i85_135 (by decide) ?_
        have hb3 : b < 256 := hb2
        refine (lq85 b3 b4 b5 b6 hm hwd d (k + 1) (b) H1 _ (by omega) hb3 f0 fH hN (hrF_ok b6.1 b4 hx) _ _).post (fun r H' hq => ?_)
        unfold rngL
        rw [if_neg (by rw [z63]; simp [*]), z63, if_neg (by simp [*])]
        exact ⟨hq.1, hq.2.1, hO1.trans hq.2.2 (fun _ q => q) (fun _ q => q)⟩
theorem x85 {tb : dxT} {H : dxH} {tx : Nat → Nat} {ln n : Nat} {sd kd : Nat → Nat} {s : Sn} {am : Nat} {stk : Nat → Sn} {kp : Nat → Bool} {ks : Nat → Sn} {tm : Nat} {tc th : Nat → Nat} {td : Nat → Bool} {sed : Int64} {m wd : Nat} (hI : CInv H tx ln n sd kd s am stk kp ks tm tc th td sed) (hS : SpOK tx ln n sd kd s am stk kp ks tm tc th) (hm1 : 1 ≤ m) (hm : m ≤ 8) (hr : wd < 2 ^ m) : Cl tb 85 [.ref 0, .int (nI m), .int (nI wd)] H (fun r H' => r = some (.int (if s.2.1 = true then -9 else rngL wd (HE n) sd kd s.1 s.2.1 m 0 0 s.2.2)) ∧ CInv H' tx ln n sd kd s am stk kp ks tm tc th td sed ∧ Off xC H H') := by
  obtain ⟨f0, fT, fH, fM, fA, fK, fL, fP⟩ := id hI
  obtain ⟨⟨b1, b2⟩, b3, b4, b5, b6, b7, b8, b9, b10, b11⟩ := id hS
  have hT := fP.1
  have g0 := f0
  unfold CC at g0
  obtain ⟨m0, m1, m2, m3, m4⟩ := id fM
  obtain ⟨_, _, _, _, _, _, _, _, ⟨t0, _⟩, _⟩ := id hT
  have hb : HE n < 64 := HE_lt b3
  have ha : 6 ≤ 6 := Nat.le_refl 6
  have hp8 : 2 ^ m ≤ 2 ^ 8 := Nat.pow_le_pow_right (by decide) hm
  show Ev tb 85 0 [some (.ref 0), some (.int (nI m)), some (.int (nI wd)), none, none, none, none] [] H _
  refine ev_iload_n i85_0 rfl ?_
  refine ev_callS (vs := [.int (nI m)]) (rest := []) i85_1 ci85 lk7_156 (Or.inl rfl) np99 (by decide +kernel) (Nat.le_of_ble_eq_true rfl) ⟨rfl, rfl, Nat.le_of_ble_eq_true rfl⟩ rfl (c99t (by omega) (by omega)) (fun r HH hq => ?_)
  obtain ⟨rfl, rfl⟩ := hq
  show Ev tb 85 4 [some (.ref 0), some (.int (nI m)), some (.int (nI wd)), none, none, none, none] [.int (bI true)] H _
  refine evb_if_eq (t := 18) i85_4 (by decide) (fun z4 => by exfalso; cases z4) (fun z4 => ?_)
  refine ev_iload_n i85_7 rfl ?_
  refine evn_if_lt (t := 18) i85_8 (by decide) (by omega) ?_
  refine ev_iload_n i85_11 rfl ?_
  refine ev_iconst (v := nI 1) i85_12 (by decide) ?_
  refine ev_iload_n i85_13 rfl ?_
  refine ev_ishl i85_14 ?_
  rw [shl1 m (by omega)]
  refine evn_icmp_lt (t := 21) i85_15 (by decide) (by omega) (fun z15 => ?_) (fun z15 => by exfalso; omega)
  refine ev_aload_n i85_21 rfl ?_
  refine ev_get i85_22 ci85 fl7_28 (by assumption) rfl ?_
  refine ev_callV (vs := []) (rest := []) i85_25 ci85 lk7_144 (congrArg (fun q => q + 1) np35) ci35 (by decide) (by decide +kernel) (Nat.le_of_ble_eq_true rfl) ⟨rfl, rfl, Nat.le_of_ble_eq_true rfl⟩ rfl (by assumption) (c35 fM) (fun r HH hq => ?_)
  obtain ⟨rfl, rfl⟩ := hq
  show Ev tb 85 28 [some (.ref 0), some (.int (nI m)), some (.int (nI wd)), none, none, none, none] [.int (bI s.2.1)] H _
  refine evb_if_eq (t := 34) i85_28 (by decide) (fun z28 => ?_) (fun z28 => ?_)
  · refine ev_aload_n i85_34 rfl ?_
    refine ev_get i85_35 ci85 fl7_32 (by assumption) rfl ?_
    refine ev_aload_n i85_38 rfl ?_
    refine ev_get i85_39 ci85 fl7_28 (by assumption) rfl ?_
    refine ev_callV (vs := [.ref 6]) (rest := []) i85_42 ci85 lk7_159 (congrArg (fun q => q + 1) np20) ci20 (by decide) (by decide +kernel) (Nat.le_of_ble_eq_true rfl) ⟨rfl, rfl, Nat.le_of_ble_eq_true rfl⟩ rfl (by assumption) (c20 hT fM b6.2.2.1.2.2.1 b6.2.1 b6.2.2.1.2.2.2.1 b6.2.2.1.2.2.2.2 (by decide)) (fun r H1 hq => ?_)
    obtain ⟨rfl, hN, hO1⟩ := hq
    have f0 := f0.off hO1 (by unfold mdC; omega)
    have fH := fH.off hO1 (by unfold mdC; omega) (by unfold mdC; omega) (by unfold mdC; omega)
    have fM := fM.off hO1 (fun j u1 u2 => by unfold mdC; omega)
    have g0 := f0
    unfold CC at g0
    obtain ⟨t0, t1, t2, t3, t4⟩ := id hN
    obtain ⟨m0, m1, m2, m3, m4⟩ := id fM
    have hOO : Off (mdC 11) H H1 := hO1
    show Ev tb 85 45 [some (.ref 0), some (.int (nI m)), some (.int (nI wd)), none, none, none, none] [] H1 _
    refine ev_iconst (v := nI 0) i85_45 (by decide) ?_
    refine ev_istore_n (L' := [some (.ref 0), some (.int (nI m)), some (.int (nI wd)), some (.int (nI 0)), none, none, none]) i85_46 ⟨Nat.le_of_ble_eq_true rfl, rfl⟩ rfl ?_
    refine ev_iconst (v := nI 0) i85_47 (by decide) ?_
    refine ev_istore (L' := [some (.ref 0), some (.int (nI m)), some (.int (nI wd)), some (.int (nI 0)), some (.int (nI 0)), none, none]) i85_48 ⟨Nat.le_of_ble_eq_true rfl, rfl⟩ rfl ?_
    refine (lq85 b3 b4 b5 b6 hm (by omega) m 0 0 H1 _ (Nat.zero_add m) (by decide) f0 fH hN b6.x _ _).post (fun r H' hq => ?_)
    rw [if_neg (by simp [z28])]
    exact ⟨hq.1, hI.tr (hOO.trans hq.2.2 (fun _ q => q) (fun _ q => q)) hq.2.1⟩
  · refine ev_bipush (v := (-9)) i85_31 (by decide) ?_
    refine ev_iret i85_33 (by decide +kernel) ?_
    rw [if_pos z28]
    exact ⟨rfl, hI, Off.rf⟩
theorem x85f {tb : dxT} {H : dxH} {tx : Nat → Nat} {ln n : Nat} {sd kd : Nat → Nat} {s : Sn} {am : Nat} {stk : Nat → Sn} {kp : Nat → Bool} {ks : Nat → Sn} {tm : Nat} {tc th : Nat → Nat} {td : Nat → Bool} {sed : Int64} {x y : Int32} (hI : CInv H tx ln n sd kd s am stk kp ks tm tc th td sed) (hS : SpOK tx ln n sd kd s am stk kp ks tm tc th) (h : ahdB x = false) : Cl tb 85 [.ref 0, .int x, .int y] H (fun r H' => r = some (.int (-2)) ∧ CInv H' tx ln n sd kd s am stk kp ks tm tc th td sed ∧ Off xC H H') := by
  obtain ⟨f0, fT, fH, fM, fA, fK, fL, fP⟩ := id hI
  obtain ⟨⟨b1, b2⟩, b3, b4, b5, b6, b7, b8, b9, b10, b11⟩ := id hS
  have hT := fP.1
  have g0 := f0
  unfold CC at g0
  obtain ⟨m0, m1, m2, m3, m4⟩ := id fM
  obtain ⟨_, _, _, _, _, _, _, _, ⟨t0, _⟩, _⟩ := id hT
  have hb : HE n < 64 := HE_lt b3
  have ha : 6 ≤ 6 := Nat.le_refl 6
  show Ev tb 85 0 [some (.ref 0), some (.int x), some (.int y), none, none, none, none] [] H _
  refine ev_iload_n i85_0 rfl ?_
  refine ev_callS (vs := [.int x]) (rest := []) i85_1 ci85 lk7_156 (Or.inl rfl) np99 (by decide +kernel) (Nat.le_of_ble_eq_true rfl) ⟨rfl, rfl, Nat.le_of_ble_eq_true rfl⟩ rfl (c99f (by assumption)) (fun r HH hq => ?_)
  obtain ⟨rfl, rfl⟩ := hq
  show Ev tb 85 4 [some (.ref 0), some (.int x), some (.int y), none, none, none, none] [.int (bI false)] H _
  refine evb_if_eq (t := 18) i85_4 (by decide) (fun z4 => ?_) (fun z4 => by exfalso; cases z4)
  refine ev_bipush (v := (-2)) i85_18 (by decide) ?_
  refine ev_iret i85_20 (by decide +kernel) ?_
  exact ⟨rfl, hI, Off.rf⟩
theorem x85o {tb : dxT} {H : dxH} {tx : Nat → Nat} {ln n : Nat} {sd kd : Nat → Nat} {s : Sn} {am : Nat} {stk : Nat → Sn} {kp : Nat → Bool} {ks : Nat → Sn} {tm : Nat} {tc th : Nat → Nat} {td : Nat → Bool} {sed : Int64} {m : Nat} {y : Int32} (hI : CInv H tx ln n sd kd s am stk kp ks tm tc th td sed) (hS : SpOK tx ln n sd kd s am stk kp ks tm tc th) (hm1 : 1 ≤ m) (hm : m ≤ 8) (h : inR y (2 ^ m) = false) : Cl tb 85 [.ref 0, .int (nI m), .int y] H (fun r H' => r = some (.int (-2)) ∧ CInv H' tx ln n sd kd s am stk kp ks tm tc th td sed ∧ Off xC H H') := by
  obtain ⟨f0, fT, fH, fM, fA, fK, fL, fP⟩ := id hI
  obtain ⟨⟨b1, b2⟩, b3, b4, b5, b6, b7, b8, b9, b10, b11⟩ := id hS
  have hT := fP.1
  have g0 := f0
  unfold CC at g0
  obtain ⟨m0, m1, m2, m3, m4⟩ := id fM
  obtain ⟨_, _, _, _, _, _, _, _, ⟨t0, _⟩, _⟩ := id hT
  have hb : HE n < 64 := HE_lt b3
  have ha : 6 ≤ 6 := Nat.le_refl 6
  have h1 := of_decide_eq_false h
  show Ev tb 85 0 [some (.ref 0), some (.int (nI m)), some (.int y), none, none, none, none] [] H _
  refine ev_iload_n i85_0 rfl ?_
  refine ev_callS (vs := [.int (nI m)]) (rest := []) i85_1 ci85 lk7_156 (Or.inl rfl) np99 (by decide +kernel) (Nat.le_of_ble_eq_true rfl) ⟨rfl, rfl, Nat.le_of_ble_eq_true rfl⟩ rfl (c99t (by omega) (by omega)) (fun r HH hq => ?_)
  obtain ⟨rfl, rfl⟩ := hq
  show Ev tb 85 4 [some (.ref 0), some (.int (nI m)), some (.int y), none, none, none, none] [.int (bI true)] H _
  refine evb_if_eq (t := 18) i85_4 (by decide) (fun z4 => by exfalso; cases z4) (fun z4 => ?_)
  refine ev_iload_n i85_7 rfl ?_
  refine ev_if_lt (t := 18) i85_8 (by decide) (fun z8 => ?_) (fun z8 => ?_)
  · refine ev_bipush (v := (-2)) i85_18 (by decide) ?_
    refine ev_iret i85_20 (by decide +kernel) ?_
    exact ⟨rfl, hI, Off.rf⟩
  · refine ev_iload_n i85_11 rfl ?_
    refine ev_iconst (v := nI 1) i85_12 (by decide) ?_
    refine ev_iload_n i85_13 rfl ?_
    refine ev_ishl i85_14 ?_
    rw [shl1 m (by omega)]
    refine ev_icmp_lt (t := 21) i85_15 (by decide) (fun z15 => by exfalso; exact h1 ⟨z8, z15⟩) (fun z15 => ?_)
    refine ev_bipush (v := (-2)) i85_18 (by decide) ?_
    refine ev_iret i85_20 (by decide +kernel) ?_
    exact ⟨rfl, hI, Off.rf⟩
