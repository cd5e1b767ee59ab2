/-! the model reads its text: a figure  -/
/-- the object while the text is read -/
def pOb (n : Nat) (f : Nat → Int32) (sed : Int64) (ln : Nat) (rc rv rl at_ fa : Int32) : dxE := .inr (8, [.int (nI n), .ref 112, .ref 113, .ref 114, .ref 115, .ref 116, .ref 117, .int rc, .int rv, .int rl, .ref 118, .int (nI ln), .int at_, .int fa, .int (f 6), .int (f 7), .ref 119, .ref 120, .int (f 8), .ref 121, .ref 122, .ref 123, .ref 124, .long sed, .ref 125, .ref 126])
theorem inJ_N {x : Int32} {a b : Nat} (ha : a < 2147483648) (hb : b < 2147483648) : inJ x.toInt64 (nI a).toInt64 (nI b).toInt64 = inM x a b := inJ_M (by rw [Int32.toInt_toInt64, nI_toInt ha]) (by rw [Int32.toInt_toInt64, nI_toInt hb]) ha hb
theorem inM_nf {k a b : Nat} (h : ¬ (a ≤ k ∧ k ≤ b)) (hk : k < 2147483648) (ha : a < 2147483648) (hb : b < 2147483648) : inM (nI k) a b = false := decide_eq_false (fun q => h ⟨(nI_leI ha hk).mp q.1, (nI_leI hk hb).mp q.2⟩)
theorem sub48 : ∀ t, t < 48 → (nI t - nI 48).toInt < 0 := by decide
theorem inM_ng {x : Int32} {a b : Nat} (h : x.toInt < 0) (ha : a < 2147483648) : inM x a b = false := decide_eq_false (fun q => by
  have h1 := Int32.le_iff_toInt_le.mp q.1
  rw [nI_toInt ha] at h1
  omega)
theorem msk : ∀ g, g < 1024 → (nI 1023 &&& (nI g ^^^ (-1))) = nI (1023 - g) := by decide +kernel
theorem msk_bit : ∀ g, g < 1024 → ∀ c, c < 10 → (1023 - g).testBit c = !g.testBit c := by decide +kernel
theorem c122ok {tb : dxT} {H : dxH} {n : Nat} {f : Nat → Int32} {sed : Int64} {ln : Nat} {rc rv rl : Int32} {mt : Nat → Int32} {tx : Nat → Nat} {p : Nat} {lo hi : Nat} (c0 : H[111]? = some (pOb n f sed ln rc rv rl (nI p) (-9))) (t0 : H[118]? = some (.inl (0, 64, .inl mt))) (hmt : ∀ j, j < ln → mt j = nI (tx j)) (hln : ln ≤ 64) (htx : ∀ j, tx j < 256) (hlo : lo < 1000) (hhi : hi < 1000) (hp : p < ln) (h1 : 48 + lo ≤ tx p) (h2 : tx p ≤ 48 + hi) : Cl tb 122 [.ref 111, .int (nI lo), .int (nI hi)] H (fun r H' => r = some (.int (nI (tx p - 48))) ∧ H'[111]? = some (pOb n f sed ln rc rv rl (nI (p + 1)) (-9)) ∧ Off (fun j => j = 111) H H') := by
  unfold pOb at c0
  have hO : Off (fun j => j = 111) H H := Off.rf
  show Ev tb 122 0 [some (.ref 111), some (.int (nI lo)), some (.int (nI hi)), none] [] H _
  refine ev_aload_n i122_0 rfl ?_
  refine ev_get i122_1 ci122 fl8_69 (by assumption) rfl ?_
  refine ev_bipush (v := (-9)) i122_4 (by decide) ?_
  refine ev_icmp_ne (t := 35) i122_6 (by decide) (fun z6 => by exfalso; exact absurd rfl z6) (fun z6 => ?_)
  refine ev_aload_n i122_9 rfl ?_
  refine ev_get i122_10 ci122 fl8_72 (by assumption) rfl ?_
  refine ev_aload_n i122_13 rfl ?_
  refine ev_get i122_14 ci122 fl8_66 (by assumption) rfl ?_
  refine evn_icmp_ge (t := 35) i122_17 (by decide) (by omega) (fun z17 => by exfalso; omega) (fun z17 => ?_)
  refine ev_aload_n i122_20 rfl ?_
  refine ev_get i122_21 ci122 fl8_28 (by assumption) rfl ?_
  refine ev_aload_n i122_24 rfl ?_
  refine ev_get i122_25 ci122 fl8_72 (by assumption) rfl ?_
  refine ev_iald_n i122_28 (by assumption) (by omega) ?_
  rw [hmt p (by omega)]
  refine ev_bipush (v := nI 48) i122_29 (by decide) ?_
  refine evn_isub i122_31 (by omega) ?_
  refine ev_goto (t := 37) i122_32 (by decide) ?_
  refine ev_istore_n (L' := [some (.ref 111), some (.int (nI lo)), some (.int (nI hi)), some (.int (nI ((tx p) - 48)))]) i122_37 ⟨Nat.le_of_ble_eq_true rfl, rfl⟩ rfl ?_
  refine ev_iload_n i122_38 rfl ?_
  refine ev_i2l i122_39 ?_
  refine ev_iload_n i122_40 rfl ?_
  refine ev_i2l i122_41 ?_
  refine ev_iload_n i122_42 rfl ?_
  refine ev_i2l i122_43 ?_
  refine ev_callS (vs := [.long ((nI ((tx p) - 48)).toInt64), .long ((nI lo).toInt64), .long ((nI hi).toInt64)]) (rest := []) i122_44 ci122 lk8_62 (Or.inl rfl) np117 (by decide +kernel) (Nat.le_of_ble_eq_true rfl) ⟨rfl, rfl, Nat.le_of_ble_eq_true rfl⟩ rfl (c117) (fun r HH hq => ?_)
  obtain ⟨rfl, rfl⟩ := hq
  rw [inJ_N (by omega) (by omega), inM_n (by omega) (by omega) (by omega)]
  show Ev tb 122 47 [some (.ref 111), some (.int (nI lo)), some (.int (nI hi)), some (.int (nI ((tx p) - 48)))] [.int (bI true)] H _
  refine evb_if_ne (t := 76) i122_47 (by decide) (fun z47 => ?_) (fun z47 => by exfalso; cases z47)
  refine ev_aload_n i122_76 rfl ?_
  refine ev_dup i122_77 rfl ?_
  refine ev_get i122_78 ci122 fl8_72 (by assumption) rfl ?_
  refine ev_iconst (v := nI 1) i122_81 (by decide) ?_
  refine evn_iadd i122_82 ?_
  refine evs_put (fs' := [.int (nI n), .ref 112, .ref 113, .ref 114, .ref 115, .ref 116, .ref 117, .int rc, .int rv, .int rl, .ref 118, .int (nI ln), .int (nI (p + 1)), .int (-9), .int (f 6), .int (f 7), .ref 119, .ref 120, .int (f 8), .ref 121, .ref 122, .ref 123, .ref 124, .long sed, .ref 125, .ref 126]) i122_83 ci122 fl8_72 (by assumption) ⟨Nat.le_of_ble_eq_true rfl, rfl, Or.inl rfl⟩ rfl (fun H1 hH1 => ?_)
  have c0 : H1[111]? = some (.inr (8, [.int (nI n), .ref 112, .ref 113, .ref 114, .ref 115, .ref 116, .ref 117, .int rc, .int rv, .int rl, .ref 118, .int (nI ln), .int (nI (p + 1)), .int (-9), .int (f 6), .int (f 7), .ref 119, .ref 120, .int (f 8), .ref 121, .ref 122, .ref 123, .ref 124, .long sed, .ref 125, .ref 126])) := by rw [hH1]; exact set_self c0
  have hO : Off (fun j => j = 111) H H1 := by rw [hH1]; exact hO.set (by rfl)
  refine ev_iload_n i122_86 rfl ?_
  refine ev_iret i122_87 (by decide +kernel) ?_
  exact ⟨rfl, c0, hO⟩
theorem c122a {tb : dxT} {H : dxH} {n : Nat} {f : Nat → Int32} {sed : Int64} {ln : Nat} {rc rv rl : Int32} {mt : Nat → Int32} {tx : Nat → Nat} {p : Nat} {lo hi : Nat} (c0 : H[111]? = some (pOb n f sed ln rc rv rl (nI p) (-9))) (t0 : H[118]? = some (.inl (0, 64, .inl mt))) (hmt : ∀ j, j < ln → mt j = nI (tx j)) (hln : ln ≤ 64) (htx : ∀ j, tx j < 256) (hlo : lo < 1000) (hhi : hi < 1000) (hp : ¬ p < ln) (hp2 : p ≤ ln) : Cl tb 122 [.ref 111, .int (nI lo), .int (nI hi)] H (fun r H' => r = some (.int (nI lo)) ∧ H'[111]? = some (pOb n f sed ln rc rv rl (nI p) (nI p)) ∧ Off (fun j => j = 111) H H') := by
  unfold pOb at c0
  have hO : Off (fun j => j = 111) H H := Off.rf
  show Ev tb 122 0 [some (.ref 111), some (.int (nI lo)), some (.int (nI hi)), none] [] H _
  refine ev_aload_n i122_0 rfl ?_
  refine ev_get i122_1 ci122 fl8_69 (by assumption) rfl ?_
  refine ev_bipush (v := (-9)) i122_4 (by decide) ?_
  refine ev_icmp_ne (t := 35) i122_6 (by decide) (fun z6 => by exfalso; exact absurd rfl z6) (fun z6 => ?_)
  refine ev_aload_n i122_9 rfl ?_
  refine ev_get i122_10 ci122 fl8_72 (by assumption) rfl ?_
  refine ev_aload_n i122_13 rfl ?_
  refine ev_get i122_14 ci122 fl8_66 (by assumption) rfl ?_
  refine evn_icmp_ge (t := 35) i122_17 (by decide) (by omega) (fun z17 => ?_) (fun z17 => by exfalso; omega)
  refine ev_bipush (v := (-9)) i122_35 (by decide) ?_
  refine ev_istore_n (L' := [some (.ref 111), some (.int (nI lo)), some (.int (nI hi)), some (.int (-9))]) i122_37 ⟨Nat.le_of_ble_eq_true rfl, rfl⟩ rfl ?_
  refine ev_iload_n i122_38 rfl ?_
  refine ev_i2l i122_39 ?_
  refine ev_iload_n i122_40 rfl ?_
  refine ev_i2l i122_41 ?_
  refine ev_iload_n i122_42 rfl ?_
  refine ev_i2l i122_43 ?_
  refine ev_callS (vs := [.long (Int32.toInt64 (-9)), .long ((nI lo).toInt64), .long ((nI hi).toInt64)]) (rest := []) i122_44 ci122 lk8_62 (Or.inl rfl) np117 (by decide +kernel) (Nat.le_of_ble_eq_true rfl) ⟨rfl, rfl, Nat.le_of_ble_eq_true rfl⟩ rfl (c117) (fun r HH hq => ?_)
  obtain ⟨rfl, rfl⟩ := hq
  rw [inJ_N (by omega) (by omega), inM_ng (by decide) (by omega)]
  show Ev tb 122 47 [some (.ref 111), some (.int (nI lo)), some (.int (nI hi)), some (.int (-9))] [.int (bI false)] H _
  refine evb_if_ne (t := 76) i122_47 (by decide) (fun z47 => by exfalso; cases z47) (fun z47 => ?_)
  refine ev_aload_n i122_50 rfl ?_
  refine ev_aload_n i122_51 rfl ?_
  refine ev_get i122_52 ci122 fl8_69 (by assumption) rfl ?_
  refine ev_bipush (v := (-9)) i122_55 (by decide) ?_
  refine ev_icmp_ne (t := 67) i122_57 (by decide) (fun z57 => by exfalso; exact absurd rfl z57) (fun z57 => ?_)
  refine ev_aload_n i122_60 rfl ?_
  refine ev_get i122_61 ci122 fl8_72 (by assumption) rfl ?_
  refine ev_goto (t := 71) i122_64 (by decide) ?_
  refine evs_put (fs' := [.int (nI n), .ref 112, .ref 113, .ref 114, .ref 115, .ref 116, .ref 117, .int rc, .int rv, .int rl, .ref 118, .int (nI ln), .int (nI p), .int (nI p), .int (f 6), .int (f 7), .ref 119, .ref 120, .int (f 8), .ref 121, .ref 122, .ref 123, .ref 124, .long sed, .ref 125, .ref 126]) i122_71 ci122 fl8_69 (by assumption) ⟨Nat.le_of_ble_eq_true rfl, rfl, Or.inl rfl⟩ rfl (fun H1 hH1 => ?_)
  have c0 : H1[111]? = some (.inr (8, [.int (nI n), .ref 112, .ref 113, .ref 114, .ref 115, .ref 116, .ref 117, .int rc, .int rv, .int rl, .ref 118, .int (nI ln), .int (nI p), .int (nI p), .int (f 6), .int (f 7), .ref 119, .ref 120, .int (f 8), .ref 121, .ref 122, .ref 123, .ref 124, .long sed, .ref 125, .ref 126])) := by rw [hH1]; exact set_self c0
  have hO : Off (fun j => j = 111) H H1 := by rw [hH1]; exact hO.set (by rfl)
  refine ev_iload_n i122_74 rfl ?_
  refine ev_iret i122_75 (by decide +kernel) ?_
  exact ⟨rfl, c0, hO⟩
theorem c122b {tb : dxT} {H : dxH} {n : Nat} {f : Nat → Int32} {sed : Int64} {ln : Nat} {rc rv rl : Int32} {mt : Nat → Int32} {tx : Nat → Nat} {p : Nat} {lo hi : Nat} (c0 : H[111]? = some (pOb n f sed ln rc rv rl (nI p) (-9))) (t0 : H[118]? = some (.inl (0, 64, .inl mt))) (hmt : ∀ j, j < ln → mt j = nI (tx j)) (hln : ln ≤ 64) (htx : ∀ j, tx j < 256) (hlo : lo < 1000) (hhi : hi < 1000) (hp : p < ln) (h1 : tx p < 48) : Cl tb 122 [.ref 111, .int (nI lo), .int (nI hi)] H (fun r H' => r = some (.int (nI lo)) ∧ H'[111]? = some (pOb n f sed ln rc rv rl (nI p) (nI p)) ∧ Off (fun j => j = 111) H H') := by
  unfold pOb at c0
  have hO : Off (fun j => j = 111) H H := Off.rf
  show Ev tb 122 0 [some (.ref 111), some (.int (nI lo)), some (.int (nI hi)), none] [] H _
  refine ev_aload_n i122_0 rfl ?_
  refine ev_get i122_1 ci122 fl8_69 (by assumption) rfl ?_
  refine ev_bipush (v := (-9)) i122_4 (by decide) ?_
  refine ev_icmp_ne (t := 35) i122_6 (by decide) (fun z6 => by exfalso; exact absurd rfl z6) (fun z6 => ?_)
  refine ev_aload_n i122_9 rfl ?_
  refine ev_get i122_10 ci122 fl8_72 (by assumption) rfl ?_
  refine ev_aload_n i122_13 rfl ?_
  refine ev_get i122_14 ci122 fl8_66 (by assumption) rfl ?_
  refine evn_icmp_ge (t := 35) i122_17 (by decide) (by omega) (fun z17 => by exfalso; omega) (fun z17 => ?_)
  refine ev_aload_n i122_20 rfl ?_
  refine ev_get i122_21 ci122 fl8_28 (by assumption) rfl ?_
  refine ev_aload_n i122_24 rfl ?_
  refine ev_get i122_25 ci122 fl8_72 (by assumption) rfl ?_
  refine ev_iald_n i122_28 (by assumption) (by omega) ?_
  rw [hmt p (by omega)]
  refine ev_bipush (v := nI 48) i122_29 (by decide) ?_
  refine ev_isub i122_31 ?_
  refine ev_goto (t := 37) i122_32 (by decide) ?_
  refine ev_istore_n (L' := [some (.ref 111), some (.int (nI lo)), some (.int (nI hi)), some (.int ((nI (tx p)) - (nI 48)))]) i122_37 ⟨Nat.le_of_ble_eq_true rfl, rfl⟩ rfl ?_
  refine ev_iload_n i122_38 rfl ?_
  refine ev_i2l i122_39 ?_
  refine ev_iload_n i122_40 rfl ?_
  refine ev_i2l i122_41 ?_
  refine ev_iload_n i122_42 rfl ?_
  refine ev_i2l i122_43 ?_
  refine ev_callS (vs := [.long (((nI (tx p)) - (nI 48)).toInt64), .long ((nI lo).toInt64), .long ((nI hi).toInt64)]) (rest := []) i122_44 ci122 lk8_62 (Or.inl rfl) np117 (by decide +kernel) (Nat.le_of_ble_eq_true rfl) ⟨rfl, rfl, Nat.le_of_ble_eq_true rfl⟩ rfl (c117) (fun r HH hq => ?_)
  obtain ⟨rfl, rfl⟩ := hq
  rw [inJ_N (by omega) (by omega), inM_ng (sub48 (tx p) h1) (by omega)]
  show Ev tb 122 47 [some (.ref 111), some (.int (nI lo)), some (.int (nI hi)), some (.int ((nI (tx p)) - (nI 48)))] [.int (bI false)] H _
  refine evb_if_ne (t := 76) i122_47 (by decide) (fun z47 => by exfalso; cases z47) (fun z47 => ?_)
  refine ev_aload_n i122_50 rfl ?_
  refine ev_aload_n i122_51 rfl ?_
  refine ev_get i122_52 ci122 fl8_69 (by assumption) rfl ?_
  refine ev_bipush (v := (-9)) i122_55 (by decide) ?_
  refine ev_icmp_ne (t := 67) i122_57 (by decide) (fun z57 => by exfalso; exact absurd rfl z57) (fun z57 => ?_)
  refine ev_aload_n i122_60 rfl ?_
  refine ev_get i122_61 ci122 fl8_72 (by assumption) rfl ?_
  refine ev_goto (t := 71) i122_64 (by decide) ?_
  refine evs_put (fs' := [.int (nI n), .ref 112, .ref 113, .ref 114, .ref 115, .ref 116, .ref 117, .int rc, .int rv, .int rl, .ref 118, .int (nI ln), .int (nI p), .int (nI p), .int (f 6), .int (f 7), .ref 119, .ref 120, .int (f 8), .ref 121, .ref 122, .ref 123, .ref 124, .long sed, .ref 125, .ref 126]) i122_71 ci122 fl8_69 (by assumption) ⟨Nat.le_of_ble_eq_true rfl, rfl, Or.inl rfl⟩ rfl (fun H1 hH1 => ?_)
  have c0 : H1[111]? = some (.inr (8, [.int (nI n), .ref 112, .ref 113, .ref 114, .ref 115, .ref 116, .ref 117, .int rc, .int rv, .int rl, .ref 118, .int (nI ln), .int (nI p), .int (nI p), .int (f 6), .int (f 7), .ref 119, .ref 120, .int (f 8), .ref 121, .ref 122, .ref 123, .ref 124, .long sed, .ref 125, .ref 126])) := by rw [hH1]; exact set_self c0
  have hO : Off (fun j => j = 111) H H1 := by rw [hH1]; exact hO.set (by rfl)
  refine ev_iload_n i122_74 rfl ?_
  refine ev_iret i122_75 (by decide +kernel) ?_
  exact ⟨rfl, c0, hO⟩
theorem c122c {tb : dxT} {H : dxH} {n : Nat} {f : Nat → Int32} {sed : Int64} {ln : Nat} {rc rv rl : Int32} {mt : Nat → Int32} {tx : Nat → Nat} {p : Nat} {lo hi : Nat} (c0 : H[111]? = some (pOb n f sed ln rc rv rl (nI p) (-9))) (t0 : H[118]? = some (.inl (0, 64, .inl mt))) (hmt : ∀ j, j < ln → mt j = nI (tx j)) (hln : ln ≤ 64) (htx : ∀ j, tx j < 256) (hlo : lo < 1000) (hhi : hi < 1000) (hp : p < ln) (h1 : 48 ≤ tx p) (h2 : ¬ (48 + lo ≤ tx p ∧ tx p ≤ 48 + hi)) : Cl tb 122 [.ref 111, .int (nI lo), .int (nI hi)] H (fun r H' => r = some (.int (nI lo)) ∧ H'[111]? = some (pOb n f sed ln rc rv rl (nI p) (nI p)) ∧ Off (fun j => j = 111) H H') := by
  unfold pOb at c0
  have hO : Off (fun j => j = 111) H H := Off.rf
  have hx := htx p
  show Ev tb 122 0 [some (.ref 111), some (.int (nI lo)), some (.int (nI hi)), none] [] H _
  refine ev_aload_n i122_0 rfl ?_
  refine ev_get i122_1 ci122 fl8_69 (by assumption) rfl ?_
  refine ev_bipush (v := (-9)) i122_4 (by decide) ?_
  refine ev_icmp_ne (t := 35) i122_6 (by decide) (fun z6 => by exfalso; exact absurd rfl z6) (fun z6 => ?_)
  refine ev_aload_n i122_9 rfl ?_
  refine ev_get i122_10 ci122 fl8_72 (by assumption) rfl ?_
  refine ev_aload_n i122_13 rfl ?_
  refine ev_get i122_14 ci122 fl8_66 (by assumption) rfl ?_
  refine evn_icmp_ge (t := 35) i122_17 (by decide) (by omega) (fun z17 => by exfalso; omega) (fun z17 => ?_)
  refine ev_aload_n i122_20 rfl ?_
  refine ev_get i122_21 ci122 fl8_28 (by assumption) rfl ?_
  refine ev_aload_n i122_24 rfl ?_
  refine ev_get i122_25 ci122 fl8_72 (by assumption) rfl ?_
  refine ev_iald_n i122_28 (by assumption) (by omega) ?_
  rw [hmt p (by omega)]
  refine ev_bipush (v := nI 48) i122_29 (by decide) ?_
  refine evn_isub i122_31 (by omega) ?_
  refine ev_goto (t := 37) i122_32 (by decide) ?_
  refine ev_istore_n (L' := [some (.ref 111), some (.int (nI lo)), some (.int (nI hi)), some (.int (nI ((tx p) - 48)))]) i122_37 ⟨Nat.le_of_ble_eq_true rfl, rfl⟩ rfl ?_
  refine ev_iload_n i122_38 rfl ?_
  refine ev_i2l i122_39 ?_
  refine ev_iload_n i122_40 rfl ?_
  refine ev_i2l i122_41 ?_
  refine ev_iload_n i122_42 rfl ?_
  refine ev_i2l i122_43 ?_
  refine ev_callS (vs := [.long ((nI ((tx p) - 48)).toInt64), .long ((nI lo).toInt64), .long ((nI hi).toInt64)]) (rest := []) i122_44 ci122 lk8_62 (Or.inl rfl) np117 (by decide +kernel) (Nat.le_of_ble_eq_true rfl) ⟨rfl, rfl, Nat.le_of_ble_eq_true rfl⟩ rfl (c117) (fun r HH hq => ?_)
  obtain ⟨rfl, rfl⟩ := hq
  rw [inJ_N (by omega) (by omega), inM_nf (by omega) (by omega) (by omega) (by omega)]
  show Ev tb 122 47 [some (.ref 111), some (.int (nI lo)), some (.int (nI hi)), some (.int (nI ((tx p) - 48)))] [.int (bI false)] H _
  refine evb_if_ne (t := 76) i122_47 (by decide) (fun z47 => by exfalso; cases z47) (fun z47 => ?_)
  refine ev_aload_n i122_50 rfl ?_
  refine ev_aload_n i122_51 rfl ?_
  refine ev_get i122_52 ci122 fl8_69 (by assumption) rfl ?_
  refine ev_bipush (v := (-9)) i122_55 (by decide) ?_
  refine ev_icmp_ne (t := 67) i122_57 (by decide) (fun z57 => by exfalso; exact absurd rfl z57) (fun z57 => ?_)
  refine ev_aload_n i122_60 rfl ?_
  refine ev_get i122_61 ci122 fl8_72 (by assumption) rfl ?_
  refine ev_goto (t := 71) i122_64 (by decide) ?_
  refine evs_put (fs' := [.int (nI n), .ref 112, .ref 113, .ref 114, .ref 115, .ref 116, .ref 117, .int rc, .int rv, .int rl, .ref 118, .int (nI ln), .int (nI p), .int (nI p), .int (f 6), .int (f 7), .ref 119, .ref 120, .int (f 8), .ref 121, .ref 122, .ref 123, .ref 124, .long sed, .ref 125, .ref 126]) i122_71 ci122 fl8_69 (by assumption) ⟨Nat.le_of_ble_eq_true rfl, rfl, Or.inl rfl⟩ rfl (fun H1 hH1 => ?_)
  have c0 : H1[111]? = some (.inr (8, [.int (nI n), .ref 112, .ref 113, .ref 114, .ref 115, .ref 116, .ref 117, .int rc, .int rv, .int rl, .ref 118, .int (nI ln), .int (nI p), .int (nI p), .int (f 6), .int (f 7), .ref 119, .ref 120, .int (f 8), .ref 121, .ref 122, .ref 123, .ref 124, .long sed, .ref 125, .ref 126])) := by rw [hH1]; exact set_self c0
  have hO : Off (fun j => j = 111) H H1 := by rw [hH1]; exact hO.set (by rfl)
  refine ev_iload_n i122_74 rfl ?_
  refine ev_iret i122_75 (by decide +kernel) ?_
  exact ⟨rfl, c0, hO⟩
theorem c122skip {tb : dxT} {H : dxH} {n : Nat} {f : Nat → Int32} {sed : Int64} {ln : Nat} {rc rv rl : Int32} {mt : Nat → Int32} {tx : Nat → Nat} {p : Nat} {lo hi : Nat} {at_ fa : Int32} (c0 : H[111]? = some (pOb n f sed ln rc rv rl at_ fa)) (t0 : H[118]? = some (.inl (0, 64, .inl mt))) (hmt : ∀ j, j < ln → mt j = nI (tx j)) (hln : ln ≤ 64) (htx : ∀ j, tx j < 256) (hlo : lo < 1000) (hhi : hi < 1000) (he : ¬ fa = -9) : Cl tb 122 [.ref 111, .int (nI lo), .int (nI hi)] H (fun r H' => r = some (.int (nI lo)) ∧ H'[111]? = some (pOb n f sed ln rc rv rl at_ fa) ∧ Off (fun j => j = 111) H H') := by
  unfold pOb at c0
  have hO : Off (fun j => j = 111) H H := Off.rf
  show Ev tb 122 0 [some (.ref 111), some (.int (nI lo)), some (.int (nI hi)), none] [] H _
  refine ev_aload_n i122_0 rfl ?_
  refine ev_get i122_1 ci122 fl8_69 (by assumption) rfl ?_
  refine ev_bipush (v := (-9)) i122_4 (by decide) ?_
  refine ev_icmp_ne (t := 35) i122_6 (by decide) (fun z6 => ?_) (fun z6 => by exfalso; exact he z6)
  refine ev_bipush (v := (-9)) i122_35 (by decide) ?_
  refine ev_istore_n (L' := [some (.ref 111), some (.int (nI lo)), some (.int (nI hi)), some (.int (-9))]) i122_37 ⟨Nat.le_of_ble_eq_true rfl, rfl⟩ rfl ?_
  refine ev_iload_n i122_38 rfl ?_
  refine ev_i2l i122_39 ?_
  refine ev_iload_n i122_40 rfl ?_
  refine ev_i2l i122_41 ?_
  refine ev_iload_n i122_42 rfl ?_
  refine ev_i2l i122_43 ?_
  refine ev_callS (vs := [.long (Int32.toInt64 (-9)), .long ((nI lo).toInt64), .long ((nI hi).toInt64)]) (rest := []) i122_44 ci122 lk8_62 (Or.inl rfl) np117 (by decide +kernel) (Nat.le_of_ble_eq_true rfl) ⟨rfl, rfl, Nat.le_of_ble_eq_true rfl⟩ rfl (c117) (fun r HH hq => ?_)
  obtain ⟨rfl, rfl⟩ := hq
  rw [inJ_N (by omega) (by omega), inM_ng (by decide) (by omega)]
  show Ev tb 122 47 [some (.ref 111), some (.int (nI lo)), some (.int (nI hi)), some (.int (-9))] [.int (bI false)] H _
  refine evb_if_ne (t := 76) i122_47 (by decide) (fun z47 => by exfalso; cases z47) (fun z47 => ?_)
  refine ev_aload_n i122_50 rfl ?_
  refine ev_aload_n i122_51 rfl ?_
  refine ev_get i122_52 ci122 fl8_69 (by assumption) rfl ?_
  refine ev_bipush (v := (-9)) i122_55 (by decide) ?_
  refine ev_icmp_ne (t := 67) i122_57 (by decide) (fun z57 => ?_) (fun z57 => by exfalso; exact he z57)
  refine ev_aload_n i122_67 rfl ?_
  refine ev_get i122_68 ci122 fl8_69 (by assumption) rfl ?_
  refine evs_put (fs' := [.int (nI n), .ref 112, .ref 113, .ref 114, .ref 115, .ref 116, .ref 117, .int rc, .int rv, .int rl, .ref 118, .int (nI ln), .int at_, .int fa, .int (f 6), .int (f 7), .ref 119, .ref 120, .int (f 8), .ref 121, .ref 122, .ref 123, .ref 124, .long sed, .ref 125, .ref 126]) i122_71 ci122 fl8_69 (by assumption) ⟨Nat.le_of_ble_eq_true rfl, rfl, Or.inl rfl⟩ rfl (fun H1 hH1 => ?_)
  have c0 : H1[111]? = some (.inr (8, [.int (nI n), .ref 112, .ref 113, .ref 114, .ref 115, .ref 116, .ref 117, .int rc, .int rv, .int rl, .ref 118, .int (nI ln), .int at_, .int fa, .int (f 6), .int (f 7), .ref 119, .ref 120, .int (f 8), .ref 121, .ref 122, .ref 123, .ref 124, .long sed, .ref 125, .ref 126])) := by rw [hH1]; exact set_self c0
  have hO : Off (fun j => j = 111) H H1 := by rw [hH1]; exact hO.set (by rfl)
  refine ev_iload_n i122_74 rfl ?_
  refine ev_iret i122_75 (by decide +kernel) ?_
  exact ⟨rfl, c0, hO⟩
theorem c122bad {tb : dxT} {H : dxH} {n : Nat} {f : Nat → Int32} {sed : Int64} {ln : Nat} {rc rv rl : Int32} {mt : Nat → Int32} {tx : Nat → Nat} {p lo hi : Nat} (c0 : H[111]? = some (pOb n f sed ln rc rv rl (nI p) (-9))) (t0 : H[118]? = some (.inl (0, 64, .inl mt))) (hmt : ∀ j, j < ln → mt j = nI (tx j)) (hln : ln ≤ 64) (htx : ∀ j, tx j < 256) (hlo : lo < 1000) (hhi : hi < 1000) (hp2 : p ≤ ln) (h : ¬ (p < ln ∧ 48 + lo ≤ tx p ∧ tx p ≤ 48 + hi)) : Cl tb 122 [.ref 111, .int (nI lo), .int (nI hi)] H (fun r H' => r = some (.int (nI lo)) ∧ H'[111]? = some (pOb n f sed ln rc rv rl (nI p) (nI p)) ∧ Off (fun j => j = 111) H H') := by
  by_cases hp : p < ln
  · by_cases h1 : tx p < 48
    · exact c122b c0 t0 hmt hln htx hlo hhi hp h1
    · exact c122c c0 t0 hmt hln htx hlo hhi hp (by omega) (by omega)
  · exact c122a c0 t0 hmt hln htx hlo hhi hp hp2
theorem c123ok {tb : dxT} {H : dxH} {n : Nat} {f : Nat → Int32} {sed : Int64} {ln : Nat} {rc rv rl : Int32} {mt : Nat → Int32} {tx : Nat → Nat} {p : Nat} {us : Nat} (c0 : H[111]? = some (pOb n f sed ln rc rv rl (nI p) (-9))) (t0 : H[118]? = some (.inl (0, 64, .inl mt))) (hmt : ∀ j, j < ln → mt j = nI (tx j)) (hln : ln ≤ 64) (htx : ∀ j, tx j < 256) (hus : us < 1024) (hp : p < ln) (h1 : 48 ≤ tx p) (h2 : tx p ≤ 57) (hbit0 : us.testBit (tx p - 48) = false) : Cl tb 123 [.ref 111, .int (nI (1023 - us))] H (fun r H' => r = some (.int (nI (tx p - 48))) ∧ H'[111]? = some (pOb n f sed ln rc rv rl (nI (p + 1)) (-9)) ∧ Off (fun j => j = 111) H H') := by
  unfold pOb at c0
  have hO : Off (fun j => j = 111) H H := Off.rf
  have hbit : (!us.testBit (tx p - 48)) = true := by rw [hbit0]; rfl
  show Ev tb 123 0 [some (.ref 111), some (.int (nI (1023 - us))), none] [] H _
  refine ev_aload_n i123_0 rfl ?_
  refine ev_get i123_1 ci123 fl8_69 (by assumption) rfl ?_
  refine ev_bipush (v := (-9)) i123_4 (by decide) ?_
  refine ev_icmp_ne (t := 35) i123_6 (by decide) (fun z6 => by exfalso; exact absurd rfl z6) (fun z6 => ?_)
  refine ev_aload_n i123_9 rfl ?_
  refine ev_get i123_10 ci123 fl8_72 (by assumption) rfl ?_
  refine ev_aload_n i123_13 rfl ?_
  refine ev_get i123_14 ci123 fl8_66 (by assumption) rfl ?_
  refine evn_icmp_ge (t := 35) i123_17 (by decide) (by omega) (fun z17 => by exfalso; omega) (fun z17 => ?_)
  refine ev_aload_n i123_20 rfl ?_
  refine ev_get i123_21 ci123 fl8_28 (by assumption) rfl ?_
  refine ev_aload_n i123_24 rfl ?_
  refine ev_get i123_25 ci123 fl8_72 (by assumption) rfl ?_
  refine ev_iald_n i123_28 (by assumption) (by omega) ?_
  rw [hmt p (by omega)]
  refine ev_bipush (v := nI 48) i123_29 (by decide) ?_
  refine evn_isub i123_31 (by omega) ?_
  refine ev_goto (t := 37) i123_32 (by decide) ?_
  refine ev_istore_n (L' := [some (.ref 111), some (.int (nI (1023 - us))), some (.int (nI ((tx p) - 48)))]) i123_37 ⟨Nat.le_of_ble_eq_true rfl, rfl⟩ rfl ?_
  refine ev_iload_n i123_38 rfl ?_
  refine ev_i2l i123_39 ?_
  refine ev_lconst (v := 0) i123_40 (by decide) ?_
  refine ev_ldc2 i123_41 ci123 ks8_75 ?_
  refine ev_callS (vs := [.long ((nI ((tx p) - 48)).toInt64), .long 0, .long 9]) (rest := []) i123_44 ci123 lk8_62 (Or.inl rfl) np117 (by decide +kernel) (Nat.le_of_ble_eq_true rfl) ⟨rfl, rfl, Nat.le_of_ble_eq_true rfl⟩ rfl (c117) (fun r HH hq => ?_)
  obtain ⟨rfl, rfl⟩ := hq
  rw [inJ_M (x := nI (tx p - 48)) (a := 0) (b := 9) (by decide) (by decide) (by decide) (by decide), inM_n (by omega) (by omega) (by omega)]
  show Ev tb 123 47 [some (.ref 111), some (.int (nI (1023 - us))), some (.int (nI ((tx p) - 48)))] [.int (bI true)] H _
  refine evb_if_eq (t := 58) i123_47 (by decide) (fun z47 => by exfalso; cases z47) (fun z47 => ?_)
  refine ev_iload_n i123_50 rfl ?_
  refine ev_iload_n i123_51 rfl ?_
  refine ev_callS (vs := [.int (nI (1023 - us)), .int (nI ((tx p) - 48))]) (rest := []) i123_52 ci123 lk8_77 (Or.inl rfl) np118 (by decide +kernel) (Nat.le_of_ble_eq_true rfl) ⟨rfl, rfl, Nat.le_of_ble_eq_true rfl⟩ rfl (c118 (by omega) (by omega)) (fun r HH hq => ?_)
  obtain ⟨rfl, rfl⟩ := hq
  rw [msk_bit us hus (tx p - 48) (by omega), hbit]
  show Ev tb 123 55 [some (.ref 111), some (.int (nI (1023 - us))), some (.int (nI ((tx p) - 48)))] [.int (bI true)] H _
  refine evb_if_ne (t := 84) i123_55 (by decide) (fun z55 => ?_) (fun z55 => by exfalso; cases z55)
  refine ev_aload_n i123_84 rfl ?_
  refine ev_dup i123_85 rfl ?_
  refine ev_get i123_86 ci123 fl8_72 (by assumption) rfl ?_
  refine ev_iconst (v := nI 1) i123_89 (by decide) ?_
  refine evn_iadd i123_90 ?_
  refine evs_put (fs' := [.int (nI n), .ref 112, .ref 113, .ref 114, .ref 115, .ref 116, .ref 117, .int rc, .int rv, .int rl, .ref 118, .int (nI ln), .int (nI (p + 1)), .int (-9), .int (f 6), .int (f 7), .ref 119, .ref 120, .int (f 8), .ref 121, .ref 122, .ref 123, .ref 124, .long sed, .ref 125, .ref 126]) i123_91 ci123 fl8_72 (by assumption) ⟨Nat.le_of_ble_eq_true rfl, rfl, Or.inl rfl⟩ rfl (fun H1 hH1 => ?_)
  have c0 : H1[111]? = some (.inr (8, [.int (nI n), .ref 112, .ref 113, .ref 114, .ref 115, .ref 116, .ref 117, .int rc, .int rv, .int rl, .ref 118, .int (nI ln), .int (nI (p + 1)), .int (-9), .int (f 6), .int (f 7), .ref 119, .ref 120, .int (f 8), .ref 121, .ref 122, .ref 123, .ref 124, .long sed, .ref 125, .ref 126])) := by rw [hH1]; exact set_self c0
  have hO : Off (fun j => j = 111) H H1 := by rw [hH1]; exact hO.set (by rfl)
  refine ev_iload_n i123_94 rfl ?_
  refine ev_iret i123_95 (by decide +kernel) ?_
  exact ⟨rfl, c0, hO⟩
theorem c123a {tb : dxT} {H : dxH} {n : Nat} {f : Nat → Int32} {sed : Int64} {ln : Nat} {rc rv rl : Int32} {mt : Nat → Int32} {tx : Nat → Nat} {p : Nat} {us : Nat} (c0 : H[111]? = some (pOb n f sed ln rc rv rl (nI p) (-9))) (t0 : H[118]? = some (.inl (0, 64, .inl mt))) (hmt : ∀ j, j < ln → mt j = nI (tx j)) (hln : ln ≤ 64) (htx : ∀ j, tx j < 256) (hus : us < 1024) (hp : ¬ p < ln) (hp2 : p ≤ ln) : Cl tb 123 [.ref 111, .int (nI (1023 - us))] H (fun r H' => r = some (.int (nI 0)) ∧ H'[111]? = some (pOb n f sed ln rc rv rl (nI p) (nI p)) ∧ Off (fun j => j = 111) H H') := by
  unfold pOb at c0
  have hO : Off (fun j => j = 111) H H := Off.rf
  show Ev tb 123 0 [some (.ref 111), some (.int (nI (1023 - us))), none] [] H _
  refine ev_aload_n i123_0 rfl ?_
  refine ev_get i123_1 ci123 fl8_69 (by assumption) rfl ?_
  refine ev_bipush (v := (-9)) i123_4 (by decide) ?_
  refine ev_icmp_ne (t := 35) i123_6 (by decide) (fun z6 => by exfalso; exact absurd rfl z6) (fun z6 => ?_)
  refine ev_aload_n i123_9 rfl ?_
  refine ev_get i123_10 ci123 fl8_72 (by assumption) rfl ?_
  refine ev_aload_n i123_13 rfl ?_
  refine ev_get i123_14 ci123 fl8_66 (by assumption) rfl ?_
  refine evn_icmp_ge (t := 35) i123_17 (by decide) (by omega) (fun z17 => ?_) (fun z17 => by exfalso; omega)
  refine ev_bipush (v := (-9)) i123_35 (by decide) ?_
  refine ev_istore_n (L' := [some (.ref 111), some (.int (nI (1023 - us))), some (.int (-9))]) i123_37 ⟨Nat.le_of_ble_eq_true rfl, rfl⟩ rfl ?_
  refine ev_iload_n i123_38 rfl ?_
  refine ev_i2l i123_39 ?_
  refine ev_lconst (v := 0) i123_40 (by decide) ?_
  refine ev_ldc2 i123_41 ci123 ks8_75 ?_
  refine ev_callS (vs := [.long (Int32.toInt64 (-9)), .long 0, .long 9]) (rest := []) i123_44 ci123 lk8_62 (Or.inl rfl) np117 (by decide +kernel) (Nat.le_of_ble_eq_true rfl) ⟨rfl, rfl, Nat.le_of_ble_eq_true rfl⟩ rfl (c117) (fun r HH hq => ?_)
  obtain ⟨rfl, rfl⟩ := hq
  rw [inJ_M (x := -9) (a := 0) (b := 9) (by decide) (by decide) (by decide) (by decide), inM_ng (by decide) (by omega)]
  show Ev tb 123 47 [some (.ref 111), some (.int (nI (1023 - us))), some (.int (-9))] [.int (bI false)] H _
  refine evb_if_eq (t := 58) i123_47 (by decide) (fun z47 => ?_) (fun z47 => by exfalso; cases z47)
  refine ev_aload_n i123_58 rfl ?_
  refine ev_aload_n i123_59 rfl ?_
  refine ev_get i123_60 ci123 fl8_69 (by assumption) rfl ?_
  refine ev_bipush (v := (-9)) i123_63 (by decide) ?_
  refine ev_icmp_ne (t := 75) i123_65 (by decide) (fun z65 => by exfalso; exact absurd rfl z65) (fun z65 => ?_)
  refine ev_aload_n i123_68 rfl ?_
  refine ev_get i123_69 ci123 fl8_72 (by assumption) rfl ?_
  refine ev_goto (t := 79) i123_72 (by decide) ?_
  refine evs_put (fs' := [.int (nI n), .ref 112, .ref 113, .ref 114, .ref 115, .ref 116, .ref 117, .int rc, .int rv, .int rl, .ref 118, .int (nI ln), .int (nI p), .int (nI p), .int (f 6), .int (f 7), .ref 119, .ref 120, .int (f 8), .ref 121, .ref 122, .ref 123, .ref 124, .long sed, .ref 125, .ref 126]) i123_79 ci123 fl8_69 (by assumption) ⟨Nat.le_of_ble_eq_true rfl, rfl, Or.inl rfl⟩ rfl (fun H1 hH1 => ?_)
  have c0 : H1[111]? = some (.inr (8, [.int (nI n), .ref 112, .ref 113, .ref 114, .ref 115, .ref 116, .ref 117, .int rc, .int rv, .int rl, .ref 118, .int (nI ln), .int (nI p), .int (nI p), .int (f 6), .int (f 7), .ref 119, .ref 120, .int (f 8), .ref 121, .ref 122, .ref 123, .ref 124, .long sed, .ref 125, .ref 126])) := by rw [hH1]; exact set_self c0
  have hO : Off (fun j => j = 111) H H1 := by rw [hH1]; exact hO.set (by rfl)
  refine ev_iconst (v := nI 0) i123_82 (by decide) ?_
  refine ev_iret i123_83 (by decide +kernel) ?_
  exact ⟨rfl, c0, hO⟩
theorem c123b {tb : dxT} {H : dxH} {n : Nat} {f : Nat → Int32} {sed : Int64} {ln : Nat} {rc rv rl : Int32} {mt : Nat → Int32} {tx : Nat → Nat} {p : Nat} {us : Nat} (c0 : H[111]? = some (pOb n f sed ln rc rv rl (nI p) (-9))) (t0 : H[118]? = some (.inl (0, 64, .inl mt))) (hmt : ∀ j, j < ln → mt j = nI (tx j)) (hln : ln ≤ 64) (htx : ∀ j, tx j < 256) (hus : us < 1024) (hp : p < ln) (h1 : tx p < 48) : Cl tb 123 [.ref 111, .int (nI (1023 - us))] H (fun r H' => r = some (.int (nI 0)) ∧ H'[111]? = some (pOb n f sed ln rc rv rl (nI p) (nI p)) ∧ Off (fun j => j = 111) H H') := by
  unfold pOb at c0
  have hO : Off (fun j => j = 111) H H := Off.rf
  show Ev tb 123 0 [some (.ref 111), some (.int (nI (1023 - us))), none] [] H _
  refine ev_aload_n i123_0 rfl ?_
  refine ev_get i123_1 ci123 fl8_69 (by assumption) rfl ?_
  refine ev_bipush (v := (-9)) i123_4 (by decide) ?_
  refine ev_icmp_ne (t := 35) i123_6 (by decide) (fun z6 => by exfalso; exact absurd rfl z6) (fun z6 => ?_)
  refine ev_aload_n i123_9 rfl ?_
  refine ev_get i123_10 ci123 fl8_72 (by assumption) rfl ?_
  refine ev_aload_n i123_13 rfl ?_
  refine ev_get i123_14 ci123 fl8_66 (by assumption) rfl ?_
  refine evn_icmp_ge (t := 35) i123_17 (by decide) (by omega) (fun z17 => by exfalso; omega) (fun z17 => ?_)
  refine ev_aload_n i123_20 rfl ?_
  refine ev_get i123_21 ci123 fl8_28 (by assumption) rfl ?_
  refine ev_aload_n i123_24 rfl ?_
  refine ev_get i123_25 ci123 fl8_72 (by assumption) rfl ?_
  refine ev_iald_n i123_28 (by assumption) (by omega) ?_
  rw [hmt p (by omega)]
  refine ev_bipush (v := nI 48) i123_29 (by decide) ?_
  refine ev_isub i123_31 ?_
  refine ev_goto (t := 37) i123_32 (by decide) ?_
  refine ev_istore_n (L' := [some (.ref 111), some (.int (nI (1023 - us))), some (.int ((nI (tx p)) - (nI 48)))]) i123_37 ⟨Nat.le_of_ble_eq_true rfl, rfl⟩ rfl ?_
  refine ev_iload_n i123_38 rfl ?_
  refine ev_i2l i123_39 ?_
  refine ev_lconst (v := 0) i123_40 (by decide) ?_
  refine ev_ldc2 i123_41 ci123 ks8_75 ?_
  refine ev_callS (vs := [.long (((nI (tx p)) - (nI 48)).toInt64), .long 0, .long 9]) (rest := []) i123_44 ci123 lk8_62 (Or.inl rfl) np117 (by decide +kernel) (Nat.le_of_ble_eq_true rfl) ⟨rfl, rfl, Nat.le_of_ble_eq_true rfl⟩ rfl (c117) (fun r HH hq => ?_)
  obtain ⟨rfl, rfl⟩ := hq
  rw [inJ_M (x := nI (tx p) - nI 48) (a := 0) (b := 9) (by decide) (by decide) (by decide) (by decide), inM_ng (sub48 (tx p) h1) (by omega)]
  show Ev tb 123 47 [some (.ref 111), some (.int (nI (1023 - us))), some (.int ((nI (tx p)) - (nI 48)))] [.int (bI false)] H _
  refine evb_if_eq (t := 58) i123_47 (by decide) (fun z47 => ?_) (fun z47 => by exfalso; cases z47)
  refine ev_aload_n i123_58 rfl ?_
  refine ev_aload_n i123_59 rfl ?_
  refine ev_get i123_60 ci123 fl8_69 (by assumption) rfl ?_
  refine ev_bipush (v := (-9)) i123_63 (by decide) ?_
  refine ev_icmp_ne (t := 75) i123_65 (by decide) (fun z65 => by exfalso; exact absurd rfl z65) (fun z65 => ?_)
  refine ev_aload_n i123_68 rfl ?_
  refine ev_get i123_69 ci123 fl8_72 (by assumption) rfl ?_
  refine ev_goto (t := 79) i123_72 (by decide) ?_
  refine evs_put (fs' := [.int (nI n), .ref 112, .ref 113, .ref 114, .ref 115, .ref 116, .ref 117, .int rc, .int rv, .int rl, .ref 118, .int (nI ln), .int (nI p), .int (nI p), .int (f 6), .int (f 7), .ref 119, .ref 120, .int (f 8), .ref 121, .ref 122, .ref 123, .ref 124, .long sed, .ref 125, .ref 126]) i123_79 ci123 fl8_69 (by assumption) ⟨Nat.le_of_ble_eq_true rfl, rfl, Or.inl rfl⟩ rfl (fun H1 hH1 => ?_)
  have c0 : H1[111]? = some (.inr (8, [.int (nI n), .ref 112, .ref 113, .ref 114, .ref 115, .ref 116, .ref 117, .int rc, .int rv, .int rl, .ref 118, .int (nI ln), .int (nI p), .int (nI p), .int (f 6), .int (f 7), .ref 119, .ref 120, .int (f 8), .ref 121, .ref 122, .ref 123, .ref 124, .long sed, .ref 125, .ref 126])) := by rw [hH1]; exact set_self c0
  have hO : Off (fun j => j = 111) H H1 := by rw [hH1]; exact hO.set (by rfl)
  refine ev_iconst (v := nI 0) i123_82 (by decide) ?_
  refine ev_iret i123_83 (by decide +kernel) ?_
  exact ⟨rfl, c0, hO⟩
theorem c123c {tb : dxT} {H : dxH} {n : Nat} {f : Nat → Int32} {sed : Int64} {ln : Nat} {rc rv rl : Int32} {mt : Nat → Int32} {tx : Nat → Nat} {p : Nat} {us : Nat} (c0 : H[111]? = some (pOb n f sed ln rc rv rl (nI p) (-9))) (t0 : H[118]? = some (.inl (0, 64, .inl mt))) (hmt : ∀ j, j < ln → mt j = nI (tx j)) (hln : ln ≤ 64) (htx : ∀ j, tx j < 256) (hus : us < 1024) (hp : p < ln) (h1 : 57 < tx p) : Cl tb 123 [.ref 111, .int (nI (1023 - us))] H (fun r H' => r = some (.int (nI 0)) ∧ H'[111]? = some (pOb n f sed ln rc rv rl (nI p) (nI p)) ∧ Off (fun j => j = 111) H H') := by
  unfold pOb at c0
  have hO : Off (fun j => j = 111) H H := Off.rf
  have hx := htx p
  show Ev tb 123 0 [some (.ref 111), some (.int (nI (1023 - us))), none] [] H _
  refine ev_aload_n i123_0 rfl ?_
  refine ev_get i123_1 ci123 fl8_69 (by assumption) rfl ?_
  refine ev_bipush (v := (-9)) i123_4 (by decide) ?_
  refine ev_icmp_ne (t := 35) i123_6 (by decide) (fun z6 => by exfalso; exact absurd rfl z6) (fun z6 => ?_)
  refine ev_aload_n i123_9 rfl ?_
  refine ev_get i123_10 ci123 fl8_72 (by assumption) rfl ?_
  refine ev_aload_n i123_13 rfl ?_
  refine ev_get i123_14 ci123 fl8_66 (by assumption) rfl ?_
  refine evn_icmp_ge (t := 35) i123_17 (by decide) (by omega) (fun z17 => by exfalso; omega) (fun z17 => ?_)
  refine ev_aload_n i123_20 rfl ?_
  refine ev_get i123_21 ci123 fl8_28 (by assumption) rfl ?_
  refine ev_aload_n i123_24 rfl ?_
  refine ev_get i123_25 ci123 fl8_72 (by assumption) rfl ?_
  refine ev_iald_n i123_28 (by assumption) (by omega) ?_
  rw [hmt p (by omega)]
  refine ev_bipush (v := nI 48) i123_29 (by decide) ?_
  refine evn_isub i123_31 (by omega) ?_
  refine ev_goto (t := 37) i123_32 (by decide) ?_
  refine ev_istore_n (L' := [some (.ref 111), some (.int (nI (1023 - us))), some (.int (nI ((tx p) - 48)))]) i123_37 ⟨Nat.le_of_ble_eq_true rfl, rfl⟩ rfl ?_
  refine ev_iload_n i123_38 rfl ?_
  refine ev_i2l i123_39 ?_
  refine ev_lconst (v := 0) i123_40 (by decide) ?_
  refine ev_ldc2 i123_41 ci123 ks8_75 ?_
  refine ev_callS (vs := [.long ((nI ((tx p) - 48)).toInt64), .long 0, .long 9]) (rest := []) i123_44 ci123 lk8_62 (Or.inl rfl) np117 (by decide +kernel) (Nat.le_of_ble_eq_true rfl) ⟨rfl, rfl, Nat.le_of_ble_eq_true rfl⟩ rfl (c117) (fun r HH hq => ?_)
  obtain ⟨rfl, rfl⟩ := hq
  rw [inJ_M (x := nI (tx p - 48)) (a := 0) (b := 9) (by decide) (by decide) (by decide) (by decide), inM_nf (by omega) (by omega) (by omega) (by omega)]
  show Ev tb 123 47 [some (.ref 111), some (.int (nI (1023 - us))), some (.int (nI ((tx p) - 48)))] [.int (bI false)] H _
  refine evb_if_eq (t := 58) i123_47 (by decide) (fun z47 => ?_) (fun z47 => by exfalso; cases z47)
  refine ev_aload_n i123_58 rfl ?_
  refine ev_aload_n i123_59 rfl ?_
  refine ev_get i123_60 ci123 fl8_69 (by assumption) rfl ?_
  refine ev_bipush (v := (-9)) i123_63 (by decide) ?_
  refine ev_icmp_ne (t := 75) i123_65 (by decide) (fun z65 => by exfalso; exact absurd rfl z65) (fun z65 => ?_)
  refine ev_aload_n i123_68 rfl ?_
  refine ev_get i123_69 ci123 fl8_72 (by assumption) rfl ?_
  refine ev_goto (t := 79) i123_72 (by decide) ?_
  refine evs_put (fs' := [.int (nI n), .ref 112, .ref 113, .ref 114, .ref 115, .ref 116, .ref 117, .int rc, .int rv, .int rl, .ref 118, .int (nI ln), .int (nI p), .int (nI p), .int (f 6), .int (f 7), .ref 119, .ref 120, .int (f 8), .ref 121, .ref 122, .ref 123, .ref 124, .long sed, .ref 125, .ref 126]) i123_79 ci123 fl8_69 (by assumption) ⟨Nat.le_of_ble_eq_true rfl, rfl, Or.inl rfl⟩ rfl (fun H1 hH1 => ?_)
  have c0 : H1[111]? = some (.inr (8, [.int (nI n), .ref 112, .ref 113, .ref 114, .ref 115, .ref 116, .ref 117, .int rc, .int rv, .int rl, .ref 118, .int (nI ln), .int (nI p), .int (nI p), .int (f 6), .int (f 7), .ref 119, .ref 120, .int (f 8), .ref 121, .ref 122, .ref 123, .ref 124, .long sed, .ref 125, .ref 126])) := by rw [hH1]; exact set_self c0
  have hO : Off (fun j => j = 111) H H1 := by rw [hH1]; exact hO.set (by rfl)
  refine ev_iconst (v := nI 0) i123_82 (by decide) ?_
  refine ev_iret i123_83 (by decide +kernel) ?_
  exact ⟨rfl, c0, hO⟩
theorem c123d {tb : dxT} {H : dxH} {n : Nat} {f : Nat → Int32} {sed : Int64} {ln : Nat} {rc rv rl : Int32} {mt : Nat → Int32} {tx : Nat → Nat} {p : Nat} {us : Nat} (c0 : H[111]? = some (pOb n f sed ln rc rv rl (nI p) (-9))) (t0 : H[118]? = some (.inl (0, 64, .inl mt))) (hmt : ∀ j, j < ln → mt j = nI (tx j)) (hln : ln ≤ 64) (htx : ∀ j, tx j < 256) (hus : us < 1024) (hp : p < ln) (h1 : 48 ≤ tx p) (h2 : tx p ≤ 57) (hbit0 : us.testBit (tx p - 48) = true) : Cl tb 123 [.ref 111, .int (nI (1023 - us))] H (fun r H' => r = some (.int (nI 0)) ∧ H'[111]? = some (pOb n f sed ln rc rv rl (nI p) (nI p)) ∧ Off (fun j => j = 111) H H') := by
  unfold pOb at c0
  have hO : Off (fun j => j = 111) H H := Off.rf
  have hbit2 : (!us.testBit (tx p - 48)) = false := by rw [hbit0]; rfl
  show Ev tb 123 0 [some (.ref 111), some (.int (nI (1023 - us))), none] [] H _
  refine ev_aload_n i123_0 rfl ?_
  refine ev_get i123_1 ci123 fl8_69 (by assumption) rfl ?_
  refine ev_bipush (v := (-9)) i123_4 (by decide) ?_
  refine ev_icmp_ne (t := 35) i123_6 (by decide) (fun z6 => by exfalso; exact absurd rfl z6) (fun z6 => ?_)
  refine ev_aload_n i123_9 rfl ?_
  refine ev_get i123_10 ci123 fl8_72 (by assumption) rfl ?_
  refine ev_aload_n i123_13 rfl ?_
  refine ev_get i123_14 ci123 fl8_66 (by assumption) rfl ?_
  refine evn_icmp_ge (t := 35) i123_17 (by decide) (by omega) (fun z17 => by exfalso; omega) (fun z17 => ?_)
  refine ev_aload_n i123_20 rfl ?_
  refine ev_get i123_21 ci123 fl8_28 (by assumption) rfl ?_
  refine ev_aload_n i123_24 rfl ?_
  refine ev_get i123_25 ci123 fl8_72 (by assumption) rfl ?_
  refine ev_iald_n i123_28 (by assumption) (by omega) ?_
  rw [hmt p (by omega)]
  refine ev_bipush (v := nI 48) i123_29 (by decide) ?_
  refine evn_isub i123_31 (by omega) ?_
  refine ev_goto (t := 37) i123_32 (by decide) ?_
  refine ev_istore_n (L' := [some (.ref 111), some (.int (nI (1023 - us))), some (.int (nI ((tx p) - 48)))]) i123_37 ⟨Nat.le_of_ble_eq_true rfl, rfl⟩ rfl ?_
  refine ev_iload_n i123_38 rfl ?_
  refine ev_i2l i123_39 ?_
  refine ev_lconst (v := 0) i123_40 (by decide) ?_
  refine ev_ldc2 i123_41 ci123 ks8_75 ?_
  refine ev_callS (vs := [.long ((nI ((tx p) - 48)).toInt64), .long 0, .long 9]) (rest := []) i123_44 ci123 lk8_62 (Or.inl rfl) np117 (by decide +kernel) (Nat.le_of_ble_eq_true rfl) ⟨rfl, rfl, Nat.le_of_ble_eq_true rfl⟩ rfl (c117) (fun r HH hq => ?_)
  obtain ⟨rfl, rfl⟩ := hq
  rw [inJ_M (x := nI (tx p - 48)) (a := 0) (b := 9) (by decide) (by decide) (by decide) (by decide), inM_n (by omega) (by omega) (by omega)]
  show Ev tb 123 47 [some (.ref 111), some (.int (nI (1023 - us))), some (.int (nI ((tx p) - 48)))] [.int (bI true)] H _
  refine evb_if_eq (t := 58) i123_47 (by decide) (fun z47 => by exfalso; cases z47) (fun z47 => ?_)
  refine ev_iload_n i123_50 rfl ?_
  refine ev_iload_n i123_51 rfl ?_
  refine ev_callS (vs := [.int (nI (1023 - us)), .int (nI ((tx p) - 48))]) (rest := []) i123_52 ci123 lk8_77 (Or.inl rfl) np118 (by decide +kernel) (Nat.le_of_ble_eq_true rfl) ⟨rfl, rfl, Nat.le_of_ble_eq_true rfl⟩ rfl (c118 (by omega) (by omega)) (fun r HH hq => ?_)
  obtain ⟨rfl, rfl⟩ := hq
  rw [msk_bit us hus (tx p - 48) (by omega), hbit2]
  show Ev tb 123 55 [some (.ref 111), some (.int (nI (1023 - us))), some (.int (nI ((tx p) - 48)))] [.int (bI false)] H _
  refine evb_if_ne (t := 84) i123_55 (by decide) (fun z55 => by exfalso; cases z55) (fun z55 => ?_)
  refine ev_aload_n i123_58 rfl ?_
  refine ev_aload_n i123_59 rfl ?_
  refine ev_get i123_60 ci123 fl8_69 (by assumption) rfl ?_
  refine ev_bipush (v := (-9)) i123_63 (by decide) ?_
  refine ev_icmp_ne (t := 75) i123_65 (by decide) (fun z65 => by exfalso; exact absurd rfl z65) (fun z65 => ?_)
  refine ev_aload_n i123_68 rfl ?_
  refine ev_get i123_69 ci123 fl8_72 (by assumption) rfl ?_
  refine ev_goto (t := 79) i123_72 (by decide) ?_
  refine evs_put (fs' := [.int (nI n), .ref 112, .ref 113, .ref 114, .ref 115, .ref 116, .ref 117, .int rc, .int rv, .int rl, .ref 118, .int (nI ln), .int (nI p), .int (nI p), .int (f 6), .int (f 7), .ref 119, .ref 120, .int (f 8), .ref 121, .ref 122, .ref 123, .ref 124, .long sed, .ref 125, .ref 126]) i123_79 ci123 fl8_69 (by assumption) ⟨Nat.le_of_ble_eq_true rfl, rfl, Or.inl rfl⟩ rfl (fun H1 hH1 => ?_)
  have c0 : H1[111]? = some (.inr (8, [.int (nI n), .ref 112, .ref 113, .ref 114, .ref 115, .ref 116, .ref 117, .int rc, .int rv, .int rl, .ref 118, .int (nI ln), .int (nI p), .int (nI p), .int (f 6), .int (f 7), .ref 119, .ref 120, .int (f 8), .ref 121, .ref 122, .ref 123, .ref 124, .long sed, .ref 125, .ref 126])) := by rw [hH1]; exact set_self c0
  have hO : Off (fun j => j = 111) H H1 := by rw [hH1]; exact hO.set (by rfl)
  refine ev_iconst (v := nI 0) i123_82 (by decide) ?_
  refine ev_iret i123_83 (by decide +kernel) ?_
  exact ⟨rfl, c0, hO⟩
theorem c123bad {tb : dxT} {H : dxH} {n : Nat} {f : Nat → Int32} {sed : Int64} {ln : Nat} {rc rv rl : Int32} {mt : Nat → Int32} {tx : Nat → Nat} {p us : Nat} (c0 : H[111]? = some (pOb n f sed ln rc rv rl (nI p) (-9))) (t0 : H[118]? = some (.inl (0, 64, .inl mt))) (hmt : ∀ j, j < ln → mt j = nI (tx j)) (hln : ln ≤ 64) (htx : ∀ j, tx j < 256) (hus : us < 1024) (hp2 : p ≤ ln) (h : ¬ (p < ln ∧ (48 ≤ tx p ∧ tx p ≤ 57) ∧ us.testBit (tx p - 48) = false)) : Cl tb 123 [.ref 111, .int (nI (1023 - us))] H (fun r H' => r = some (.int (nI 0)) ∧ H'[111]? = some (pOb n f sed ln rc rv rl (nI p) (nI p)) ∧ Off (fun j => j = 111) H H') := by
  by_cases hp : p < ln
  · by_cases h1 : tx p < 48
    · exact c123b c0 t0 hmt hln htx hus hp h1
    · by_cases h2 : 57 < tx p
      · exact c123c c0 t0 hmt hln htx hus hp h2
      · refine c123d c0 t0 hmt hln htx hus hp (by omega) (by omega) ?_
        rcases Bool.eq_false_or_eq_true (us.testBit (tx p - 48)) with q | q
        · exact q
        · exact absurd ⟨hp, ⟨by omega, by omega⟩, q⟩ h
  · exact c123a c0 t0 hmt hln htx hus hp hp2
theorem fop_step {tx : Nat → Nat} {ln : Nat} {g : Bool} {us p d i : Nat} (h1 : p + 1 + i < ln) (h : okP tx g us p i = true) : fopL tx ln g us p (d + 1) i = fopL tx ln g us p d (i + 1) := by
  conv => lhs; unfold fopL
  rw [if_neg (by omega), if_pos h]
theorem fop_bad {tx : Nat → Nat} {ln : Nat} {g : Bool} {us p d i : Nat} (h1 : p + 1 + i ≤ ln) (h : ¬ (p + 1 + i < ln ∧ okP tx g us p i = true)) : fopL tx ln g us p (d + 1) i = nI (p + 1 + i) := by
  unfold fopL
  by_cases q : ln ≤ p + 1 + i
  · rw [if_pos q, show ln = p + 1 + i by omega]
  · rw [if_neg q, if_neg (fun u => h ⟨by omega, u⟩)]
theorem okP_0 {tx : Nat → Nat} {g : Bool} {us p : Nat} : okP tx g us p 0 = true ↔ (48 ≤ tx (p + 1) ∧ tx (p + 1) ≤ 57) ∧ us.testBit (tx (p + 1) - 48) = false := by
  constructor
  · intro h
    exact ⟨okP_dg h, okP_us h⟩
  · intro h
    unfold okP
    rw [Bool.and_eq_true]
    refine ⟨decide_eq_true ?_, ?_⟩
    · show 48 + plo g 0 ≤ tx (p + 1) ∧ tx (p + 1) ≤ 48 + phi g 0
      rw [show plo g 0 = 0 by cases g <;> decide, show phi g 0 = 9 by cases g <;> decide]
      omega
    · show (!(decide (0 = 0) && us.testBit (tx (p + 1) - 48))) = true
      rw [h.2]
      rfl
theorem okP_s {tx : Nat → Nat} {g : Bool} {us p i : Nat} : okP tx g us p (i + 1) = true ↔ (48 + plo g (i + 1) ≤ tx (p + 1 + (i + 1)) ∧ tx (p + 1 + (i + 1)) ≤ 48 + phi g (i + 1)) := by
  unfold okP
  rw [Bool.and_eq_true]
  constructor
  · intro h
    exact of_decide_eq_true h.1
  · intro h
    exact ⟨decide_eq_true h, by simp⟩
