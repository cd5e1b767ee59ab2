/-! choices; herds and meadows made anew -/
def addC (l : List Nat) (c : Nat) : List Nat := if l.length < 26 then l ++ [c] else l
def ChAt (H : dxH) (p : Nat) (l : List Nat) : Prop := l.length ≤ 26 ∧ H[p]? = some (.inr (1, [.ref (p + 1), .int (nI l.length)])) ∧ ∃ rw : Nat → Nat, H[p + 1]? = some (IA 26 rw) ∧ ∀ i, i < l.length → rw i = l.getD i 0
def chC (p : Nat) : Nat → Prop := fun j => j = p ∨ j = p + 1
theorem ChAt.off {H H' : dxH} {p : Nat} {l : List Nat} {A : Nat → Prop} (h : ChAt H p l) (hO : Off A H H') (h1 : ¬ A p) (h2 : ¬ A (p + 1)) : ChAt H' p l := by
  obtain ⟨a0, a1, rw, a2, a3⟩ := h
  exact ⟨a0, hO.at a1 h1, rw, hO.at a2 h2, a3⟩
theorem c9 {tb : dxT} {H : dxH} {p : Nat} {l : List Nat} (hY : ChAt H p l) : Cl tb 9 [.ref p] H (Rt (.int (nI l.length)) H) := by
  obtain ⟨y, y0, rw, y1, y2⟩ := id hY
  show Ev tb 9 0 [some (.ref p)] [] H _
  refine ev_aload_n i9_0 rfl ?_
  refine ev_get i9_1 ci9 fl1_15 (by assumption) rfl ?_
  refine ev_iret i9_4 (by decide +kernel) ?_
  exact ⟨rfl, rfl⟩
theorem c10 {tb : dxT} {H : dxH} {p i : Nat} {l : List Nat} (hY : ChAt H p l) (hi : i < l.length) : Cl tb 10 [.ref p, .int (nI i)] H (Rt (.int (nI (l.getD i 0))) H) := by
  obtain ⟨y, y0, rw, y1, y2⟩ := id hY
  show Ev tb 10 0 [some (.ref p), some (.int (nI i))] [] H _
  refine ev_iload_n i10_0 rfl ?_
  refine evn_if_lt (t := 27) i10_1 (by decide) (by omega) ?_
  refine ev_iload_n i10_4 rfl ?_
  refine ev_aload_n i10_5 rfl ?_
  refine ev_get i10_6 ci10 fl1_15 (by assumption) rfl ?_
  refine evn_icmp_ge (t := 27) i10_9 (by decide) (by omega) (fun z9 => by exfalso; omega) (fun z9 => ?_)
  refine ev_iload_n i10_12 rfl ?_
  refine ev_bipush (v := nI 26) i10_13 (by decide) ?_
  refine evn_icmp_ge (t := 27) i10_15 (by decide) (by omega) (fun z15 => by exfalso; omega) (fun z15 => ?_)
  refine ev_aload_n i10_18 rfl ?_
  refine ev_get i10_19 ci10 fl1_9 (by assumption) rfl ?_
  refine ev_iload_n i10_22 rfl ?_
  refine ev_iald_n i10_23 (by assumption) (by omega) ?_
  refine ev_goto (t := 28) i10_24 (by decide) ?_
  refine ev_iret i10_28 (by decide +kernel) ?_
  rw [y2 i hi]
  exact ⟨rfl, rfl⟩
theorem c8 {tb : dxT} {H : dxH} {p c : Nat} {l : List Nat} (hY : ChAt H p l) : Cl tb 8 [.ref p, .int (nI c)] H (fun r H' => r = none ∧ ChAt H' p (addC l c) ∧ Off (chC p) H H') := by
  obtain ⟨y, y0, rw, y1, y2⟩ := id hY
  have hO : Off (chC p) H H := Off.rf
  show Ev tb 8 0 [some (.ref p), some (.int (nI c))] [] H _
  refine ev_aload_n i8_0 rfl ?_
  refine ev_get i8_1 ci8 fl1_15 (by assumption) rfl ?_
  refine ev_bipush (v := nI 26) i8_4 (by decide) ?_
  refine evn_icmp_ge (t := 29) i8_6 (by decide) (by omega) (fun z6 => ?_) (fun z6 => ?_)
  · refine ev_vret i8_29 (by decide +kernel) ?_
    unfold addC
    rw [if_neg (by omega)]
    exact ⟨rfl, hY, hO⟩
  · refine ev_aload_n i8_9 rfl ?_
    refine ev_get i8_10 ci8 fl1_9 (by assumption) rfl ?_
    refine ev_aload_n i8_13 rfl ?_
    refine ev_get i8_14 ci8 fl1_15 (by assumption) rfl ?_
    refine ev_iload_n i8_17 rfl ?_
    refine evs_iastn i8_18 (by assumption) (by omega) (fun H1 hH1 => ?_)
    have y0 : H1[p]? = some (.inr (1, [.ref (p + 1), .int (nI l.length)])) := by rw [hH1]; exact set_ne y0 (by omega)
    have y1 : H1[p + 1]? = some (IA 26 (updN rw l.length c)) := by rw [hH1]; exact set_self y1
    have hO : Off (chC p) H H1 := by rw [hH1]; exact hO.set (by first | exact Or.inl rfl | exact Or.inr rfl)
    refine ev_aload_n i8_19 rfl ?_
    refine ev_dup i8_20 rfl ?_
    refine ev_get i8_21 ci8 fl1_15 (by assumption) rfl ?_
    refine ev_iconst (v := nI 1) i8_24 (by decide) ?_
    refine evn_iadd i8_25 ?_
    refine evs_put (fs' := [.ref (p + 1), .int (nI (l.length + 1))]) i8_26 ci8 fl1_15 (by assumption) ⟨Nat.le_of_ble_eq_true rfl, rfl, Or.inl rfl⟩ rfl (fun H2 hH2 => ?_)
    have y0 : H2[p]? = some (.inr (1, [.ref (p + 1), .int (nI (l.length + 1))])) := by rw [hH2]; exact set_self y0
    have y1 : H2[p + 1]? = some (IA 26 (updN rw l.length c)) := by rw [hH2]; exact set_ne y1 (by omega)
    have hO : Off (chC p) H H2 := by rw [hH2]; exact hO.set (by first | exact Or.inl rfl | exact Or.inr rfl)
    refine ev_vret i8_29 (by decide +kernel) ?_
    unfold addC
    rw [if_pos (by omega)]
    refine ⟨rfl, ⟨by rw [List.length_append]; show l.length + 1 ≤ 26; omega, by rw [List.length_append]; exact y0, _, y1, fun i hi => ?_⟩, hO⟩
    rw [List.length_append] at hi
    replace hi : i < l.length + 1 := hi
    unfold updN
    by_cases hil : i = l.length
    · rw [if_pos hil, hil]
      simp [List.getD]
    · rw [if_neg hil, y2 i (by omega)]
      simp only [List.getD]
      rw [List.getElem?_append_left (by omega)]
/-- a cow's moves, a side's choices -/
def grzB (he : Nat) (ce : Nat → Nat) (c : Nat) : Bool := anyB (fun i => he.testBit i && decide (ce i = c)) 6 0
def mvF (he : Nat) (ce : Nat → Nat) (k : Nat) (c : Nat) (l : List Nat) : List Nat := if grzB he ce c = true then l else addC l (10 * k + c + 1)
def chF (he : Nat) (sd ce : Nat → Nat) (s : Nat) (k : Nat) (l : List Nat) : List Nat := if (he.testBit k && decide (sd k = s)) = true then upto (mvF he ce k) 10 0 l else l
theorem lq7 {tb : dxT} {a p : Nat} {cl ce fu : Nat → Nat} {pa : Nat → Int32} {he : Nat} {sn : Bool} {ho wa : Int32} {k : Nat} (hb : he < 64) (ha : 6 ≤ a) (hce : ∀ j, ce j < 10) (hap : a + 4 < p) (hk : k < 6) : ∀ (d c : Nat) (H : dxH) (l : List Nat), c + d = 10 → MdwAt H a cl ce fu pa he sn ho wa → ChAt H p l → Ev tb 7 2 [some (.ref p), some (.int (nI k)), some (.ref a), some (.int (nI c))] [] H (fun r H' => r = none ∧ ChAt H' p (upto (mvF he ce k) d c l) ∧ Off (chC p) H H')
  | 0, c, H, l, hc, hM, hY => by
    obtain rfl : c = 10 := by omega
    refine ev_iload_n i7_2 rfl ?_
    refine ev_bipush (v := nI 10) i7_3 (by decide) ?_
    refine evn_icmp_ge (t := 34) i7_5 (by decide) (by omega) (fun z5 => ?_) (fun z5 => by exfalso; omega)
    refine ev_vret i7_34 (by decide +kernel) ?_
    exact ⟨rfl, hY, Off.rf⟩
  | d + 1, c, H, l, hc, hM, hY => by
    obtain ⟨m0, _⟩ := id hM
    obtain ⟨_, y0, _⟩ := id hY
    refine ev_iload_n i7_2 rfl ?_
    refine ev_bipush (v := nI 10) i7_3 (by decide) ?_
    refine evn_icmp_ge (t := 34) i7_5 (by decide) (by omega) (fun z5 => by exfalso; omega) (fun z5 => ?_)
    refine ev_aload_n i7_8 rfl ?_
    refine ev_iload_n i7_9 rfl ?_
    refine ev_callV (vs := [.int (nI c)]) (rest := []) i7_10 ci7 lk1_33 (congrArg (fun q => q + 1) np30) ci30 (by decide) (by decide +kernel) (Nat.le_of_ble_eq_true rfl) ⟨rfl, rfl, Nat.le_of_ble_eq_true rfl⟩ rfl (by assumption) (c30 (by assumption) hb ha hce (by omega)) (fun r HH hq => ?_)
    obtain ⟨rfl, rfl⟩ := hq
    show Ev tb 7 13 [some (.ref p), some (.int (nI k)), some (.ref a), some (.int (nI c))] [.int (bI (anyB (fun i => he.testBit i && decide (ce i = c)) 6 0))] H _
    refine evb_if_ne (t := 28) i7_13 (by decide) (fun z13 => ?_) (fun z13 => ?_)
    · refine evn_iinc (d := 1) (L' := [some (.ref p), some (.int (nI k)), some (.ref a), some (.int (nI (c + 1)))]) i7_28 rfl rfl (by decide) rfl ?_
      refine ev_goto (t := 2) i7_31 (by decide) ?_
      refine (lq7 hb ha hce hap hk d (c + 1) H l (by omega) hM hY).post (fun r H' hq => ?_)
      obtain ⟨h1, h2, h3⟩ := hq
      have e1 : mvF he ce k c l = l := by
        unfold mvF grzB
        exact if_pos z13
      refine ⟨h1, ?_, h3⟩
      show ChAt H' p (upto (mvF he ce k) d (c + 1) (mvF he ce k c l))
      rw [e1]
      exact h2
    · refine ev_aload_n i7_16 rfl ?_
      refine ev_bipush (v := nI 10) i7_17 (by decide) ?_
      refine ev_iload_n i7_19 rfl ?_
      refine evn_imul i7_20 ?_
      refine ev_iload_n i7_21 rfl ?_
      refine evn_iadd i7_22 ?_
      refine ev_iconst (v := nI 1) i7_23 (by decide) ?_
      refine evn_iadd i7_24 ?_
      refine ev_callV (vs := [.int (nI (((10 * k) + c) + 1))]) (rest := []) i7_25 ci7 lk1_19 (congrArg (fun q => q + 1) np8) ci8 (by decide) (by decide +kernel) (Nat.le_of_ble_eq_true rfl) ⟨rfl, rfl, Nat.le_of_ble_eq_true rfl⟩ rfl (by assumption) (c8 hY) (fun r H1 hq => ?_)
      obtain ⟨rfl, hY1, hO1⟩ := hq
      show Ev tb 7 28 [some (.ref p), some (.int (nI k)), some (.ref a), some (.int (nI c))] [] H1 _
      refine evn_iinc (d := 1) (L' := [some (.ref p), some (.int (nI k)), some (.ref a), some (.int (nI (c + 1)))]) i7_28 rfl rfl (by decide) rfl ?_
      refine ev_goto (t := 2) i7_31 (by decide) ?_
      refine (lq7 hb ha hce hap hk d (c + 1) H1 (addC l (10 * k + c + 1)) (by omega) (hM.off hO1 (fun j h1 h2 q => by unfold chC at q; omega)) hY1).post (fun r H' hq => ?_)
      obtain ⟨h1, h2, h3⟩ := hq
      have e1 : mvF he ce k c l = addC l (10 * k + c + 1) := by
        unfold mvF grzB
        exact if_neg (by simp [z13])
      refine ⟨h1, ?_, hO1.trans h3 (fun _ h => h) (fun _ h => h)⟩
      show ChAt H' p (upto (mvF he ce k) d (c + 1) (mvF he ce k c l))
      rw [e1]
      exact h2
theorem c7 {tb : dxT} {a p : Nat} {cl ce fu : Nat → Nat} {pa : Nat → Int32} {he : Nat} {sn : Bool} {ho wa : Int32} {k : Nat} {H : dxH} {l : List Nat} (hb : he < 64) (ha : 6 ≤ a) (hce : ∀ j, ce j < 10) (hap : a + 4 < p) (hk : k < 6) (hM : MdwAt H a cl ce fu pa he sn ho wa) (hY : ChAt H p l) : Cl tb 7 [.ref p, .int (nI k), .ref a] H (fun r H' => r = none ∧ ChAt H' p (upto (mvF he ce k) 10 0 l) ∧ Off (chC p) H H') := by
  show Ev tb 7 0 [some (.ref p), some (.int (nI k)), some (.ref a), none] [] H _
  refine ev_iconst (v := nI 0) i7_0 (by decide) ?_
  refine ev_istore_n (L' := [some (.ref p), some (.int (nI k)), some (.ref a), some (.int (nI 0))]) i7_1 ⟨Nat.le_of_ble_eq_true rfl, rfl⟩ rfl ?_
  exact lq7 hb ha hce hap hk 10 0 H l rfl hM hY
theorem lq6 {tb : dxT} {a p n : Nat} {sd kd cl ce fu : Nat → Nat} {pa : Nat → Int32} {he : Nat} {sn : Bool} {ho wa : Int32} {s : Nat} (hb : he < 64) (ha : 6 ≤ a) (hce : ∀ j, ce j < 10) (hsd : ∀ j, sd j < 2) (hs : s < 2) (hap : a + 4 < p) : ∀ (d k : Nat) (H : dxH) (l : List Nat), k + d = 6 → MdwAt H a cl ce fu pa he sn ho wa → HrdAt H n sd kd → ChAt H p l → Ev tb 6 12 [some (.ref p), some (.ref a), some (.int (nI s)), some (.int (nI k))] [] H (fun r H' => r = none ∧ ChAt H' p (upto (chF he sd ce s) d k l) ∧ Off (chC p) H H')
  | 0, k, H, l, hk, hM, hH, hY => by
    obtain rfl : k = 6 := by omega
    refine ev_iload_n i6_12 rfl ?_
    refine ev_bipush (v := nI 6) i6_13 (by decide) ?_
    refine evn_icmp_ge (t := 39) i6_15 (by decide) (by omega) (fun z15 => ?_) (fun z15 => by exfalso; omega)
    refine ev_vret i6_39 (by decide +kernel) ?_
    exact ⟨rfl, hY, Off.rf⟩
  | d + 1, k, H, l, hk, hM, hH, hY => by
    obtain ⟨m0, _⟩ := id hM
    obtain ⟨_, y0, _⟩ := id hY
    refine ev_iload_n i6_12 rfl ?_
    refine ev_bipush (v := nI 6) i6_13 (by decide) ?_
    refine evn_icmp_ge (t := 39) i6_15 (by decide) (by omega) (fun z15 => by exfalso; omega) (fun z15 => ?_)
    refine ev_aload_n i6_18 rfl ?_
    refine ev_iload_n i6_19 rfl ?_
    refine ev_iload_n i6_20 rfl ?_
    refine ev_callV (vs := [.int (nI k), .int (nI s)]) (rest := []) i6_21 ci6 lk1_23 (congrArg (fun q => q + 1) np24) ci24 (by decide) (by decide +kernel) (Nat.le_of_ble_eq_true rfl) ⟨rfl, rfl, Nat.le_of_ble_eq_true rfl⟩ rfl (by assumption) (c24 (by assumption) (by assumption) hb ha hsd (by omega) (by omega)) (fun r HH hq => ?_)
    obtain ⟨rfl, rfl⟩ := hq
    show Ev tb 6 24 [some (.ref p), some (.ref a), some (.int (nI s)), some (.int (nI k))] [.int (bI (he.testBit k && decide (sd k = s)))] H _
    refine evb_if_eq (t := 33) i6_24 (by decide) (fun z24 => ?_) (fun z24 => ?_)
    · refine evn_iinc (d := 1) (L' := [some (.ref p), some (.ref a), some (.int (nI s)), some (.int (nI (k + 1)))]) i6_33 rfl rfl (by decide) rfl ?_
      refine ev_goto (t := 12) i6_36 (by decide) ?_
      refine (lq6 hb ha hce hsd hs hap d (k + 1) H l (by omega) hM hH hY).post (fun r H' hq => ?_)
      obtain ⟨h1, h2, h3⟩ := hq
      have e1 : chF he sd ce s k l = l := by
        unfold chF
        exact if_neg (by simp [z24])
      refine ⟨h1, ?_, h3⟩
      show ChAt H' p (upto (chF he sd ce s) d (k + 1) (chF he sd ce s k l))
      rw [e1]
      exact h2
    · refine ev_aload_n i6_27 rfl ?_
      refine ev_iload_n i6_28 rfl ?_
      refine ev_aload_n i6_29 rfl ?_
      refine ev_callV (vs := [.int (nI k), .ref a]) (rest := []) i6_30 ci6 lk1_29 (congrArg (fun q => q + 1) np7) ci7 (by decide) (by decide +kernel) (Nat.le_of_ble_eq_true rfl) ⟨rfl, rfl, Nat.le_of_ble_eq_true rfl⟩ rfl (by assumption) (c7 hb ha hce hap (by omega) hM hY) (fun r H1 hq => ?_)
      obtain ⟨rfl, hY1, hO1⟩ := hq
      show Ev tb 6 33 [some (.ref p), some (.ref a), some (.int (nI s)), some (.int (nI k))] [] H1 _
      refine evn_iinc (d := 1) (L' := [some (.ref p), some (.ref a), some (.int (nI s)), some (.int (nI (k + 1)))]) i6_33 rfl rfl (by decide) rfl ?_
      refine ev_goto (t := 12) i6_36 (by decide) ?_
      refine (lq6 hb ha hce hsd hs hap d (k + 1) H1 (upto (mvF he ce k) 10 0 l) (by omega) (hM.off hO1 (fun j h1 h2 q => by unfold chC at q; omega)) (hH.off hO1 (by unfold chC; omega) (by unfold chC; omega) (by unfold chC; omega)) hY1).post (fun r H' hq => ?_)
      obtain ⟨h1, h2, h3⟩ := hq
      have e1 : chF he sd ce s k l = upto (mvF he ce k) 10 0 l := by
        unfold chF
        exact if_pos z24
      refine ⟨h1, ?_, hO1.trans h3 (fun _ h => h) (fun _ h => h)⟩
      show ChAt H' p (upto (chF he sd ce s) d (k + 1) (chF he sd ce s k l))
      rw [e1]
      exact h2
theorem c6 {tb : dxT} {a p n : Nat} {sd kd cl ce fu : Nat → Nat} {pa : Nat → Int32} {he : Nat} {sn : Bool} {ho wa : Int32} {s : Nat} {H : dxH} {l : List Nat} (hb : he < 64) (ha : 6 ≤ a) (hce : ∀ j, ce j < 10) (hsd : ∀ j, sd j < 2) (hs : s < 2) (hap : a + 4 < p) (hM : MdwAt H a cl ce fu pa he sn ho wa) (hH : HrdAt H n sd kd) (hY : ChAt H p l) : Cl tb 6 [.ref p, .ref a, .int (nI s)] H (fun r H' => r = none ∧ ChAt H' p (upto (chF he sd ce s) 6 0 [0]) ∧ Off (chC p) H H') := by
  obtain ⟨y, y0, rw, y1, y2⟩ := id hY
  obtain ⟨m0, _⟩ := id hM
  have hO : Off (chC p) H H := Off.rf
  show Ev tb 6 0 [some (.ref p), some (.ref a), some (.int (nI s)), none] [] H _
  refine ev_aload_n i6_0 rfl ?_
  refine ev_iconst (v := nI 0) i6_1 (by decide) ?_
  refine evs_put (fs' := [.ref (p + 1), .int (nI 0)]) i6_2 ci6 fl1_15 (by assumption) ⟨Nat.le_of_ble_eq_true rfl, rfl, Or.inl rfl⟩ rfl (fun H1 hH1 => ?_)
  have y0 : H1[p]? = some (.inr (1, [.ref (p + 1), .int (nI 0)])) := by rw [hH1]; exact set_self y0
  have y1 : H1[p + 1]? = some (IA 26 rw) := by rw [hH1]; exact set_ne y1 (by omega)
  have hO : Off (chC p) H H1 := by rw [hH1]; exact hO.set (by first | exact Or.inl rfl | exact Or.inr rfl)
  have hY0 : ChAt H1 p [] := ⟨by decide, y0, rw, y1, fun i hi => absurd hi (by simp)⟩
  refine ev_aload_n i6_5 rfl ?_
  refine ev_iconst (v := nI 0) i6_6 (by decide) ?_
  refine ev_callV (vs := [.int (nI 0)]) (rest := []) i6_7 ci6 lk1_19 (congrArg (fun q => q + 1) np8) ci8 (by decide) (by decide +kernel) (Nat.le_of_ble_eq_true rfl) ⟨rfl, rfl, Nat.le_of_ble_eq_true rfl⟩ rfl (by assumption) (c8 hY0) (fun r H2 hq => ?_)
  obtain ⟨rfl, hY1, hO2⟩ := hq
  show Ev tb 6 10 [some (.ref p), some (.ref a), some (.int (nI s)), none] [] H2 _
  refine ev_iconst (v := nI 0) i6_10 (by decide) ?_
  refine ev_istore_n (L' := [some (.ref p), some (.ref a), some (.int (nI s)), some (.int (nI 0))]) i6_11 ⟨Nat.le_of_ble_eq_true rfl, rfl⟩ rfl ?_
  have hO3 := hO.trans hO2 (C := chC p) (fun _ h => h) (fun _ h => h)
  refine (lq6 hb ha hce hsd hs hap 6 0 _ _ rfl (hM.off hO3 (fun j h1 h2 q => by unfold chC at q; omega)) (hH.off hO3 (by unfold chC; omega) (by unfold chC; omega) (by unfold chC; omega)) hY1).post (fun r H' hq => ?_)
  exact ⟨hq.1, hq.2.1, hO3.trans hq.2.2 (fun _ h => h) (fun _ h => h)⟩
def hdC : Nat → Prop := fun j => 3 ≤ j ∧ j ≤ 5
theorem c12 {tb : dxT} {H : dxH} {n : Nat} {sd kd : Nat → Nat} (hH : HrdAt H n sd kd) : Cl tb 12 [.ref 3] H (fun r H' => r = none ∧ HrdAt H' 0 sd kd ∧ Off hdC H H') := by
  obtain ⟨g0, g1, g2⟩ := id hH
  have hO : Off hdC H H := Off.rf
  show Ev tb 12 0 [some (.ref 3)] [] H _
  refine ev_aload_n i12_0 rfl ?_
  refine ev_iconst (v := nI 0) i12_1 (by decide) ?_
  refine evs_put (fs' := [.ref 4, .ref 5, .int (nI 0)]) i12_2 ci12 fl2_18 (by assumption) ⟨Nat.le_of_ble_eq_true rfl, rfl, Or.inl rfl⟩ rfl (fun H1 hH1 => ?_)
  have g0 : H1[3]? = some (.inr (2, [.ref 4, .ref 5, .int (nI 0)])) := by rw [hH1]; exact set_self g0
  have g1 : H1[4]? = some (IA 6 sd) := by rw [hH1]; exact set_ne g1 (by omega)
  have g2 : H1[5]? = some (IA 6 kd) := by rw [hH1]; exact set_ne g2 (by omega)
  have hO : Off hdC H H1 := by rw [hH1]; exact hO.set (by unfold hdC; decide)
  refine ev_vret i12_5 (by decide +kernel) ?_
  exact ⟨rfl, ⟨g0, g1, g2⟩, hO⟩
theorem c13 {tb : dxT} {H : dxH} {n s k : Nat} {sd kd : Nat → Nat} (hH : HrdAt H n sd kd) (hn : n < 6) : Cl tb 13 [.ref 3, .int (nI s), .int (nI k)] H (fun r H' => r = none ∧ HrdAt H' (n + 1) (updN sd n s) (updN kd n k) ∧ Off hdC H H') := by
  obtain ⟨g0, g1, g2⟩ := id hH
  have hO : Off hdC H H := Off.rf
  show Ev tb 13 0 [some (.ref 3), some (.int (nI s)), some (.int (nI k))] [] H _
  refine ev_aload_n i13_0 rfl ?_
  refine ev_get i13_1 ci13 fl2_18 (by assumption) rfl ?_
  refine ev_bipush (v := nI 6) i13_4 (by decide) ?_
  refine evn_icmp_ge (t := 39) i13_6 (by decide) (by omega) (fun z6 => by exfalso; omega) (fun z6 => ?_)
  refine ev_aload_n i13_9 rfl ?_
  refine ev_get i13_10 ci13 fl2_9 (by assumption) rfl ?_
  refine ev_aload_n i13_13 rfl ?_
  refine ev_get i13_14 ci13 fl2_18 (by assumption) rfl ?_
  refine ev_iload_n i13_17 rfl ?_
  refine evs_iastn i13_18 (by assumption) (by omega) (fun H1 hH1 => ?_)
  have g0 : H1[3]? = some (.inr (2, [.ref 4, .ref 5, .int (nI n)])) := by rw [hH1]; exact set_ne g0 (by omega)
  have g1 : H1[4]? = some (IA 6 (updN sd n s)) := by rw [hH1]; exact set_self g1
  have g2 : H1[5]? = some (IA 6 kd) := by rw [hH1]; exact set_ne g2 (by omega)
  have hO : Off hdC H H1 := by rw [hH1]; exact hO.set (by unfold hdC; decide)
  refine ev_aload_n i13_19 rfl ?_
  refine ev_get i13_20 ci13 fl2_15 (by assumption) rfl ?_
  refine ev_aload_n i13_23 rfl ?_
  refine ev_get i13_24 ci13 fl2_18 (by assumption) rfl ?_
  refine ev_iload_n i13_27 rfl ?_
  refine evs_iastn i13_28 (by assumption) (by omega) (fun H2 hH2 => ?_)
  have g0 : H2[3]? = some (.inr (2, [.ref 4, .ref 5, .int (nI n)])) := by rw [hH2]; exact set_ne g0 (by omega)
  have g1 : H2[4]? = some (IA 6 (updN sd n s)) := by rw [hH2]; exact set_ne g1 (by omega)
  have g2 : H2[5]? = some (IA 6 (updN kd n k)) := by rw [hH2]; exact set_self g2
  have hO : Off hdC H H2 := by rw [hH2]; exact hO.set (by unfold hdC; decide)
  refine ev_aload_n i13_29 rfl ?_
  refine ev_dup i13_30 rfl ?_
  refine ev_get i13_31 ci13 fl2_18 (by assumption) rfl ?_
  refine ev_iconst (v := nI 1) i13_34 (by decide) ?_
  refine evn_iadd i13_35 ?_
  refine evs_put (fs' := [.ref 4, .ref 5, .int (nI (n + 1))]) i13_36 ci13 fl2_18 (by assumption) ⟨Nat.le_of_ble_eq_true rfl, rfl, Or.inl rfl⟩ rfl (fun H3 hH3 => ?_)
  have g0 : H3[3]? = some (.inr (2, [.ref 4, .ref 5, .int (nI (n + 1))])) := by rw [hH3]; exact set_self g0
  have g1 : H3[4]? = some (IA 6 (updN sd n s)) := by rw [hH3]; exact set_ne g1 (by omega)
  have g2 : H3[5]? = some (IA 6 (updN kd n k)) := by rw [hH3]; exact set_ne g2 (by omega)
  have hO : Off hdC H H3 := by rw [hH3]; exact hO.set (by unfold hdC; decide)
  refine ev_vret i13_39 (by decide +kernel) ?_
  exact ⟨rfl, ⟨g0, g1, g2⟩, hO⟩
theorem clr_eq : ∀ (d j : Nat) (f : Nat → Nat), Vn (j + d) f → (∀ i, i < j → f i = 0) → upto (fun q g => updN g q 0) d j f = fun _ => 0
  | 0, j, f, h1, h2 => funext fun i => by
    rcases Nat.lt_or_ge i j with h | h
    · exact h2 i h
    · exact h1 i (by omega)
  | d + 1, j, f, h1, h2 => by
    unfold upto
    refine clr_eq d (j + 1) _ (fun i hi => ?_) (fun i hi => ?_)
    · unfold updN
      rw [if_neg (by omega)]
      exact h1 i (by omega)
    · unfold updN
      by_cases hij : i = j
      · rw [if_pos hij]
      · rw [if_neg hij]
        exact h2 i (by omega)
theorem clrI_eq : ∀ (d j : Nat) (f : Nat → Int32), Vi (j + d) f → (∀ i, i < j → f i = 0) → upto (fun q g => upd g q 0) d j f = fun _ => 0
  | 0, j, f, h1, h2 => funext fun i => by
    rcases Nat.lt_or_ge i j with h | h
    · exact h2 i h
    · exact h1 i (by omega)
  | d + 1, j, f, h1, h2 => by
    unfold upto
    refine clrI_eq d (j + 1) _ (fun i hi => ?_) (fun i hi => ?_)
    · unfold upd
      rw [if_neg (by omega)]
      exact h1 i (by omega)
    · unfold upd
      by_cases hij : i = j
      · rw [if_pos hij]
      · rw [if_neg hij]
        exact h2 i (by omega)
theorem lq19b {tb : dxT} {a : Nat} {ce fu : Nat → Nat} {he : Nat} {sn : Bool} {ho wa : Int32} (ha : 6 ≤ a) : ∀ (d j : Nat) (H : dxH) (pa : Nat → Int32) (cl : Nat → Nat), j + d = 2 → MdwAt H a cl ce fu pa he sn ho wa → Ev tb 19 23 [some (.ref a), some (.int (nI j))] [] H (fun r H' => r = none ∧ MdwAt H' a cl ce fu (upto (fun q g => upd g q 0) d j pa) 0 false 0 0 ∧ Off (mdC a) H H')
  | 0, j, H, pa, cl, hj, hM => by
    obtain rfl : j = 2 := by omega
    obtain ⟨m0, m1, m2, m3, m4⟩ := id hM
    have hO : Off (mdC a) H H := Off.rf
    refine ev_iload_n i19_23 rfl ?_
    refine ev_iconst (v := nI 2) i19_24 (by decide) ?_
    refine evn_icmp_ge (t := 41) i19_25 (by decide) (by omega) (fun z25 => ?_) (fun z25 => by exfalso; omega)
    refine ev_aload_n i19_41 rfl ?_
    refine ev_iconst (v := nI 0) i19_42 (by decide) ?_
    refine evs_put (fs' := [.ref 3, .ref (a + 1), .ref (a + 2), .ref (a + 3), .ref (a + 4), .int (nI 0), .int (bI sn), .int ho, .int wa]) i19_43 ci19 fl3_28 (by assumption) ⟨Nat.le_of_ble_eq_true rfl, rfl, Or.inl rfl⟩ rfl (fun H1 hH1 => ?_)
    have m0 : H1[a]? = some (.inr (3, [.ref 3, .ref (a + 1), .ref (a + 2), .ref (a + 3), .ref (a + 4), .int (nI 0), .int (bI sn), .int ho, .int wa])) := by rw [hH1]; exact set_self m0
    have m1 : H1[a + 1]? = some (IA 10 cl) := by rw [hH1]; exact set_ne m1 (by omega)
    have m2 : H1[a + 2]? = some (IA 6 ce) := by rw [hH1]; exact set_ne m2 (by omega)
    have m3 : H1[a + 3]? = some (IA 6 fu) := by rw [hH1]; exact set_ne m3 (by omega)
    have m4 : H1[a + 4]? = some (.inl (0, 2, .inl pa)) := by rw [hH1]; exact set_ne m4 (by omega)
    have hO : Off (mdC a) H H1 := by rw [hH1]; exact hO.set (by exact ⟨by omega, by omega⟩)
    refine ev_aload_n i19_46 rfl ?_
    refine ev_iconst (v := nI 0) i19_47 (by decide) ?_
    refine evs_put (fs' := [.ref 3, .ref (a + 1), .ref (a + 2), .ref (a + 3), .ref (a + 4), .int (nI 0), .int (nI 0), .int ho, .int wa]) i19_48 ci19 fl3_32 (by assumption) ⟨Nat.le_of_ble_eq_true rfl, rfl, Or.inl rfl⟩ rfl (fun H2 hH2 => ?_)
    have m0 : H2[a]? = some (.inr (3, [.ref 3, .ref (a + 1), .ref (a + 2), .ref (a + 3), .ref (a + 4), .int (nI 0), .int (nI 0), .int ho, .int wa])) := by rw [hH2]; exact set_self m0
    have m1 : H2[a + 1]? = some (IA 10 cl) := by rw [hH2]; exact set_ne m1 (by omega)
    have m2 : H2[a + 2]? = some (IA 6 ce) := by rw [hH2]; exact set_ne m2 (by omega)
    have m3 : H2[a + 3]? = some (IA 6 fu) := by rw [hH2]; exact set_ne m3 (by omega)
    have m4 : H2[a + 4]? = some (.inl (0, 2, .inl pa)) := by rw [hH2]; exact set_ne m4 (by omega)
    have hO : Off (mdC a) H H2 := by rw [hH2]; exact hO.set (by exact ⟨by omega, by omega⟩)
    refine ev_aload_n i19_51 rfl ?_
    refine ev_iconst (v := nI 0) i19_52 (by decide) ?_
    refine evs_put (fs' := [.ref 3, .ref (a + 1), .ref (a + 2), .ref (a + 3), .ref (a + 4), .int (nI 0), .int (nI 0), .int (nI 0), .int wa]) i19_53 ci19 fl3_36 (by assumption) ⟨Nat.le_of_ble_eq_true rfl, rfl, Or.inl rfl⟩ rfl (fun H3 hH3 => ?_)
    have m0 : H3[a]? = some (.inr (3, [.ref 3, .ref (a + 1), .ref (a + 2), .ref (a + 3), .ref (a + 4), .int (nI 0), .int (nI 0), .int (nI 0), .int wa])) := by rw [hH3]; exact set_self m0
    have m1 : H3[a + 1]? = some (IA 10 cl) := by rw [hH3]; exact set_ne m1 (by omega)
    have m2 : H3[a + 2]? = some (IA 6 ce) := by rw [hH3]; exact set_ne m2 (by omega)
    have m3 : H3[a + 3]? = some (IA 6 fu) := by rw [hH3]; exact set_ne m3 (by omega)
    have m4 : H3[a + 4]? = some (.inl (0, 2, .inl pa)) := by rw [hH3]; exact set_ne m4 (by omega)
    have hO : Off (mdC a) H H3 := by rw [hH3]; exact hO.set (by exact ⟨by omega, by omega⟩)
    refine ev_aload_n i19_56 rfl ?_
    refine ev_iconst (v := nI 0) i19_57 (by decide) ?_
    refine evs_put (fs' := [.ref 3, .ref (a + 1), .ref (a + 2), .ref (a + 3), .ref (a + 4), .int (nI 0), .int (nI 0), .int (nI 0), .int (nI 0)]) i19_58 ci19 fl3_39 (by assumption) ⟨Nat.le_of_ble_eq_true rfl, rfl, Or.inl rfl⟩ rfl (fun H4 hH4 => ?_)
    have m0 : H4[a]? = some (.inr (3, [.ref 3, .ref (a + 1), .ref (a + 2), .ref (a + 3), .ref (a + 4), .int (nI 0), .int (nI 0), .int (nI 0), .int (nI 0)])) := by rw [hH4]; exact set_self m0
    have m1 : H4[a + 1]? = some (IA 10 cl) := by rw [hH4]; exact set_ne m1 (by omega)
    have m2 : H4[a + 2]? = some (IA 6 ce) := by rw [hH4]; exact set_ne m2 (by omega)
    have m3 : H4[a + 3]? = some (IA 6 fu) := by rw [hH4]; exact set_ne m3 (by omega)
    have m4 : H4[a + 4]? = some (.inl (0, 2, .inl pa)) := by rw [hH4]; exact set_ne m4 (by omega)
    have hO : Off (mdC a) H H4 := by rw [hH4]; exact hO.set (by exact ⟨by omega, by omega⟩)
    refine ev_vret i19_61 (by decide +kernel) ?_
    rw [nI_0] at m0
    exact ⟨rfl, ⟨m0, m1, m2, m3, m4⟩, hO⟩
  | d + 1, j, H, pa, cl, hj, hM => by
    obtain ⟨m0, m1, m2, m3, m4⟩ := id hM
    have hO : Off (mdC a) H H := Off.rf
    refine ev_iload_n i19_23 rfl ?_
    refine ev_iconst (v := nI 2) i19_24 (by decide) ?_
    refine evn_icmp_ge (t := 41) i19_25 (by decide) (by omega) (fun z25 => by exfalso; omega) (fun z25 => ?_)
    refine ev_aload_n i19_28 rfl ?_
    refine ev_get i19_29 ci19 fl3_21 (by assumption) rfl ?_
    refine ev_iload_n i19_32 rfl ?_
    refine ev_iconst (v := nI 0) i19_33 (by decide) ?_
    refine evs_iastw i19_34 (by assumption) (by omega) (fun H1 hH1 => ?_)
    have m0 : H1[a]? = some (.inr (3, [.ref 3, .ref (a + 1), .ref (a + 2), .ref (a + 3), .ref (a + 4), .int (nI he), .int (bI sn), .int ho, .int wa])) := by rw [hH1]; exact set_ne m0 (by omega)
    have m1 : H1[a + 1]? = some (IA 10 cl) := by rw [hH1]; exact set_ne m1 (by omega)
    have m2 : H1[a + 2]? = some (IA 6 ce) := by rw [hH1]; exact set_ne m2 (by omega)
    have m3 : H1[a + 3]? = some (IA 6 fu) := by rw [hH1]; exact set_ne m3 (by omega)
    have m4 : H1[a + 4]? = some (.inl (0, 2, .inl (upd pa j (nI 0)))) := by rw [hH1]; exact set_self m4
    have hO : Off (mdC a) H H1 := by rw [hH1]; exact hO.set (by exact ⟨by omega, by omega⟩)
    refine evn_iinc (d := 1) (L' := [some (.ref a), some (.int (nI (j + 1)))]) i19_35 rfl rfl (by decide) rfl ?_
    refine ev_goto (t := 23) i19_38 (by decide) ?_
    rw [nI_0] at m4
    refine (lq19b ha d (j + 1) H1 (upd pa j 0) cl (by omega) ⟨m0, m1, m2, m3, m4⟩).post (fun r H' hq => ?_)
    exact ⟨hq.1, hq.2.1, hO.trans hq.2.2 (fun _ h => h) (fun _ h => h)⟩
theorem lq19a {tb : dxT} {a : Nat} {ce fu : Nat → Nat} {pa : Nat → Int32} {he : Nat} {sn : Bool} {ho wa : Int32} (ha : 6 ≤ a) : ∀ (d j : Nat) (H : dxH) (cl : Nat → Nat), j + d = 10 → MdwAt H a cl ce fu pa he sn ho wa → Ev tb 19 2 [some (.ref a), some (.int (nI j))] [] H (fun r H' => r = none ∧ MdwAt H' a (upto (fun q g => updN g q 0) d j cl) ce fu (upto (fun q g => upd g q 0) 2 0 pa) 0 false 0 0 ∧ Off (mdC a) H H')
  | 0, j, H, cl, hj, hM => by
    obtain rfl : j = 10 := by omega
    refine ev_iload_n i19_2 rfl ?_
    refine ev_bipush (v := nI 10) i19_3 (by decide) ?_
    refine evn_icmp_ge (t := 21) i19_5 (by decide) (by omega) (fun z5 => ?_) (fun z5 => by exfalso; omega)
    refine ev_iconst (v := nI 0) i19_21 (by decide) ?_
    refine ev_istore_n (L' := [some (.ref a), some (.int (nI 0))]) i19_22 ⟨Nat.le_of_ble_eq_true rfl, rfl⟩ rfl ?_
    exact lq19b ha 2 0 H pa cl rfl hM
  | d + 1, j, H, cl, hj, hM => by
    obtain ⟨m0, m1, m2, m3, m4⟩ := id hM
    have hO : Off (mdC a) H H := Off.rf
    refine ev_iload_n i19_2 rfl ?_
    refine ev_bipush (v := nI 10) i19_3 (by decide) ?_
    refine evn_icmp_ge (t := 21) i19_5 (by decide) (by omega) (fun z5 => by exfalso; omega) (fun z5 => ?_)
    refine ev_aload_n i19_8 rfl ?_
    refine ev_get i19_9 ci19 fl3_9 (by assumption) rfl ?_
    refine ev_iload_n i19_12 rfl ?_
    refine ev_iconst (v := nI 0) i19_13 (by decide) ?_
    refine evs_iastn i19_14 (by assumption) (by omega) (fun H1 hH1 => ?_)
    have m0 : H1[a]? = some (.inr (3, [.ref 3, .ref (a + 1), .ref (a + 2), .ref (a + 3), .ref (a + 4), .int (nI he), .int (bI sn), .int ho, .int wa])) := by rw [hH1]; exact set_ne m0 (by omega)
    have m1 : H1[a + 1]? = some (IA 10 (updN cl j 0)) := by rw [hH1]; exact set_self m1
    have m2 : H1[a + 2]? = some (IA 6 ce) := by rw [hH1]; exact set_ne m2 (by omega)
    have m3 : H1[a + 3]? = some (IA 6 fu) := by rw [hH1]; exact set_ne m3 (by omega)
    have m4 : H1[a + 4]? = some (.inl (0, 2, .inl pa)) := by rw [hH1]; exact set_ne m4 (by omega)
    have hO : Off (mdC a) H H1 := by rw [hH1]; exact hO.set (by exact ⟨by omega, by omega⟩)
    refine evn_iinc (d := 1) (L' := [some (.ref a), some (.int (nI (j + 1)))]) i19_15 rfl rfl (by decide) rfl ?_
    refine ev_goto (t := 2) i19_18 (by decide) ?_
    refine (lq19a ha d (j + 1) H1 (updN cl j 0) (by omega) ⟨m0, m1, m2, m3, m4⟩).post (fun r H' hq => ?_)
    exact ⟨hq.1, hq.2.1, hO.trans hq.2.2 (fun _ h => h) (fun _ h => h)⟩
theorem c19 {tb : dxT} {a : Nat} {cl ce fu : Nat → Nat} {pa : Nat → Int32} {he : Nat} {sn : Bool} {ho wa : Int32} {H : dxH} (ha : 6 ≤ a) (hM : MdwAt H a cl ce fu pa he sn ho wa) (h1 : Vn 10 cl) (h4 : Vi 2 pa) : Cl tb 19 [.ref a] H (fun r H' => r = none ∧ MdwAt H' a (fun _ => 0) ce fu (fun _ => 0) 0 false 0 0 ∧ Off (mdC a) H H') := by
  show Ev tb 19 0 [some (.ref a), none] [] H _
  refine ev_iconst (v := nI 0) i19_0 (by decide) ?_
  refine ev_istore_n (L' := [some (.ref a), some (.int (nI 0))]) i19_1 ⟨Nat.le_of_ble_eq_true rfl, rfl⟩ rfl ?_
  have k1 := lq19a (tb := tb) ha 10 0 H cl rfl hM
  rw [clr_eq 10 0 cl h1 (fun i hi => by omega), clrI_eq 2 0 pa h4 (fun i hi => by omega)] at k1
  exact k1
theorem bits6 : ∀ n, n < 6 → nI (2 ^ n - 1) ||| (nI 1 <<< (nI n &&& 31)) = nI (2 ^ (n + 1) - 1) := by decide +kernel
def adC : Nat → Prop := fun j => hdC j ∨ mdC 6 j
theorem c21 {tb : dxT} {H : dxH} {n s k c f : Nat} {sd kd cl ce fu : Nat → Nat} {pa : Nat → Int32} {sn : Bool} {ho wa : Int32} (hH : HrdAt H n sd kd) (hM : MdwAt H 6 cl ce fu pa (2 ^ n - 1) sn ho wa) (hn : n < 6) : Cl tb 21 [.ref 6, .int (nI c), .int (nI s), .int (nI f), .int (nI k)] H (fun r H' => r = none ∧ HrdAt H' (n + 1) (updN sd n s) (updN kd n k) ∧ MdwAt H' 6 cl (updN ce n c) (updN fu n f) pa (2 ^ (n + 1) - 1) sn ho wa ∧ Off adC H H') := by
  have hO : Off adC H H := Off.rf
  obtain ⟨m0, m1, m2, m3, m4⟩ := id hM
  obtain ⟨g0, g1, g2⟩ := id hH
  show Ev tb 21 0 [some (.ref 6), some (.int (nI c)), some (.int (nI s)), some (.int (nI f)), some (.int (nI k)), none] [] H _
  refine ev_aload_n i21_0 rfl ?_
  refine ev_get i21_1 ci21 fl3_24 (by assumption) rfl ?_
  refine ev_callV (vs := []) (rest := []) i21_4 ci21 lk3_48 (congrArg (fun q => q + 1) np14) ci14 (by decide) (by decide +kernel) (Nat.le_of_ble_eq_true rfl) ⟨rfl, rfl, Nat.le_of_ble_eq_true rfl⟩ rfl (by assumption) (c14 (by assumption)) (fun r HH hq => ?_)
  obtain ⟨rfl, rfl⟩ := hq
  show Ev tb 21 7 [some (.ref 6), some (.int (nI c)), some (.int (nI s)), some (.int (nI f)), some (.int (nI k)), none] [.int (nI n)] H _
  refine ev_istore (L' := [some (.ref 6), some (.int (nI c)), some (.int (nI s)), some (.int (nI f)), some (.int (nI k)), some (.int (nI n))]) i21_7 ⟨Nat.le_of_ble_eq_true rfl, rfl⟩ rfl ?_
  refine ev_aload_n i21_9 rfl ?_
  refine ev_get i21_10 ci21 fl3_24 (by assumption) rfl ?_
  refine ev_iload_n i21_13 rfl ?_
  refine ev_iload i21_14 rfl ?_
  refine ev_callV (vs := [.int (nI s), .int (nI k)]) (rest := []) i21_16 ci21 lk3_54 (congrArg (fun q => q + 1) np13) ci13 (by decide) (by decide +kernel) (Nat.le_of_ble_eq_true rfl) ⟨rfl, rfl, Nat.le_of_ble_eq_true rfl⟩ rfl (by assumption) (c13 hH hn) (fun r H1 hq => ?_)
  obtain ⟨rfl, hH, hO1⟩ := hq
  obtain ⟨g0, g1, g2⟩ := id hH
  have hM := hM.off hO1 (fun j u1 u2 q => by have u3 := q.2; omega)
  obtain ⟨m0, m1, m2, m3, m4⟩ := id hM
  have hO : Off adC H H1 := hO1.weaken (fun j q => Or.inl q)
  show Ev tb 21 19 [some (.ref 6), some (.int (nI c)), some (.int (nI s)), some (.int (nI f)), some (.int (nI k)), some (.int (nI n))] [] H1 _
  refine ev_aload_n i21_19 rfl ?_
  refine ev_get i21_20 ci21 fl3_24 (by assumption) rfl ?_
  refine ev_iload i21_23 rfl ?_
  refine ev_callV (vs := [.int (nI n)]) (rest := []) i21_25 ci21 lk3_58 (congrArg (fun q => q + 1) np15) ci15 (by decide) (by decide +kernel) (Nat.le_of_ble_eq_true rfl) ⟨rfl, rfl, Nat.le_of_ble_eq_true rfl⟩ rfl (by assumption) (c15 hH (by omega)) (fun r HH hq => ?_)
  obtain ⟨rfl, rfl⟩ := hq
  have hin : inR (nI n) (n + 1) = true := by rw [inR_n (by omega) (by omega)]; exact decide_eq_true (by omega)
  show Ev tb 21 28 [some (.ref 6), some (.int (nI c)), some (.int (nI s)), some (.int (nI f)), some (.int (nI k)), some (.int (nI n))] [.int (bI (inR (nI n) (n + 1)))] H1 _
  refine evb_if_eq (t := 60) i21_28 (by decide) (fun z28 => by exfalso; rw [hin] at z28; cases z28) (fun z28 => ?_)
  refine ev_aload_n i21_31 rfl ?_
  refine ev_dup i21_32 rfl ?_
  refine ev_get i21_33 ci21 fl3_28 (by assumption) rfl ?_
  refine ev_iconst (v := nI 1) i21_36 (by decide) ?_
  refine ev_iload i21_37 rfl ?_
  refine ev_ishl i21_39 ?_
  refine ev_ior i21_40 ?_
  refine evs_put (fs' := [.ref 3, .ref (6 + 1), .ref (6 + 2), .ref (6 + 3), .ref (6 + 4), .int ((nI (2 ^ n - 1)) ||| ((nI 1) <<< ((nI n) &&& 31))), .int (bI sn), .int ho, .int wa]) i21_41 ci21 fl3_28 (by assumption) ⟨Nat.le_of_ble_eq_true rfl, rfl, Or.inl rfl⟩ rfl (fun H2 hH2 => ?_)
  have m0 : H2[6]? = some (.inr (3, [.ref 3, .ref (6 + 1), .ref (6 + 2), .ref (6 + 3), .ref (6 + 4), .int ((nI (2 ^ n - 1)) ||| ((nI 1) <<< ((nI n) &&& 31))), .int (bI sn), .int ho, .int wa])) := by rw [hH2]; exact set_self m0
  have m1 : H2[6 + 1]? = some (IA 10 cl) := by rw [hH2]; exact set_ne m1 (by omega)
  have m2 : H2[6 + 2]? = some (IA 6 ce) := by rw [hH2]; exact set_ne m2 (by omega)
  have m3 : H2[6 + 3]? = some (IA 6 fu) := by rw [hH2]; exact set_ne m3 (by omega)
  have m4 : H2[6 + 4]? = some (.inl (0, 2, .inl pa)) := by rw [hH2]; exact set_ne m4 (by omega)
  have g0 : H2[3]? = some (.inr (2, [.ref 4, .ref 5, .int (nI (n + 1))])) := by rw [hH2]; exact set_ne g0 (by omega)
  have g1 : H2[4]? = some (IA 6 (updN sd n s)) := by rw [hH2]; exact set_ne g1 (by omega)
  have g2 : H2[5]? = some (IA 6 (updN kd n k)) := by rw [hH2]; exact set_ne g2 (by omega)
  have hO : Off adC H H2 := by rw [hH2]; exact hO.set (by first | exact Or.inr ⟨by decide, by decide⟩)
  refine ev_aload_n i21_44 rfl ?_
  refine ev_get i21_45 ci21 fl3_15 (by assumption) rfl ?_
  refine ev_iload i21_48 rfl ?_
  refine ev_iload_n i21_50 rfl ?_
  refine evs_iastn i21_51 (by assumption) (by omega) (fun H3 hH3 => ?_)
  have m0 : H3[6]? = some (.inr (3, [.ref 3, .ref (6 + 1), .ref (6 + 2), .ref (6 + 3), .ref (6 + 4), .int ((nI (2 ^ n - 1)) ||| ((nI 1) <<< ((nI n) &&& 31))), .int (bI sn), .int ho, .int wa])) := by rw [hH3]; exact set_ne m0 (by omega)
  have m1 : H3[6 + 1]? = some (IA 10 cl) := by rw [hH3]; exact set_ne m1 (by omega)
  have m2 : H3[6 + 2]? = some (IA 6 (updN ce n c)) := by rw [hH3]; exact set_self m2
  have m3 : H3[6 + 3]? = some (IA 6 fu) := by rw [hH3]; exact set_ne m3 (by omega)
  have m4 : H3[6 + 4]? = some (.inl (0, 2, .inl pa)) := by rw [hH3]; exact set_ne m4 (by omega)
  have g0 : H3[3]? = some (.inr (2, [.ref 4, .ref 5, .int (nI (n + 1))])) := by rw [hH3]; exact set_ne g0 (by omega)
  have g1 : H3[4]? = some (IA 6 (updN sd n s)) := by rw [hH3]; exact set_ne g1 (by omega)
  have g2 : H3[5]? = some (IA 6 (updN kd n k)) := by rw [hH3]; exact set_ne g2 (by omega)
  have hO : Off adC H H3 := by rw [hH3]; exact hO.set (by first | exact Or.inr ⟨by decide, by decide⟩)
  refine ev_aload_n i21_52 rfl ?_
  refine ev_get i21_53 ci21 fl3_18 (by assumption) rfl ?_
  refine ev_iload i21_56 rfl ?_
  refine ev_iload_n i21_58 rfl ?_
  refine evs_iastn i21_59 (by assumption) (by omega) (fun H4 hH4 => ?_)
  have m0 : H4[6]? = some (.inr (3, [.ref 3, .ref (6 + 1), .ref (6 + 2), .ref (6 + 3), .ref (6 + 4), .int ((nI (2 ^ n - 1)) ||| ((nI 1) <<< ((nI n) &&& 31))), .int (bI sn), .int ho, .int wa])) := by rw [hH4]; exact set_ne m0 (by omega)
  have m1 : H4[6 + 1]? = some (IA 10 cl) := by rw [hH4]; exact set_ne m1 (by omega)
  have m2 : H4[6 + 2]? = some (IA 6 (updN ce n c)) := by rw [hH4]; exact set_ne m2 (by omega)
  have m3 : H4[6 + 3]? = some (IA 6 (updN fu n f)) := by rw [hH4]; exact set_self m3
  have m4 : H4[6 + 4]? = some (.inl (0, 2, .inl pa)) := by rw [hH4]; exact set_ne m4 (by omega)
  have g0 : H4[3]? = some (.inr (2, [.ref 4, .ref 5, .int (nI (n + 1))])) := by rw [hH4]; exact set_ne g0 (by omega)
  have g1 : H4[4]? = some (IA 6 (updN sd n s)) := by rw [hH4]; exact set_ne g1 (by omega)
  have g2 : H4[5]? = some (IA 6 (updN kd n k)) := by rw [hH4]; exact set_ne g2 (by omega)
  have hO : Off adC H H4 := by rw [hH4]; exact hO.set (by first | exact Or.inr ⟨by decide, by decide⟩)
  refine ev_vret i21_60 (by decide +kernel) ?_
  rw [bits6 n hn] at m0
  exact ⟨rfl, ⟨g0, g1, g2⟩, ⟨m0, m1, m2, m3, m4⟩, hO⟩
