/-! the class's text read: the first fault  -/
def plo (g : Bool) (i : Nat) : Nat := if g = true then (if i = 1 then 1 else 0) else 0
def phi (g : Bool) (i : Nat) : Nat := if g = true then 9 else if i = 1 then 1 else if i = 3 then 3 else 9
def pln (g : Bool) : Nat := if g = true then 2 else 4
theorem plo_le {g : Bool} {i : Nat} : plo g i ≤ 1 := by unfold plo; split <;> (try split) <;> decide
theorem phi_le {g : Bool} {i : Nat} : phi g i ≤ 9 := by unfold phi; split <;> (try split) <;> (try split) <;> decide
theorem pln_le {g : Bool} : pln g ≤ 4 := by unfold pln; split <;> decide
/-- a part's figure may stand there -/
def okP (tx : Nat → Nat) (g : Bool) (us p i : Nat) : Bool := decide (48 + plo g i ≤ tx (p + 1 + i) ∧ tx (p + 1 + i) ≤ 48 + phi g i) && !(decide (i = 0) && us.testBit (tx (p + 1 + i) - 48))
/-- the fault of a part whose letter stands at p -/
def fopL (tx : Nat → Nat) (ln : Nat) (g : Bool) (us p : Nat) : Nat → Nat → Int32
  | 0, _ => -9
  | d + 1, i => if ln ≤ p + 1 + i then nI ln else if okP tx g us p i = true then fopL tx ln g us p d (i + 1) else nI (p + 1 + i)
theorem m9_lt {a : Nat} (h : a < 2147483648) : (-9 : Int32) < nI a := by
  rw [Int32.lt_iff_toInt_lt, nI_toInt h]
  have e : (-9 : Int32).toInt = -9 := by decide
  omega
theorem m9_ne {a : Nat} (h : a < 2147483648) : nI a ≠ (-9 : Int32) := fun q => by
  have e := m9_lt h
  rw [q] at e
  exact absurd e (by decide)
theorem lq55 {tb : dxT} {H : dxH} {u v : UInt32} {g : Bool} {fl fh : Nat → Int32} (hu : u.toNat < 5) (hv : v.toNat < 5) (hl : tb u.toNat = (pln g, fl)) (hh : tb v.toNat = (pln g, fh)) (hfl : ∀ i, i < pln g → fl i = nI (plo g i)) (hfh : ∀ i, i < pln g → fh i = nI (phi g i)) {tx : Nat → Nat} {ln : Nat} (hX : TxtAt H tx ln) (hln : ln ≤ 64) (htx : ∀ j, tx j < 256) {us p : Nat} (hus : us < 1024) (hp : p < 100) : ∀ (d i : Nat), i + d = pln g → ∀ w6 w7 w8, Ev tb 55 3 [some (.ref 1), some (.int (nI p)), some (.float u), some (.float v), some (.int (nI us)), some (.int (nI i)), w6, w7, w8] [] H (Rt (.int (fopL tx ln g us p d i)) H)
  | 0, i, hi, w6, w7, w8 => by
    obtain rfl : i = pln g := by omega
    have hpl := pln_le (g := g)
    refine ev_iload i55_3 rfl ?_
    refine ev_aloadT_n i55_5 rfl ?_
    refine ev_tlen i55_6 hu hl ?_
    refine evn_icmp_ge (t := 107) i55_7 (by decide) (by omega) (fun z7 => ?_) (fun z7 => by exfalso; omega)
    refine ev_bipush (v := (-9)) i55_107 (by decide) ?_
    refine ev_iret i55_109 (by decide +kernel) ?_
    exact ⟨rfl, rfl⟩
  | d + 1, i, hi, w6, w7, w8 => by
    have hpl := pln_le (g := g)
    have hlo := plo_le (g := g) (i := i)
    have hhi := phi_le (g := g) (i := i)
    obtain ⟨x0, x1⟩ := id hX
    refine ev_iload i55_3 rfl ?_
    refine ev_aloadT_n i55_5 rfl ?_
    refine ev_tlen i55_6 hu hl ?_
    refine evn_icmp_ge (t := 107) i55_7 (by decide) (by omega) (fun z7 => by exfalso; omega) (fun z7 => ?_)
    refine ev_iload i55_10 rfl ?_
    refine ev_aloadT_n i55_12 rfl ?_
    refine ev_tlen i55_13 hv hh ?_
    refine evn_icmp_ge (t := 107) i55_14 (by decide) (by omega) (fun z14 => by exfalso; omega) (fun z14 => ?_)
    refine ev_iload_n i55_17 rfl ?_
    refine ev_iconst (v := nI 1) i55_18 (by decide) ?_
    refine evn_iadd i55_19 ?_
    refine ev_iload i55_20 rfl ?_
    refine evn_iadd i55_22 ?_
    refine ev_istore (L' := [some (.ref 1), some (.int (nI p)), some (.float u), some (.float v), some (.int (nI us)), some (.int (nI i)), some (.int (nI ((p + 1) + i))), w7, w8]) i55_23 ⟨Nat.le_of_ble_eq_true rfl, rfl⟩ rfl ?_
    refine ev_iload i55_25 rfl ?_
    refine ev_aload_n i55_27 rfl ?_
    refine ev_get i55_28 ci55 fl4_15 (by assumption) rfl ?_
    refine evn_icmp_lt (t := 39) i55_31 (by decide) (by omega) (fun z31 => ?_) (fun z31 => ?_)
    · by_cases hd : 48 ≤ tx (p + 1 + i) ∧ tx (p + 1 + i) ≤ 57
      · refine ev_aload_n i55_39 rfl ?_
        refine ev_iload i55_40 rfl ?_
        refine ev_callV (vs := [.int (nI (p + 1 + i))]) (rest := []) i55_42 ci55 lk4_44 (congrArg (fun q => q + 1) np53) ci53 (by decide) (by decide +kernel) (Nat.le_of_ble_eq_true rfl) ⟨rfl, rfl, Nat.le_of_ble_eq_true rfl⟩ rfl (by assumption) (c53t hX hln htx (by omega) hd.1 hd.2) (fun r HH hq => ?_)
        obtain ⟨rfl, rfl⟩ := hq
        show Ev tb 55 45 [some (.ref 1), some (.int (nI p)), some (.float u), some (.float v), some (.int (nI us)), some (.int (nI i)), some (.int (nI (p + 1 + i))), w7, w8] [.int (nI (tx (p + 1 + i) - 48))] H _
        refine ev_istore (L' := [some (.ref 1), some (.int (nI p)), some (.float u), some (.float v), some (.int (nI us)), some (.int (nI i)), some (.int (nI (p + 1 + i))), some (.int (nI (tx (p + 1 + i) - 48))), w8]) i55_45 ⟨Nat.le_of_ble_eq_true rfl, rfl⟩ rfl ?_
        refine ev_iload i55_47 rfl ?_
        refine evn_if_ne (t := 72) i55_49 (by decide) (by omega) (fun z49 => ?_) (fun z49 => ?_)
        · refine ev_iconst (v := nI 0) i55_72 (by decide) ?_
          refine ev_istore (L' := [some (.ref 1), some (.int (nI p)), some (.float u), some (.float v), some (.int (nI us)), some (.int (nI i)), some (.int (nI (p + 1 + i))), some (.int (nI (tx (p + 1 + i) - 48))), some (.int (nI 0))]) i55_73 ⟨Nat.le_of_ble_eq_true rfl, rfl⟩ rfl ?_
          refine ev_iload i55_75 rfl ?_
          refine ev_aloadT_n i55_77 rfl ?_
          refine ev_iload i55_78 rfl ?_
          refine ev_tald i55_80 hu hl (dxIn_n (by omega)) ?_
          rw [nI_clamp (by omega), hfl i (by omega)]
          refine evn_icmp_lt (t := 98) i55_81 (by decide) (by omega) (fun z81 => ?_) (fun z81 => ?_)
          · refine ev_iload i55_98 rfl ?_
            refine ev_iret i55_100 (by decide +kernel) ?_
            unfold fopL
            rw [if_neg (by omega), if_neg (fun h => by
              unfold okP at h
              rw [Bool.and_eq_true] at h
              have h1 := of_decide_eq_true h.1
              have h2 := h.2
              omega)]
            exact ⟨rfl, rfl⟩
          · refine ev_iload i55_84 rfl ?_
            refine ev_aloadT_n i55_86 rfl ?_
            refine ev_iload i55_87 rfl ?_
            refine ev_tald i55_89 hv hh (dxIn_n (by omega)) ?_
            rw [nI_clamp (by omega), hfh i (by omega)]
            refine evn_icmp_gt (t := 98) i55_90 (by decide) (by omega) (fun z90 => ?_) (fun z90 => ?_)
            · refine ev_iload i55_98 rfl ?_
              refine ev_iret i55_100 (by decide +kernel) ?_
              unfold fopL
              rw [if_neg (by omega), if_neg (fun h => by
                unfold okP at h
                rw [Bool.and_eq_true] at h
                have h1 := of_decide_eq_true h.1
                have h2 := h.2
                omega)]
              exact ⟨rfl, rfl⟩
            · refine ev_iload i55_93 rfl ?_
              refine evn_if_eq (t := 101) i55_95 (by decide) (by omega) (fun z95 => ?_) (fun z95 => by exfalso; omega)
              refine evn_iinc (d := 1) (L' := [some (.ref 1), some (.int (nI p)), some (.float u), some (.float v), some (.int (nI us)), some (.int (nI (i + 1))), some (.int (nI (p + 1 + i))), some (.int (nI (tx (p + 1 + i) - 48))), some (.int (nI 0))]) i55_101 rfl rfl (by decide) rfl ?_
              refine ev_goto (t := 3) i55_104 (by decide) ?_
              have hok : okP tx g us p i = true := by
                unfold okP
                rw [Bool.and_eq_true]
                refine ⟨decide_eq_true ⟨by omega, by omega⟩, ?_⟩
                simp [z49]
              unfold fopL
              rw [if_neg (by omega), if_pos hok]
              exact lq55 hu hv hl hh hfl hfh hX hln htx hus hp d (i + 1) (by omega) _ _ _
        · refine ev_iload i55_52 rfl ?_
          refine evn_if_lt (t := 72) i55_54 (by decide) (by omega) ?_
          refine ev_iload i55_57 rfl ?_
          refine ev_iload i55_59 rfl ?_
          refine ev_ishr i55_61 ?_
          refine ev_iconst (v := nI 1) i55_62 (by decide) ?_
          refine ev_iand i55_63 ?_
          rw [bit10 us hus (tx (p + 1 + i) - 48) (by omega)]
          refine ev_iconst (v := nI 1) i55_64 (by decide) ?_
          refine evb1_icmp_ne (t := 72) i55_65 (by decide) (fun z65 => ?_) (fun z65 => ?_)
          · refine ev_iconst (v := nI 0) i55_72 (by decide) ?_
            refine ev_istore (L' := [some (.ref 1), some (.int (nI p)), some (.float u), some (.float v), some (.int (nI us)), some (.int (nI i)), some (.int (nI (p + 1 + i))), some (.int (nI (tx (p + 1 + i) - 48))), some (.int (nI 0))]) i55_73 ⟨Nat.le_of_ble_eq_true rfl, rfl⟩ rfl ?_
            refine ev_iload i55_75 rfl ?_
            refine ev_aloadT_n i55_77 rfl ?_
            refine ev_iload i55_78 rfl ?_
            refine ev_tald i55_80 hu hl (dxIn_n (by omega)) ?_
            rw [nI_clamp (by omega), hfl i (by omega)]
            refine evn_icmp_lt (t := 98) i55_81 (by decide) (by omega) (fun z81 => ?_) (fun z81 => ?_)
            · refine ev_iload i55_98 rfl ?_
              refine ev_iret i55_100 (by decide +kernel) ?_
              unfold fopL
              rw [if_neg (by omega), if_neg (fun h => by
                unfold okP at h
                rw [Bool.and_eq_true] at h
                have h1 := of_decide_eq_true h.1
                have h2 := h.2
                omega)]
              exact ⟨rfl, rfl⟩
            · refine ev_iload i55_84 rfl ?_
              refine ev_aloadT_n i55_86 rfl ?_
              refine ev_iload i55_87 rfl ?_
              refine ev_tald i55_89 hv hh (dxIn_n (by omega)) ?_
              rw [nI_clamp (by omega), hfh i (by omega)]
              refine evn_icmp_gt (t := 98) i55_90 (by decide) (by omega) (fun z90 => ?_) (fun z90 => ?_)
              · refine ev_iload i55_98 rfl ?_
                refine ev_iret i55_100 (by decide +kernel) ?_
                unfold fopL
                rw [if_neg (by omega), if_neg (fun h => by
                  unfold okP at h
                  rw [Bool.and_eq_true] at h
                  have h1 := of_decide_eq_true h.1
                  have h2 := h.2
                  omega)]
                exact ⟨rfl, rfl⟩
              · refine ev_iload i55_93 rfl ?_
                refine evn_if_eq (t := 101) i55_95 (by decide) (by omega) (fun z95 => ?_) (fun z95 => by exfalso; omega)
                refine evn_iinc (d := 1) (L' := [some (.ref 1), some (.int (nI p)), some (.float u), some (.float v), some (.int (nI us)), some (.int (nI (i + 1))), some (.int (nI (p + 1 + i))), some (.int (nI (tx (p + 1 + i) - 48))), some (.int (nI 0))]) i55_101 rfl rfl (by decide) rfl ?_
                refine ev_goto (t := 3) i55_104 (by decide) ?_
                have hok : okP tx g us p i = true := by
                  unfold okP
                  rw [Bool.and_eq_true]
                  refine ⟨decide_eq_true ⟨by omega, by omega⟩, ?_⟩
                  simp [z65]
                unfold fopL
                rw [if_neg (by omega), if_pos hok]
                exact lq55 hu hv hl hh hfl hfh hX hln htx hus hp d (i + 1) (by omega) _ _ _
          · refine ev_iconst (v := nI 1) i55_68 (by decide) ?_
            refine ev_goto (t := 73) i55_69 (by decide) ?_
            refine ev_istore (L' := [some (.ref 1), some (.int (nI p)), some (.float u), some (.float v), some (.int (nI us)), some (.int (nI i)), some (.int (nI (p + 1 + i))), some (.int (nI (tx (p + 1 + i) - 48))), some (.int (nI 1))]) i55_73 ⟨Nat.le_of_ble_eq_true rfl, rfl⟩ rfl ?_
            refine ev_iload i55_75 rfl ?_
            refine ev_aloadT_n i55_77 rfl ?_
            refine ev_iload i55_78 rfl ?_
            refine ev_tald i55_80 hu hl (dxIn_n (by omega)) ?_
            rw [nI_clamp (by omega), hfl i (by omega)]
            refine evn_icmp_lt (t := 98) i55_81 (by decide) (by omega) (fun z81 => ?_) (fun z81 => ?_)
            · refine ev_iload i55_98 rfl ?_
              refine ev_iret i55_100 (by decide +kernel) ?_
              unfold fopL
              rw [if_neg (by omega), if_neg (fun h => by
                unfold okP at h
                rw [Bool.and_eq_true] at h
                have h1 := of_decide_eq_true h.1
                have h2 := h.2
                omega)]
              exact ⟨rfl, rfl⟩
            · refine ev_iload i55_84 rfl ?_
              refine ev_aloadT_n i55_86 rfl ?_
              refine ev_iload i55_87 rfl ?_
              refine ev_tald i55_89 hv hh (dxIn_n (by omega)) ?_
              rw [nI_clamp (by omega), hfh i (by omega)]
              refine evn_icmp_gt (t := 98) i55_90 (by decide) (by omega) (fun z90 => ?_) (fun z90 => ?_)
              · refine ev_iload i55_98 rfl ?_
                refine ev_iret i55_100 (by decide +kernel) ?_
                unfold fopL
                rw [if_neg (by omega), if_neg (fun h => by
                  unfold okP at h
                  rw [Bool.and_eq_true] at h
                  have h1 := of_decide_eq_true h.1
                  have h2 := h.2
                  omega)]
                exact ⟨rfl, rfl⟩
              · refine ev_iload i55_93 rfl ?_
                refine evn_if_eq (t := 101) i55_95 (by decide) (by omega) (fun z95 => by exfalso; omega) (fun z95 => ?_)
                refine ev_iload i55_98 rfl ?_
                refine ev_iret i55_100 (by decide +kernel) ?_
                unfold fopL
                rw [if_neg (by omega), if_neg (fun h => by
                  unfold okP at h
                  rw [Bool.and_eq_true] at h
                  have h1 := of_decide_eq_true h.1
                  have h2 := h.2
                  rw [decide_eq_true z49, z65] at h2
                  exact absurd h2 (by decide))]
                exact ⟨rfl, rfl⟩
      · refine ev_aload_n i55_39 rfl ?_
        refine ev_iload i55_40 rfl ?_
        refine ev_callV (vs := [.int (nI (p + 1 + i))]) (rest := []) i55_42 ci55 lk4_44 (congrArg (fun q => q + 1) np53) ci53 (by decide) (by decide +kernel) (Nat.le_of_ble_eq_true rfl) ⟨rfl, rfl, Nat.le_of_ble_eq_true rfl⟩ rfl (by assumption) (c53f hX hln htx (by omega) (fun _ => hd)) (fun r HH hq => ?_)
        obtain ⟨rfl, rfl⟩ := hq
        show Ev tb 55 45 [some (.ref 1), some (.int (nI p)), some (.float u), some (.float v), some (.int (nI us)), some (.int (nI i)), some (.int (nI (p + 1 + i))), w7, w8] [.int (-9)] H _
        refine ev_istore (L' := [some (.ref 1), some (.int (nI p)), some (.float u), some (.float v), some (.int (nI us)), some (.int (nI i)), some (.int (nI (p + 1 + i))), some (.int (-9)), w8]) i55_45 ⟨Nat.le_of_ble_eq_true rfl, rfl⟩ rfl ?_
        refine ev_iload i55_47 rfl ?_
        refine evn_if_ne (t := 72) i55_49 (by decide) (by omega) (fun z49 => ?_) (fun z49 => ?_)
        · refine ev_iconst (v := nI 0) i55_72 (by decide) ?_
          refine ev_istore (L' := [some (.ref 1), some (.int (nI p)), some (.float u), some (.float v), some (.int (nI us)), some (.int (nI i)), some (.int (nI (p + 1 + i))), some (.int (-9)), some (.int (nI 0))]) i55_73 ⟨Nat.le_of_ble_eq_true rfl, rfl⟩ rfl ?_
          refine ev_iload i55_75 rfl ?_
          refine ev_aloadT_n i55_77 rfl ?_
          refine ev_iload i55_78 rfl ?_
          refine ev_tald i55_80 hu hl (dxIn_n (by omega)) ?_
          rw [nI_clamp (by omega), hfl i (by omega)]
          refine ev_icmp_lt (t := 98) i55_81 (by decide) (fun z81 => ?_) (fun z81 => by exfalso; exact absurd (m9_lt (by omega)) z81)
          refine ev_iload i55_98 rfl ?_
          refine ev_iret i55_100 (by decide +kernel) ?_
          unfold fopL
          rw [if_neg (by omega), if_neg (fun h => by
            unfold okP at h
            rw [Bool.and_eq_true] at h
            have h1 := of_decide_eq_true h.1
            have h2 := h.2
            omega)]
          exact ⟨rfl, rfl⟩
        · refine ev_iload i55_52 rfl ?_
          refine ev_if_lt (t := 72) i55_54 (by decide) (fun z54 => ?_) (fun z54 => by exfalso; exact absurd z54 (by decide))
          refine ev_iconst (v := nI 0) i55_72 (by decide) ?_
          refine ev_istore (L' := [some (.ref 1), some (.int (nI p)), some (.float u), some (.float v), some (.int (nI us)), some (.int (nI i)), some (.int (nI (p + 1 + i))), some (.int (-9)), some (.int (nI 0))]) i55_73 ⟨Nat.le_of_ble_eq_true rfl, rfl⟩ rfl ?_
          refine ev_iload i55_75 rfl ?_
          refine ev_aloadT_n i55_77 rfl ?_
          refine ev_iload i55_78 rfl ?_
          refine ev_tald i55_80 hu hl (dxIn_n (by omega)) ?_
          rw [nI_clamp (by omega), hfl i (by omega)]
          refine ev_icmp_lt (t := 98) i55_81 (by decide) (fun z81 => ?_) (fun z81 => by exfalso; exact absurd (m9_lt (by omega)) z81)
          refine ev_iload i55_98 rfl ?_
          refine ev_iret i55_100 (by decide +kernel) ?_
          unfold fopL
          rw [if_neg (by omega), if_neg (fun h => by
            unfold okP at h
            rw [Bool.and_eq_true] at h
            have h1 := of_decide_eq_true h.1
            have h2 := h.2
            omega)]
          exact ⟨rfl, rfl⟩
    · refine ev_aload_n i55_34 rfl ?_
      refine ev_get i55_35 ci55 fl4_15 (by assumption) rfl ?_
      refine ev_iret i55_38 (by decide +kernel) ?_
      unfold fopL
      rw [if_pos (by omega)]
      exact ⟨rfl, rfl⟩
theorem c55 {tb : dxT} {H : dxH} {u v : UInt32} {g : Bool} {fl fh : Nat → Int32} (hu : u.toNat < 5) (hv : v.toNat < 5) (hl : tb u.toNat = (pln g, fl)) (hh : tb v.toNat = (pln g, fh)) (hfl : ∀ i, i < pln g → fl i = nI (plo g i)) (hfh : ∀ i, i < pln g → fh i = nI (phi g i)) {tx : Nat → Nat} {ln : Nat} (hX : TxtAt H tx ln) (hln : ln ≤ 64) (htx : ∀ j, tx j < 256) {us p : Nat} (hus : us < 1024) (hp : p < 100) : Cl tb 55 [.ref 1, .int (nI p), .float u, .float v, .int (nI us)] H (Rt (.int (fopL tx ln g us p (pln g) 0)) H) := by
  show Ev tb 55 0 [some (.ref 1), some (.int (nI p)), some (.float u), some (.float v), some (.int (nI us)), none, none, none, none] [] H _
  refine ev_iconst (v := nI 0) i55_0 (by decide) ?_
  refine ev_istore (L' := [some (.ref 1), some (.int (nI p)), some (.float u), some (.float v), some (.int (nI us)), some (.int (nI 0)), none, none, none]) i55_1 ⟨Nat.le_of_ble_eq_true rfl, rfl⟩ rfl ?_
  exact lq55 hu hv hl hh hfl hfh hX hln htx hus hp (pln g) 0 (Nat.zero_add _) _ _ _
