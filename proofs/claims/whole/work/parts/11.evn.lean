/-! rules over numbers and truth values; the frame -/
def bI (b : Bool) : Int32 := match b with
  | true => 1
  | false => 0
theorem bI_and (b : Bool) : bI b &&& 1 = bI b := by cases b <;> decide
theorem bI_t : bI true = nI 1 := by decide
theorem bI_f : bI false = nI 0 := by decide
theorem bI_nI (b : Bool) : bI b = nI (if b = true then 1 else 0) := by cases b <;> decide
theorem nI_mul (a b : Nat) : nI a * nI b = nI (a * b) := (Int32.ofNat_mul a b).symm
theorem nI_sub {a b : Nat} (h : b ≤ a) : nI a - nI b = nI (a - b) := by
  have h1 := nI_add (a - b) b
  rw [Nat.sub_add_cancel h] at h1
  rw [← h1, Int32.add_sub_cancel]
theorem nI_div {a b : Nat} (ha : a < 2 ^ 31) (hb : b < 2 ^ 31) (h0 : 0 < b) : nI a / nI b = nI (a / b) := by
  apply Int32.toInt_inj.mp
  have h1 : a / b < 2 ^ 31 := Nat.lt_of_le_of_lt (Nat.div_le_self a b) ha
  rw [lg_idiv_nonneg (by rw [nI_toInt ha]; omega) (by rw [nI_toInt hb]; omega), nI_toInt ha, nI_toInt hb, nI_toInt h1]
  rfl
theorem nI_rem {a b : Nat} (ha : a < 2 ^ 31) (hb : b < 2 ^ 31) (h0 : 0 < b) : nI a - nI a / nI b * nI b = nI (a % b) := by
  rw [nI_div ha hb h0, nI_mul, nI_sub (Nat.div_mul_le_self a b), Nat.mod_eq_sub_div_mul]
theorem dxIn_n {j m : Nat} (h : j < m ∧ m < 2147483648) : dxIn (nI j) m = true := by
  unfold dxIn
  exact decide_eq_true (vp_in_nI h.1 h.2)
theorem set_self {H : dxH} {a : Nat} {e0 e : dxE} (h : H[a]? = some e0) : (H.set a e)[a]? = some e := List.getElem?_set_self (List.getElem?_eq_some_iff.mp h).1
theorem set_ne {H : dxH} {a b : Nat} {e0 e : dxE} (h : H[b]? = some e0) (hab : a ≠ b) : (H.set a e)[b]? = some e0 := by rw [List.getElem?_set_ne hab]; exact h
/-- all cells but those of A are as they were -/
def Off (A : Nat → Prop) (H H' : dxH) : Prop := H'.length = H.length ∧ ∀ j, ¬ A j → H'[j]? = H[j]?
theorem Off.rf {A : Nat → Prop} {H : dxH} : Off A H H := ⟨rfl, fun _ _ => rfl⟩
theorem Off.set {A : Nat → Prop} {H H' : dxH} {a : Nat} {e : dxE} (h : Off A H H') (ha : A a) : Off A H (H'.set a e) := ⟨by rw [List.length_set]; exact h.1, fun j hj => by
  rw [List.getElem?_set_ne (show a ≠ j from fun q => hj (by rw [← q]; exact ha))]
  exact h.2 j hj⟩
theorem Off.trans {A B C : Nat → Prop} {H H1 H2 : dxH} (h1 : Off A H H1) (h2 : Off B H1 H2) (ha : ∀ j, A j → C j) (hb : ∀ j, B j → C j) : Off C H H2 := ⟨h2.1.trans h1.1, fun j hj => (h2.2 j (fun q => hj (hb j q))).trans (h1.2 j (fun q => hj (ha j q)))⟩
theorem Off.weaken {A C : Nat → Prop} {H H1 : dxH} (h1 : Off A H H1) (ha : ∀ j, A j → C j) : Off C H H1 := ⟨h1.1, fun j hj => h1.2 j (fun q => hj (ha j q))⟩
theorem Off.at {A : Nat → Prop} {H H1 : dxH} {j : Nat} {e : dxE} (h : Off A H H1) (hj : H[j]? = some e) (hA : ¬ A j) : H1[j]? = some e := (h.2 j hA).trans hj
section EVN
variable {tb : dxT} {k pc : Nat} {L L' : dxL} {S S' : List Value} {H H' : dxH} {Q : Option Value → dxH → Prop} {i : Instr} {n pc' : Nat}
theorem evn_iadd {a b : Nat} (hI : dxI k pc = some (.iadd, 1)) (kk : Ev tb k (pc + 1) L (.int (nI (a + b)) :: S) H Q) : Ev tb k pc L (.int (nI b) :: .int (nI a) :: S) H Q := ev_iadd hI (by rw [nI_add]; exact kk)
theorem evn_isub {a b : Nat} (hI : dxI k pc = some (.isub, 1)) (h : b ≤ a) (kk : Ev tb k (pc + 1) L (.int (nI (a - b)) :: S) H Q) : Ev tb k pc L (.int (nI b) :: .int (nI a) :: S) H Q := ev_isub hI (by rw [nI_sub h]; exact kk)
theorem evn_imul {a b : Nat} (hI : dxI k pc = some (.imul, 1)) (kk : Ev tb k (pc + 1) L (.int (nI (a * b)) :: S) H Q) : Ev tb k pc L (.int (nI b) :: .int (nI a) :: S) H Q := ev_imul hI (by rw [nI_mul]; exact kk)
theorem evn_idiv {a b : Nat} (hI : dxI k pc = some (.idiv, 1)) (h : a < 2147483648 ∧ b < 2147483648 ∧ 0 < b) (kk : Ev tb k (pc + 1) L (.int (nI (a / b)) :: S) H Q) : Ev tb k pc L (.int (nI b) :: .int (nI a) :: S) H Q := ev_idiv hI (nI_ne0 h.2.2 h.2.1) (by rw [nI_div h.1 h.2.1 h.2.2]; exact kk)
theorem evn_irem {a b : Nat} (hI : dxI k pc = some (.irem, 1)) (h : a < 2147483648 ∧ b < 2147483648 ∧ 0 < b) (kk : Ev tb k (pc + 1) L (.int (nI (a % b)) :: S) H Q) : Ev tb k pc L (.int (nI b) :: .int (nI a) :: S) H Q := ev_irem hI (nI_ne0 h.2.2 h.2.1) (by rw [nI_rem h.1 h.2.1 h.2.2]; exact kk)
theorem evn_iinc {j : Nat} {d a : Nat} (hI : dxI k pc = some (.iinc j d, 3)) (hl : L[j]? = some (some (.int (nI a)))) (hn : dxNo2 L j = true) (hd : Int32.ofInt d = nI d) (hL : L.set j (some (.int (nI (a + d)))) = L') (kk : Ev tb k (pc + 3) L' S H Q) : Ev tb k pc L S H Q := ev_iinc (v := nI (a + d)) hI hl hn (by rw [hd, nI_add]) hL kk
theorem evn_icmp_eq {o : Int} {t a b : Nat} (hI : dxI k pc = some (.if_icmp .eq o, 3)) (ht : (pc : Int) + o = (t : Int)) (h : a < 2147483648 ∧ b < 2147483648) (kt : a = b → Ev tb k t L S H Q) (kf : ¬ a = b → Ev tb k (pc + 3) L S H Q) : Ev tb k pc L (.int (nI b) :: .int (nI a) :: S) H Q := ev_icmp_eq hI ht (fun q => kt ((nI_eq h.1 h.2).mp q)) (fun q => kf (fun z => q ((nI_eq h.1 h.2).mpr z)))
theorem evn_icmp_ne {o : Int} {t a b : Nat} (hI : dxI k pc = some (.if_icmp .ne o, 3)) (ht : (pc : Int) + o = (t : Int)) (h : a < 2147483648 ∧ b < 2147483648) (kt : ¬ a = b → Ev tb k t L S H Q) (kf : a = b → Ev tb k (pc + 3) L S H Q) : Ev tb k pc L (.int (nI b) :: .int (nI a) :: S) H Q := ev_icmp_ne hI ht (fun q => kt ((not_congr (nI_eq h.1 h.2)).mp q)) (fun q => kf ((nI_eq h.1 h.2).mp q))
theorem evn_icmp_lt {o : Int} {t a b : Nat} (hI : dxI k pc = some (.if_icmp .lt o, 3)) (ht : (pc : Int) + o = (t : Int)) (h : a < 2147483648 ∧ b < 2147483648) (kt : a < b → Ev tb k t L S H Q) (kf : ¬ a < b → Ev tb k (pc + 3) L S H Q) : Ev tb k pc L (.int (nI b) :: .int (nI a) :: S) H Q := ev_icmp_lt hI ht (fun q => kt ((nI_ltI h.1 h.2).mp q)) (fun q => kf (fun z => q ((nI_ltI h.1 h.2).mpr z)))
theorem evn_icmp_ge {o : Int} {t a b : Nat} (hI : dxI k pc = some (.if_icmp .ge o, 3)) (ht : (pc : Int) + o = (t : Int)) (h : a < 2147483648 ∧ b < 2147483648) (kt : b ≤ a → Ev tb k t L S H Q) (kf : ¬ b ≤ a → Ev tb k (pc + 3) L S H Q) : Ev tb k pc L (.int (nI b) :: .int (nI a) :: S) H Q := ev_icmp_ge hI ht (fun q => kt ((nI_leI h.2 h.1).mp q)) (fun q => kf (fun z => q ((nI_leI h.2 h.1).mpr z)))
theorem evn_icmp_gt {o : Int} {t a b : Nat} (hI : dxI k pc = some (.if_icmp .gt o, 3)) (ht : (pc : Int) + o = (t : Int)) (h : a < 2147483648 ∧ b < 2147483648) (kt : b < a → Ev tb k t L S H Q) (kf : ¬ b < a → Ev tb k (pc + 3) L S H Q) : Ev tb k pc L (.int (nI b) :: .int (nI a) :: S) H Q := ev_icmp_gt hI ht (fun q => kt ((nI_ltI h.2 h.1).mp q)) (fun q => kf (fun z => q ((nI_ltI h.2 h.1).mpr z)))
theorem evn_icmp_le {o : Int} {t a b : Nat} (hI : dxI k pc = some (.if_icmp .le o, 3)) (ht : (pc : Int) + o = (t : Int)) (h : a < 2147483648 ∧ b < 2147483648) (kt : a ≤ b → Ev tb k t L S H Q) (kf : ¬ a ≤ b → Ev tb k (pc + 3) L S H Q) : Ev tb k pc L (.int (nI b) :: .int (nI a) :: S) H Q := ev_icmp_le hI ht (fun q => kt ((nI_leI h.1 h.2).mp q)) (fun q => kf (fun z => q ((nI_leI h.1 h.2).mpr z)))
theorem nI_eq0 {a : Nat} (h : a < 2147483648) : nI a = 0 ↔ a = 0 := by rw [← nI_0]; exact nI_eq h (by decide)
theorem nI_lt0 {a : Nat} (h : a < 2147483648) : nI a < 0 ↔ False := ⟨fun q => absurd q (nI_pos h), fun q => q.elim⟩
theorem nI_le0 {a : Nat} (h : a < 2147483648) : nI a ≤ 0 ↔ a = 0 := by rw [← nI_0, nI_leI h (by decide)]; omega
theorem nI_0lt {a : Nat} (h : a < 2147483648) : 0 < nI a ↔ 0 < a := by rw [← nI_0]; exact nI_ltI (by decide) h
theorem evn_if_eq {o : Int} {t a : Nat} (hI : dxI k pc = some (.ifCond .eq o, 3)) (ht : (pc : Int) + o = (t : Int)) (h : a < 2147483648) (kt : a = 0 → Ev tb k t L S H Q) (kf : ¬ a = 0 → Ev tb k (pc + 3) L S H Q) : Ev tb k pc L (.int (nI a) :: S) H Q := ev_if_eq hI ht (fun q => kt ((nI_eq0 h).mp q)) (fun q => kf (fun z => q ((nI_eq0 h).mpr z)))
theorem evn_if_ne {o : Int} {t a : Nat} (hI : dxI k pc = some (.ifCond .ne o, 3)) (ht : (pc : Int) + o = (t : Int)) (h : a < 2147483648) (kt : ¬ a = 0 → Ev tb k t L S H Q) (kf : a = 0 → Ev tb k (pc + 3) L S H Q) : Ev tb k pc L (.int (nI a) :: S) H Q := ev_if_ne hI ht (fun q => kt (fun z => q ((nI_eq0 h).mpr z))) (fun q => kf ((nI_eq0 h).mp q))
theorem evn_if_le {o : Int} {t a : Nat} (hI : dxI k pc = some (.ifCond .le o, 3)) (ht : (pc : Int) + o = (t : Int)) (h : a < 2147483648) (kt : a = 0 → Ev tb k t L S H Q) (kf : 0 < a → Ev tb k (pc + 3) L S H Q) : Ev tb k pc L (.int (nI a) :: S) H Q := ev_if_le hI ht (fun q => kt ((nI_le0 h).mp q)) (fun q => kf (Nat.pos_of_ne_zero fun z => q ((nI_le0 h).mpr z)))
theorem evn_if_gt {o : Int} {t a : Nat} (hI : dxI k pc = some (.ifCond .gt o, 3)) (ht : (pc : Int) + o = (t : Int)) (h : a < 2147483648) (kt : 0 < a → Ev tb k t L S H Q) (kf : a = 0 → Ev tb k (pc + 3) L S H Q) : Ev tb k pc L (.int (nI a) :: S) H Q := ev_if_gt hI ht (fun q => kt ((nI_0lt h).mp q)) (fun q => kf (by rcases Nat.eq_zero_or_pos a with z | z; exact z; exact absurd ((nI_0lt h).mpr z) q))
theorem evn_if_lt {o : Int} {t a : Nat} (hI : dxI k pc = some (.ifCond .lt o, 3)) (ht : (pc : Int) + o = (t : Int)) (h : a < 2147483648) (kf : Ev tb k (pc + 3) L S H Q) : Ev tb k pc L (.int (nI a) :: S) H Q := ev_if_lt hI ht (fun q => absurd q (nI_pos h)) (fun _ => kf)
theorem evn_if_ge {o : Int} {t a : Nat} (hI : dxI k pc = some (.ifCond .ge o, 3)) (ht : (pc : Int) + o = (t : Int)) (h : a < 2147483648) (kt : Ev tb k t L S H Q) : Ev tb k pc L (.int (nI a) :: S) H Q := ev_if_ge hI ht (fun _ => kt) (fun q => absurd (nI_pos' h) q)
theorem evb_if_eq {o : Int} {t : Nat} {b : Bool} (hI : dxI k pc = some (.ifCond .eq o, 3)) (ht : (pc : Int) + o = (t : Int)) (kt : b = false → Ev tb k t L S H Q) (kf : b = true → Ev tb k (pc + 3) L S H Q) : Ev tb k pc L (.int (bI b) :: S) H Q := by
  cases b with
  | true => exact ev_if_eq hI ht (fun q => absurd q (by decide)) (fun _ => kf rfl)
  | false => exact ev_if_eq hI ht (fun _ => kt rfl) (fun q => absurd rfl q)
theorem evb_if_ne {o : Int} {t : Nat} {b : Bool} (hI : dxI k pc = some (.ifCond .ne o, 3)) (ht : (pc : Int) + o = (t : Int)) (kt : b = true → Ev tb k t L S H Q) (kf : b = false → Ev tb k (pc + 3) L S H Q) : Ev tb k pc L (.int (bI b) :: S) H Q := by
  cases b with
  | true => exact ev_if_ne hI ht (fun _ => kt rfl) (fun q => absurd q (by decide))
  | false => exact ev_if_ne hI ht (fun q => absurd rfl q) (fun _ => kf rfl)
theorem evd_if_eq {o : Int} {t : Nat} {p : Prop} {hp : Decidable p} (hI : dxI k pc = some (.ifCond .eq o, 3)) (ht : (pc : Int) + o = (t : Int)) (kt : ¬ p → Ev tb k t L S H Q) (kf : p → Ev tb k (pc + 3) L S H Q) : Ev tb k pc L (.int (bI (decide p)) :: S) H Q := evb_if_eq hI ht (fun q => kt (of_decide_eq_false q)) (fun q => kf (of_decide_eq_true q))
theorem evd_if_ne {o : Int} {t : Nat} {p : Prop} {hp : Decidable p} (hI : dxI k pc = some (.ifCond .ne o, 3)) (ht : (pc : Int) + o = (t : Int)) (kt : p → Ev tb k t L S H Q) (kf : ¬ p → Ev tb k (pc + 3) L S H Q) : Ev tb k pc L (.int (bI (decide p)) :: S) H Q := evb_if_ne hI ht (fun q => kt (of_decide_eq_true q)) (fun q => kf (of_decide_eq_false q))
theorem evn_min {ci idx : Nat} {w : Nat × Nat × Nat × Nat × Nat} {x y : Nat} (hI : dxI k pc = some (.invokestatic idx, 3)) (hc : dxCi k = ci) (hl : dxLk ci idx = some (7, w)) (hr : 1 ≤ dxFr k ∧ 21 ≤ dxLo k) (hw : dxW8 S = true) (h : x < 2147483648 ∧ y < 2147483648) (kk : Ev tb k (pc + 3) L (.int (nI (if y < x then y else x)) :: S) H Q) : Ev tb k pc L (.int (nI y) :: .int (nI x) :: S) H Q := by
  refine ev_min hI hc hl hr hw ?_
  have e1 : (if nI y < nI x then nI y else nI x) = nI (if y < x then y else x) := by
    by_cases q : y < x
    · rw [if_pos q, if_pos ((nI_ltI h.2 h.1).mpr q)]
    · rw [if_neg q, if_neg (fun z => q ((nI_ltI h.2 h.1).mp z))]
  rw [e1]
  exact kk
theorem bI_inj {b c : Bool} : bI b = bI c ↔ b = c := by cases b <;> cases c <;> decide
theorem evb_icmp_eq {o : Int} {t : Nat} {b c : Bool} (hI : dxI k pc = some (.if_icmp .eq o, 3)) (ht : (pc : Int) + o = (t : Int)) (kt : c = b → Ev tb k t L S H Q) (kf : ¬ c = b → Ev tb k (pc + 3) L S H Q) : Ev tb k pc L (.int (bI b) :: .int (bI c) :: S) H Q := ev_icmp_eq hI ht (fun q => kt (bI_inj.mp q)) (fun q => kf (fun z => q (bI_inj.mpr z)))
theorem evb_icmp_ne {o : Int} {t : Nat} {b c : Bool} (hI : dxI k pc = some (.if_icmp .ne o, 3)) (ht : (pc : Int) + o = (t : Int)) (kt : ¬ c = b → Ev tb k t L S H Q) (kf : c = b → Ev tb k (pc + 3) L S H Q) : Ev tb k pc L (.int (bI b) :: .int (bI c) :: S) H Q := ev_icmp_ne hI ht (fun q => kt (fun z => q (bI_inj.mpr z))) (fun q => kf (bI_inj.mp q))
/-- an array of truth values -/
def updB (f : Nat → Bool) (k : Nat) (x : Bool) : Nat → Bool := fun j => if j = k then x else f j
abbrev ZA (n : Nat) (f : Nat → Bool) : dxE := .inl (1, n, .inl (fun q => bI (f q)))
theorem bI_upd (f : Nat → Bool) (k : Nat) (x : Bool) : upd (fun q => bI (f q)) k (bI x) = fun q => bI (updB f k x q) := by
  funext j
  unfold upd updB
  by_cases h : j = k
  · rw [if_pos h, if_pos h]
  · rw [if_neg h, if_neg h]
theorem bI_nar0 (b : Bool) : vp_nar .boolean (bI b) = bI b := by cases b <;> decide
theorem evz_bald {a m j : Nat} {f : Nat → Bool} (hI : dxI k pc = some (.baload, 1)) (ho : H[a]? = some (ZA m f)) (hj : j < m ∧ m < 2147483648) (kk : Ev tb k (pc + 1) L (.int (bI (f j)) :: S) H Q) : Ev tb k pc L (.int (nI j) :: .ref a :: S) H Q := by
  refine ev_bald hI ho (dxIn_n hj) ?_
  rw [nI_clamp (Nat.lt_trans hj.1 hj.2)]
  exact kk
theorem evz_bast {a m j : Nat} {y : Bool} {f : Nat → Bool} (hI : dxI k pc = some (.bastore, 1)) (ho : H[a]? = some (ZA m f)) (hj : j < m ∧ m < 2147483648) (kk : ∀ H1, H1 = H.set a (ZA m (updB f j y)) → Ev tb k (pc + 1) L S H1 Q) : Ev tb k pc L (.int (bI y) :: .int (nI j) :: .ref a :: S) H Q := by
  refine ev_bast hI ho (dxIn_n hj) (bI_nar0 y) ?_
  rw [nI_clamp (Nat.lt_trans hj.1 hj.2), bI_upd]
  exact kk _ rfl
theorem evz_bastt {a m j : Nat} {f : Nat → Bool} (hI : dxI k pc = some (.bastore, 1)) (ho : H[a]? = some (ZA m f)) (hj : j < m ∧ m < 2147483648) (kk : ∀ H1, H1 = H.set a (ZA m (updB f j true)) → Ev tb k (pc + 1) L S H1 Q) : Ev tb k pc L (.int (nI 1) :: .int (nI j) :: .ref a :: S) H Q := by
  rw [← bI_t]
  exact evz_bast hI ho hj kk
theorem evz_bastf {a m j : Nat} {f : Nat → Bool} (hI : dxI k pc = some (.bastore, 1)) (ho : H[a]? = some (ZA m f)) (hj : j < m ∧ m < 2147483648) (kk : ∀ H1, H1 = H.set a (ZA m (updB f j false)) → Ev tb k (pc + 1) L S H1 Q) : Ev tb k pc L (.int (nI 0) :: .int (nI j) :: .ref a :: S) H Q := by
  rw [← bI_f]
  exact evz_bast hI ho hj kk
theorem evs_iast {a m : Nat} {x y : Int32} {f : Nat → Int32} (hI : dxI k pc = some (.iastore, 1)) (ho : H[a]? = some (.inl (0, m, .inl f))) (hin : dxIn x m = true) (kk : ∀ H1, H1 = H.set a (.inl (0, m, .inl (upd f x.toNatClampNeg y))) → Ev tb k (pc + 1) L S H1 Q) : Ev tb k pc L (.int y :: .int x :: .ref a :: S) H Q := ev_iast hI ho hin (kk _ rfl)
theorem evs_bast {a m : Nat} {x y : Int32} {f : Nat → Int32} (hI : dxI k pc = some (.bastore, 1)) (ho : H[a]? = some (.inl (1, m, .inl f))) (hin : dxIn x m = true) (hy : vp_nar .boolean y = y) (kk : ∀ H1, H1 = H.set a (.inl (1, m, .inl (upd f x.toNatClampNeg y))) → Ev tb k (pc + 1) L S H1 Q) : Ev tb k pc L (.int y :: .int x :: .ref a :: S) H Q := ev_bast hI ho hin hy (kk _ rfl)
theorem evs_put {ci idx c j w a : Nat} {fs fs' : List Value} {v : Value} (hI : dxI k pc = some (.putfield idx, 3)) (hc : dxCi k = ci) (hf : dxF ci idx = some (c, j, w)) (ho : H[a]? = some (.inr (c, fs))) (hg : j < fs.length ∧ dxFit (dxTyp c j) v = true ∧ (((dxCl c).2.1 j).2.2.2 = false ∨ ((dxY k).name = "<init>" ∧ c = dxCi k))) (hs : fs.set j v = fs') (kk : ∀ H1, H1 = H.set a (.inr (c, fs')) → Ev tb k (pc + 3) L S H1 Q) : Ev tb k pc L (v :: .ref a :: S) H Q := ev_put hI hc hf ho hg hs (kk _ rfl)
/-- an array of numbers -/
def updN (f : Nat → Nat) (k x : Nat) : Nat → Nat := fun j => if j = k then x else f j
theorem nI_upd (f : Nat → Nat) (k x : Nat) : upd (fun q => nI (f q)) k (nI x) = fun q => nI (updN f k x q) := by
  funext j
  unfold upd updN
  by_cases h : j = k
  · rw [if_pos h, if_pos h]
  · rw [if_neg h, if_neg h]
abbrev IA (n : Nat) (f : Nat → Nat) : dxE := .inl (0, n, .inl (fun q => nI (f q)))
theorem evs_iastn {a m j y : Nat} {f : Nat → Nat} (hI : dxI k pc = some (.iastore, 1)) (ho : H[a]? = some (IA m f)) (hj : j < m ∧ m < 2147483648) (kk : ∀ H1, H1 = H.set a (IA m (updN f j y)) → Ev tb k (pc + 1) L S H1 Q) : Ev tb k pc L (.int (nI y) :: .int (nI j) :: .ref a :: S) H Q := by
  refine evs_iast hI ho (dxIn_n hj) fun H1 h => kk H1 ?_
  rw [h, nI_clamp (Nat.lt_trans hj.1 hj.2), nI_upd]
theorem evs_iastw {a m j : Nat} {y : Int32} {f : Nat → Int32} (hI : dxI k pc = some (.iastore, 1)) (ho : H[a]? = some (.inl (0, m, .inl f))) (hj : j < m ∧ m < 2147483648) (kk : ∀ H1, H1 = H.set a (.inl (0, m, .inl (upd f j y))) → Ev tb k (pc + 1) L S H1 Q) : Ev tb k pc L (.int y :: .int (nI j) :: .ref a :: S) H Q := by
  refine evs_iast hI ho (dxIn_n hj) fun H1 h => kk H1 ?_
  rw [h, nI_clamp (Nat.lt_trans hj.1 hj.2)]
end EVN
theorem dxFit_b (b : Bool) : dxFit .boolean (.int (bI b)) = true := by cases b <;> rfl
theorem bI_nar (b : Bool) : vp_nar .boolean (bI b) = bI b := by cases b <;> decide
theorem zt {X : Bool} (h : X = true) : some (Value.int (nI 1)) = some (Value.int (bI X)) := by rw [h, bI_t]
theorem zf {X : Bool} (h : X = false) : some (Value.int (nI 0)) = some (Value.int (bI X)) := by rw [h, bI_f]
/-- an answer, nothing changed -/
def Rt (v : Value) (H : dxH) : Option Value → dxH → Prop := fun r H' => r = some v ∧ H = H'
theorem bit10 : ∀ a, a < 1024 → ∀ k, k < 10 → (nI a >>> (nI k &&& 31)) &&& nI 1 = bI (a.testBit k) := by decide +kernel
theorem bI_eq1 {b : Bool} : bI b = nI 1 ↔ b = true := by cases b <;> decide
theorem bit_out {a m k : Nat} (h : a < 2 ^ m) (hk : m ≤ k) : a.testBit k = false := Nat.testBit_lt_two_pow (Nat.lt_of_lt_of_le h (Nat.pow_le_pow_right (by decide) hk))
theorem nI_inj {a b : Nat} (ha : a < 2147483648) (hb : b < 2147483648) (h : nI a = nI b) : a = b := (nI_eq ha hb).mp h
/-- d rounds from j on -/
def upto {α : Type} (f : Nat → α → α) : Nat → Nat → α → α
  | 0, _, x => x
  | d + 1, j, x => upto f d (j + 1) (f j x)
