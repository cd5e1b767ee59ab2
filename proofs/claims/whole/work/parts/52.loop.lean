/-! the law's loop  -/
theorem lg_self (x : Int64) : lg_cmp x x = 0 := by
  rcases Classical.em (lg_cmp x x = 0) with h | h
  · exact h
  · exfalso
    have h1 := @lg_cmp_lt x x
    have h2 := @lg_cmp_gt x x
    have h3 : ¬ x < x := fun q => by rw [Int64.lt_iff_toInt_lt] at q; omega
    have n1 : ¬ lg_cmp x x < 0 := fun q => h3 (h1.mp q)
    have n2 : ¬ 0 < lg_cmp x x := fun q => h3 (h2.mp q)
    rw [Int32.lt_iff_toInt_lt] at n1 n2
    exact h (Int32.toInt_inj.mp (by
      have e0 : (0 : Int32).toInt = 0 := rfl
      rw [e0] at n1 n2 ⊢
      omega))
theorem and31 (x : Int32) : ∃ c : Nat, c < 32 ∧ x &&& nI 31 = nI c := by
  have hb : (x &&& nI 31).toBitVec = x.toBitVec &&& 31#32 := rfl
  have h1 : (x.toBitVec &&& 31#32).toNat < 32 := by
    rw [BitVec.toNat_and]
    exact Nat.lt_of_le_of_lt Nat.and_le_right (by decide)
  refine ⟨(x.toBitVec &&& 31#32).toNat, h1, ?_⟩
  apply Int32.toBitVec_inj.mp
  rw [hb]
  apply BitVec.eq_of_toNat_eq
  have h2 : (nI (x.toBitVec &&& 31#32).toNat).toBitVec = BitVec.ofNat 32 (x.toBitVec &&& 31#32).toNat := rfl
  rw [h2, BitVec.toNat_ofNat]
  omega
theorem len5 {L i : Nat} (hL : L < 1000) (hi : i < 1000) : nI L - nI 5 < nI i ↔ L < i + 5 := by
  rw [Int32.lt_iff_toInt_lt, nI_toInt (by omega), Int32.toInt_sub, nI_toInt (by omega), nI_toInt (by omega)]
  rw [Int.bmod_eq_of_le_mul_two (by omega) (by omega)]
  omega
theorem lw_164 {tb : dxT} {L : Nat} {xs : Nat → Int32} (h4 : tb 4 = (L, xs)) (hTb : tbOK tb) (hL : L ≤ 320) {i : Nat} {H : dxH} {Q : Option Value → dxH → Prop} (hi : i + 5 ≤ L) (hG : Good H) (hQ : ∀ H2, Good H2 → H2.length = H.length → Ev tb 173 1058 [some (.float 4), some (.ref 0), some (.ref 111), some (.int (nI i))] [] H2 Q) : Ev tb 173 164 [some (.float 4), some (.ref 0), some (.ref 111), some (.int (nI i))] [] H Q := by
  obtain ⟨gf, g0⟩ : ∃ fs, H[0]? = some (.inr (7, fs)) := by
    obtain ⟨_, _, _, _, _, _, _, _, _, _, _, _, _, _, sed, hC, _⟩ := id hG
    exact ⟨_, hC.1⟩
  obtain ⟨v, hp⟩ := pr_write (tb := tb) (xs (i + 1)) hG
  refine ev_aload_n i173_164 rfl ?_
  refine ev_aloadT_n i173_165 rfl ?_
  refine ev_iload_n i173_166 rfl ?_
  refine ev_iconst (v := nI 1) i173_167 (by decide) ?_
  refine evn_iadd i173_168 ?_
  refine ev_tald i173_169 (by decide) h4 (dxIn_n (by omega)) ?_
  rw [nI_clamp (by omega)]
  refine ev_callV (vs := [.int (xs (i + 1))]) (rest := []) i173_170 ci173 lk9_13 (congrArg (fun q => q + 1) np67) ci67 (by decide) (by decide +kernel) (Nat.le_of_ble_eq_true rfl) ⟨rfl, rfl, Nat.le_of_ble_eq_true rfl⟩ rfl (by assumption) (hp) (fun r H1 hq => ?_)
  obtain ⟨rfl, ⟨fs, c1⟩, hp2⟩ := hq
  show Ev tb 173 173 [some (.float 4), some (.ref 0), some (.ref 111), some (.int (nI i))] [.int v] H1 _
  refine ev_aload_n i173_173 rfl ?_
  refine ev_aloadT_n i173_174 rfl ?_
  refine ev_iload_n i173_175 rfl ?_
  refine ev_iconst (v := nI 1) i173_176 (by decide) ?_
  refine evn_iadd i173_177 ?_
  refine ev_tald i173_178 (by decide) h4 (dxIn_n (by omega)) ?_
  rw [nI_clamp (by omega)]
  refine ev_callV (vs := [.int (xs (i + 1))]) (rest := [.int v]) i173_179 ci173 lk9_17 (congrArg (fun q => q + 1) np120) ci120 (by decide) (by decide +kernel) (Nat.le_of_ble_eq_true rfl) ⟨rfl, rfl, Nat.le_of_ble_eq_true rfl⟩ rfl (by assumption) (hp2) (fun r H2 hq => ?_)
  obtain ⟨rfl, hG2, hl2⟩ := hq
  show Ev tb 173 182 [some (.float 4), some (.ref 0), some (.ref 111), some (.int (nI i))] [.int v, .int v] H2 _
  refine ev_icmp_eq (t := 1058) i173_182 (by decide) (fun z182 => ?_) (fun z182 => by exfalso; exact z182 rfl)
  exact hQ H2 hG2 hl2
theorem lw_187 {tb : dxT} {L : Nat} {xs : Nat → Int32} (h4 : tb 4 = (L, xs)) (hTb : tbOK tb) (hL : L ≤ 320) {i : Nat} {H : dxH} {Q : Option Value → dxH → Prop} (hi : i + 5 ≤ L) (hG : Good H) (hQ : ∀ H2, Good H2 → H2.length = H.length → Ev tb 173 1058 [some (.float 4), some (.ref 0), some (.ref 111), some (.int (nI i))] [] H2 Q) : Ev tb 173 187 [some (.float 4), some (.ref 0), some (.ref 111), some (.int (nI i))] [] H Q := by
  obtain ⟨gf, g0⟩ : ∃ fs, H[0]? = some (.inr (7, fs)) := by
    obtain ⟨_, _, _, _, _, _, _, _, _, _, _, _, _, _, sed, hC, _⟩ := id hG
    exact ⟨_, hC.1⟩
  obtain ⟨v, hp⟩ := pr_wipe (tb := tb)  hG
  refine ev_aload_n i173_187 rfl ?_
  refine ev_callV (vs := []) (rest := []) i173_188 ci173 lk9_18 (congrArg (fun q => q + 1) np68) ci68 (by decide) (by decide +kernel) (Nat.le_of_ble_eq_true rfl) ⟨rfl, rfl, Nat.le_of_ble_eq_true rfl⟩ rfl (by assumption) (hp) (fun r H1 hq => ?_)
  obtain ⟨rfl, ⟨fs, c1⟩, hp2⟩ := hq
  show Ev tb 173 191 [some (.float 4), some (.ref 0), some (.ref 111), some (.int (nI i))] [.int v] H1 _
  refine ev_aload_n i173_191 rfl ?_
  refine ev_callV (vs := []) (rest := [.int v]) i173_192 ci173 lk9_22 (congrArg (fun q => q + 1) np121) ci121 (by decide) (by decide +kernel) (Nat.le_of_ble_eq_true rfl) ⟨rfl, rfl, Nat.le_of_ble_eq_true rfl⟩ rfl (by assumption) (hp2) (fun r H2 hq => ?_)
  obtain ⟨rfl, hG2, hl2⟩ := hq
  show Ev tb 173 195 [some (.float 4), some (.ref 0), some (.ref 111), some (.int (nI i))] [.int v, .int v] H2 _
  refine ev_icmp_eq (t := 1058) i173_195 (by decide) (fun z195 => ?_) (fun z195 => by exfalso; exact z195 rfl)
  exact hQ H2 hG2 hl2
theorem lw_200 {tb : dxT} {L : Nat} {xs : Nat → Int32} (h4 : tb 4 = (L, xs)) (hTb : tbOK tb) (hL : L ≤ 320) {i : Nat} {H : dxH} {Q : Option Value → dxH → Prop} (hi : i + 5 ≤ L) (hG : Good H) (hQ : ∀ H2, Good H2 → H2.length = H.length → Ev tb 173 1058 [some (.float 4), some (.ref 0), some (.ref 111), some (.int (nI i))] [] H2 Q) : Ev tb 173 200 [some (.float 4), some (.ref 0), some (.ref 111), some (.int (nI i))] [] H Q := by
  obtain ⟨gf, g0⟩ : ∃ fs, H[0]? = some (.inr (7, fs)) := by
    obtain ⟨_, _, _, _, _, _, _, _, _, _, _, _, _, _, sed, hC, _⟩ := id hG
    exact ⟨_, hC.1⟩
  obtain ⟨v, hp⟩ := pr_fault (tb := tb)  hTb hG
  refine ev_aload_n i173_200 rfl ?_
  refine ev_callV (vs := []) (rest := []) i173_201 ci173 lk9_23 (congrArg (fun q => q + 1) np69) ci69 (by decide) (by decide +kernel) (Nat.le_of_ble_eq_true rfl) ⟨rfl, rfl, Nat.le_of_ble_eq_true rfl⟩ rfl (by assumption) (hp) (fun r H1 hq => ?_)
  obtain ⟨rfl, ⟨fs, c1⟩, hp2⟩ := hq
  show Ev tb 173 204 [some (.float 4), some (.ref 0), some (.ref 111), some (.int (nI i))] [.int v] H1 _
  refine ev_aload_n i173_204 rfl ?_
  refine ev_callV (vs := []) (rest := [.int v]) i173_205 ci173 lk9_26 (congrArg (fun q => q + 1) np126) ci126 (by decide) (by decide +kernel) (Nat.le_of_ble_eq_true rfl) ⟨rfl, rfl, Nat.le_of_ble_eq_true rfl⟩ rfl (by assumption) (hp2) (fun r H2 hq => ?_)
  obtain ⟨rfl, hG2, hl2⟩ := hq
  show Ev tb 173 208 [some (.float 4), some (.ref 0), some (.ref 111), some (.int (nI i))] [.int v, .int v] H2 _
  refine ev_icmp_eq (t := 1058) i173_208 (by decide) (fun z208 => ?_) (fun z208 => by exfalso; exact z208 rfl)
  exact hQ H2 hG2 hl2
theorem lw_213 {tb : dxT} {L : Nat} {xs : Nat → Int32} (h4 : tb 4 = (L, xs)) (hTb : tbOK tb) (hL : L ≤ 320) {i : Nat} {H : dxH} {Q : Option Value → dxH → Prop} (hi : i + 5 ≤ L) (hG : Good H) (hQ : ∀ H2, Good H2 → H2.length = H.length → Ev tb 173 1058 [some (.float 4), some (.ref 0), some (.ref 111), some (.int (nI i))] [] H2 Q) : Ev tb 173 213 [some (.float 4), some (.ref 0), some (.ref 111), some (.int (nI i))] [] H Q := by
  obtain ⟨gf, g0⟩ : ∃ fs, H[0]? = some (.inr (7, fs)) := by
    obtain ⟨_, _, _, _, _, _, _, _, _, _, _, _, _, _, sed, hC, _⟩ := id hG
    exact ⟨_, hC.1⟩
  obtain ⟨v, hp⟩ := pr_pass (tb := tb)  hTb hG
  refine ev_aload_n i173_213 rfl ?_
  refine ev_callV (vs := []) (rest := []) i173_214 ci173 lk9_27 (congrArg (fun q => q + 1) np70) ci70 (by decide) (by decide +kernel) (Nat.le_of_ble_eq_true rfl) ⟨rfl, rfl, Nat.le_of_ble_eq_true rfl⟩ rfl (by assumption) (hp) (fun r H1 hq => ?_)
  obtain ⟨rfl, ⟨fs, c1⟩, hp2⟩ := hq
  show Ev tb 173 217 [some (.float 4), some (.ref 0), some (.ref 111), some (.int (nI i))] [.int v] H1 _
  refine ev_aload_n i173_217 rfl ?_
  refine ev_callV (vs := []) (rest := [.int v]) i173_218 ci173 lk9_30 (congrArg (fun q => q + 1) np127) ci127 (by decide) (by decide +kernel) (Nat.le_of_ble_eq_true rfl) ⟨rfl, rfl, Nat.le_of_ble_eq_true rfl⟩ rfl (by assumption) (hp2) (fun r H2 hq => ?_)
  obtain ⟨rfl, hG2, hl2⟩ := hq
  show Ev tb 173 221 [some (.float 4), some (.ref 0), some (.ref 111), some (.int (nI i))] [.int v, .int v] H2 _
  refine ev_icmp_eq (t := 1058) i173_221 (by decide) (fun z221 => ?_) (fun z221 => by exfalso; exact z221 rfl)
  exact hQ H2 hG2 hl2
theorem lw_226 {tb : dxT} {L : Nat} {xs : Nat → Int32} (h4 : tb 4 = (L, xs)) (hTb : tbOK tb) (hL : L ≤ 320) {i : Nat} {H : dxH} {Q : Option Value → dxH → Prop} (hi : i + 5 ≤ L) (hG : Good H) (hQ : ∀ H2, Good H2 → H2.length = H.length → Ev tb 173 1058 [some (.float 4), some (.ref 0), some (.ref 111), some (.int (nI i))] [] H2 Q) : Ev tb 173 226 [some (.float 4), some (.ref 0), some (.ref 111), some (.int (nI i))] [] H Q := by
  obtain ⟨gf, g0⟩ : ∃ fs, H[0]? = some (.inr (7, fs)) := by
    obtain ⟨_, _, _, _, _, _, _, _, _, _, _, _, _, _, sed, hC, _⟩ := id hG
    exact ⟨_, hC.1⟩
  obtain ⟨v, hp⟩ := pr_clover (tb := tb) (xs (i + 1)) hG
  refine ev_aload_n i173_226 rfl ?_
  refine ev_aloadT_n i173_227 rfl ?_
  refine ev_iload_n i173_228 rfl ?_
  refine ev_iconst (v := nI 1) i173_229 (by decide) ?_
  refine evn_iadd i173_230 ?_
  refine ev_tald i173_231 (by decide) h4 (dxIn_n (by omega)) ?_
  rw [nI_clamp (by omega)]
  refine ev_callV (vs := [.int (xs (i + 1))]) (rest := []) i173_232 ci173 lk9_31 (congrArg (fun q => q + 1) np71) ci71 (by decide) (by decide +kernel) (Nat.le_of_ble_eq_true rfl) ⟨rfl, rfl, Nat.le_of_ble_eq_true rfl⟩ rfl (by assumption) (hp) (fun r H1 hq => ?_)
  obtain ⟨rfl, ⟨fs, c1⟩, hp2⟩ := hq
  show Ev tb 173 235 [some (.float 4), some (.ref 0), some (.ref 111), some (.int (nI i))] [.int v] H1 _
  refine ev_aload_n i173_235 rfl ?_
  refine ev_aloadT_n i173_236 rfl ?_
  refine ev_iload_n i173_237 rfl ?_
  refine ev_iconst (v := nI 1) i173_238 (by decide) ?_
  refine evn_iadd i173_239 ?_
  refine ev_tald i173_240 (by decide) h4 (dxIn_n (by omega)) ?_
  rw [nI_clamp (by omega)]
  refine ev_callV (vs := [.int (xs (i + 1))]) (rest := [.int v]) i173_241 ci173 lk9_34 (congrArg (fun q => q + 1) np129) ci129 (by decide) (by decide +kernel) (Nat.le_of_ble_eq_true rfl) ⟨rfl, rfl, Nat.le_of_ble_eq_true rfl⟩ rfl (by assumption) (hp2) (fun r H2 hq => ?_)
  obtain ⟨rfl, hG2, hl2⟩ := hq
  show Ev tb 173 244 [some (.float 4), some (.ref 0), some (.ref 111), some (.int (nI i))] [.int v, .int v] H2 _
  refine ev_icmp_eq (t := 1058) i173_244 (by decide) (fun z244 => ?_) (fun z244 => by exfalso; exact z244 rfl)
  exact hQ H2 hG2 hl2
theorem lw_249 {tb : dxT} {L : Nat} {xs : Nat → Int32} (h4 : tb 4 = (L, xs)) (hTb : tbOK tb) (hL : L ≤ 320) {i : Nat} {H : dxH} {Q : Option Value → dxH → Prop} (hi : i + 5 ≤ L) (hG : Good H) (hQ : ∀ H2, Good H2 → H2.length = H.length → Ev tb 173 1058 [some (.float 4), some (.ref 0), some (.ref 111), some (.int (nI i))] [] H2 Q) : Ev tb 173 249 [some (.float 4), some (.ref 0), some (.ref 111), some (.int (nI i))] [] H Q := by
  obtain ⟨gf, g0⟩ : ∃ fs, H[0]? = some (.inr (7, fs)) := by
    obtain ⟨_, _, _, _, _, _, _, _, _, _, _, _, _, _, sed, hC, _⟩ := id hG
    exact ⟨_, hC.1⟩
  obtain ⟨v, hp⟩ := pr_cow (tb := tb) (xs (i + 1)) (xs (i + 2)) hG
  refine ev_aload_n i173_249 rfl ?_
  refine ev_aloadT_n i173_250 rfl ?_
  refine ev_iload_n i173_251 rfl ?_
  refine ev_iconst (v := nI 1) i173_252 (by decide) ?_
  refine evn_iadd i173_253 ?_
  refine ev_tald i173_254 (by decide) h4 (dxIn_n (by omega)) ?_
  rw [nI_clamp (by omega)]
  refine ev_aloadT_n i173_255 rfl ?_
  refine ev_iload_n i173_256 rfl ?_
  refine ev_iconst (v := nI 2) i173_257 (by decide) ?_
  refine evn_iadd i173_258 ?_
  refine ev_tald i173_259 (by decide) h4 (dxIn_n (by omega)) ?_
  rw [nI_clamp (by omega)]
  refine ev_callV (vs := [.int (xs (i + 1)), .int (xs (i + 2))]) (rest := []) i173_260 ci173 lk9_35 (congrArg (fun q => q + 1) np72) ci72 (by decide) (by decide +kernel) (Nat.le_of_ble_eq_true rfl) ⟨rfl, rfl, Nat.le_of_ble_eq_true rfl⟩ rfl (by assumption) (hp) (fun r H1 hq => ?_)
  obtain ⟨rfl, ⟨fs, c1⟩, hp2⟩ := hq
  show Ev tb 173 263 [some (.float 4), some (.ref 0), some (.ref 111), some (.int (nI i))] [.int v] H1 _
  refine ev_aload_n i173_263 rfl ?_
  refine ev_aloadT_n i173_264 rfl ?_
  refine ev_iload_n i173_265 rfl ?_
  refine ev_iconst (v := nI 1) i173_266 (by decide) ?_
  refine evn_iadd i173_267 ?_
  refine ev_tald i173_268 (by decide) h4 (dxIn_n (by omega)) ?_
  rw [nI_clamp (by omega)]
  refine ev_aloadT_n i173_269 rfl ?_
  refine ev_iload_n i173_270 rfl ?_
  refine ev_iconst (v := nI 2) i173_271 (by decide) ?_
  refine evn_iadd i173_272 ?_
  refine ev_tald i173_273 (by decide) h4 (dxIn_n (by omega)) ?_
  rw [nI_clamp (by omega)]
  refine ev_callV (vs := [.int (xs (i + 1)), .int (xs (i + 2))]) (rest := [.int v]) i173_274 ci173 lk9_39 (congrArg (fun q => q + 1) np131) ci131 (by decide) (by decide +kernel) (Nat.le_of_ble_eq_true rfl) ⟨rfl, rfl, Nat.le_of_ble_eq_true rfl⟩ rfl (by assumption) (hp2) (fun r H2 hq => ?_)
  obtain ⟨rfl, hG2, hl2⟩ := hq
  show Ev tb 173 277 [some (.float 4), some (.ref 0), some (.ref 111), some (.int (nI i))] [.int v, .int v] H2 _
  refine ev_icmp_eq (t := 1058) i173_277 (by decide) (fun z277 => ?_) (fun z277 => by exfalso; exact z277 rfl)
  exact hQ H2 hG2 hl2
theorem lw_282 {tb : dxT} {L : Nat} {xs : Nat → Int32} (h4 : tb 4 = (L, xs)) (hTb : tbOK tb) (hL : L ≤ 320) {i : Nat} {H : dxH} {Q : Option Value → dxH → Prop} (hi : i + 5 ≤ L) (hG : Good H) (hQ : ∀ H2, Good H2 → H2.length = H.length → Ev tb 173 1058 [some (.float 4), some (.ref 0), some (.ref 111), some (.int (nI i))] [] H2 Q) : Ev tb 173 282 [some (.float 4), some (.ref 0), some (.ref 111), some (.int (nI i))] [] H Q := by
  obtain ⟨gf, g0⟩ : ∃ fs, H[0]? = some (.inr (7, fs)) := by
    obtain ⟨_, _, _, _, _, _, _, _, _, _, _, _, _, _, sed, hC, _⟩ := id hG
    exact ⟨_, hC.1⟩
  by_cases hb : xs (i + 1) = 0
  · obtain ⟨v, hp⟩ := pr_hour (tb := tb) (false) hG
    refine ev_aload_n i173_282 rfl ?_
    refine ev_aloadT_n i173_283 rfl ?_
    refine ev_iload_n i173_284 rfl ?_
    refine ev_iconst (v := nI 1) i173_285 (by decide) ?_
    refine evn_iadd i173_286 ?_
    refine ev_tald i173_287 (by decide) h4 (dxIn_n (by omega)) ?_
    rw [nI_clamp (by omega)]
    refine ev_if_eq (t := 295) i173_288 (by decide) (fun z288 => ?_) (fun z288 => by exfalso; exact z288 hb)
    refine ev_iconst (v := nI 0) i173_295 (by decide) ?_
    refine ev_callV (vs := [.int (nI 0)]) (rest := []) i173_296 ci173 lk9_40 (congrArg (fun q => q + 1) np73) ci73 (by decide) (by decide +kernel) (Nat.le_of_ble_eq_true rfl) ⟨rfl, rfl, Nat.le_of_ble_eq_true rfl⟩ rfl (by assumption) (hp) (fun r H1 hq => ?_)
    obtain ⟨rfl, ⟨fs, c1⟩, hp2⟩ := hq
    show Ev tb 173 299 [some (.float 4), some (.ref 0), some (.ref 111), some (.int (nI i))] [.int v] H1 _
    refine ev_aload_n i173_299 rfl ?_
    refine ev_aloadT_n i173_300 rfl ?_
    refine ev_iload_n i173_301 rfl ?_
    refine ev_iconst (v := nI 1) i173_302 (by decide) ?_
    refine evn_iadd i173_303 ?_
    refine ev_tald i173_304 (by decide) h4 (dxIn_n (by omega)) ?_
    rw [nI_clamp (by omega)]
    refine ev_if_eq (t := 312) i173_305 (by decide) (fun z305 => ?_) (fun z305 => by exfalso; exact z305 hb)
    refine ev_iconst (v := nI 0) i173_312 (by decide) ?_
    refine ev_callV (vs := [.int (nI 0)]) (rest := [.int v]) i173_313 ci173 lk9_44 (congrArg (fun q => q + 1) np137) ci137 (by decide) (by decide +kernel) (Nat.le_of_ble_eq_true rfl) ⟨rfl, rfl, Nat.le_of_ble_eq_true rfl⟩ rfl (by assumption) (hp2) (fun r H2 hq => ?_)
    obtain ⟨rfl, hG2, hl2⟩ := hq
    show Ev tb 173 316 [some (.float 4), some (.ref 0), some (.ref 111), some (.int (nI i))] [.int v, .int v] H2 _
    refine ev_icmp_eq (t := 1058) i173_316 (by decide) (fun z316 => ?_) (fun z316 => by exfalso; exact z316 rfl)
    exact hQ H2 hG2 hl2
  · obtain ⟨v, hp⟩ := pr_hour (tb := tb) (true) hG
    refine ev_aload_n i173_282 rfl ?_
    refine ev_aloadT_n i173_283 rfl ?_
    refine ev_iload_n i173_284 rfl ?_
    refine ev_iconst (v := nI 1) i173_285 (by decide) ?_
    refine evn_iadd i173_286 ?_
    refine ev_tald i173_287 (by decide) h4 (dxIn_n (by omega)) ?_
    rw [nI_clamp (by omega)]
    refine ev_if_eq (t := 295) i173_288 (by decide) (fun z288 => by exfalso; exact hb z288) (fun z288 => ?_)
    refine ev_iconst (v := nI 1) i173_291 (by decide) ?_
    refine ev_goto (t := 296) i173_292 (by decide) ?_
    refine ev_callV (vs := [.int (nI 1)]) (rest := []) i173_296 ci173 lk9_40 (congrArg (fun q => q + 1) np73) ci73 (by decide) (by decide +kernel) (Nat.le_of_ble_eq_true rfl) ⟨rfl, rfl, Nat.le_of_ble_eq_true rfl⟩ rfl (by assumption) (hp) (fun r H1 hq => ?_)
    obtain ⟨rfl, ⟨fs, c1⟩, hp2⟩ := hq
    show Ev tb 173 299 [some (.float 4), some (.ref 0), some (.ref 111), some (.int (nI i))] [.int v] H1 _
    refine ev_aload_n i173_299 rfl ?_
    refine ev_aloadT_n i173_300 rfl ?_
    refine ev_iload_n i173_301 rfl ?_
    refine ev_iconst (v := nI 1) i173_302 (by decide) ?_
    refine evn_iadd i173_303 ?_
    refine ev_tald i173_304 (by decide) h4 (dxIn_n (by omega)) ?_
    rw [nI_clamp (by omega)]
    refine ev_if_eq (t := 312) i173_305 (by decide) (fun z305 => by exfalso; exact hb z305) (fun z305 => ?_)
    refine ev_iconst (v := nI 1) i173_308 (by decide) ?_
    refine ev_goto (t := 313) i173_309 (by decide) ?_
    refine ev_callV (vs := [.int (nI 1)]) (rest := [.int v]) i173_313 ci173 lk9_44 (congrArg (fun q => q + 1) np137) ci137 (by decide) (by decide +kernel) (Nat.le_of_ble_eq_true rfl) ⟨rfl, rfl, Nat.le_of_ble_eq_true rfl⟩ rfl (by assumption) (hp2) (fun r H2 hq => ?_)
    obtain ⟨rfl, hG2, hl2⟩ := hq
    show Ev tb 173 316 [some (.float 4), some (.ref 0), some (.ref 111), some (.int (nI i))] [.int v, .int v] H2 _
    refine ev_icmp_eq (t := 1058) i173_316 (by decide) (fun z316 => ?_) (fun z316 => by exfalso; exact z316 rfl)
    exact hQ H2 hG2 hl2
theorem lw_321 {tb : dxT} {L : Nat} {xs : Nat → Int32} (h4 : tb 4 = (L, xs)) (hTb : tbOK tb) (hL : L ≤ 320) {i : Nat} {H : dxH} {Q : Option Value → dxH → Prop} (hi : i + 5 ≤ L) (hG : Good H) (hQ : ∀ H2, Good H2 → H2.length = H.length → Ev tb 173 1058 [some (.float 4), some (.ref 0), some (.ref 111), some (.int (nI i))] [] H2 Q) : Ev tb 173 321 [some (.float 4), some (.ref 0), some (.ref 111), some (.int (nI i))] [] H Q := by
  obtain ⟨gf, g0⟩ : ∃ fs, H[0]? = some (.inr (7, fs)) := by
    obtain ⟨_, _, _, _, _, _, _, _, _, _, _, _, _, _, sed, hC, _⟩ := id hG
    exact ⟨_, hC.1⟩
  obtain ⟨v, hp⟩ := pr_move (tb := tb) (xs (i + 1)) (xs (i + 2)) hG
  refine ev_aload_n i173_321 rfl ?_
  refine ev_aloadT_n i173_322 rfl ?_
  refine ev_iload_n i173_323 rfl ?_
  refine ev_iconst (v := nI 1) i173_324 (by decide) ?_
  refine evn_iadd i173_325 ?_
  refine ev_tald i173_326 (by decide) h4 (dxIn_n (by omega)) ?_
  rw [nI_clamp (by omega)]
  refine ev_aloadT_n i173_327 rfl ?_
  refine ev_iload_n i173_328 rfl ?_
  refine ev_iconst (v := nI 2) i173_329 (by decide) ?_
  refine evn_iadd i173_330 ?_
  refine ev_tald i173_331 (by decide) h4 (dxIn_n (by omega)) ?_
  rw [nI_clamp (by omega)]
  refine ev_callV (vs := [.int (xs (i + 1)), .int (xs (i + 2))]) (rest := []) i173_332 ci173 lk9_45 (congrArg (fun q => q + 1) np74) ci74 (by decide) (by decide +kernel) (Nat.le_of_ble_eq_true rfl) ⟨rfl, rfl, Nat.le_of_ble_eq_true rfl⟩ rfl (by assumption) (hp) (fun r H1 hq => ?_)
  obtain ⟨rfl, ⟨fs, c1⟩, hp2⟩ := hq
  show Ev tb 173 335 [some (.float 4), some (.ref 0), some (.ref 111), some (.int (nI i))] [.int v] H1 _
  refine ev_aload_n i173_335 rfl ?_
  refine ev_aloadT_n i173_336 rfl ?_
  refine ev_iload_n i173_337 rfl ?_
  refine ev_iconst (v := nI 1) i173_338 (by decide) ?_
  refine evn_iadd i173_339 ?_
  refine ev_tald i173_340 (by decide) h4 (dxIn_n (by omega)) ?_
  rw [nI_clamp (by omega)]
  refine ev_aloadT_n i173_341 rfl ?_
  refine ev_iload_n i173_342 rfl ?_
  refine ev_iconst (v := nI 2) i173_343 (by decide) ?_
  refine evn_iadd i173_344 ?_
  refine ev_tald i173_345 (by decide) h4 (dxIn_n (by omega)) ?_
  rw [nI_clamp (by omega)]
  refine ev_callV (vs := [.int (xs (i + 1)), .int (xs (i + 2))]) (rest := [.int v]) i173_346 ci173 lk9_48 (congrArg (fun q => q + 1) np139) ci139 (by decide) (by decide +kernel) (Nat.le_of_ble_eq_true rfl) ⟨rfl, rfl, Nat.le_of_ble_eq_true rfl⟩ rfl (by assumption) (hp2) (fun r H2 hq => ?_)
  obtain ⟨rfl, hG2, hl2⟩ := hq
  show Ev tb 173 349 [some (.float 4), some (.ref 0), some (.ref 111), some (.int (nI i))] [.int v, .int v] H2 _
  refine ev_icmp_eq (t := 1058) i173_349 (by decide) (fun z349 => ?_) (fun z349 => by exfalso; exact z349 rfl)
  exact hQ H2 hG2 hl2
theorem lw_354 {tb : dxT} {L : Nat} {xs : Nat → Int32} (h4 : tb 4 = (L, xs)) (hTb : tbOK tb) (hL : L ≤ 320) {i : Nat} {H : dxH} {Q : Option Value → dxH → Prop} (hi : i + 5 ≤ L) (hG : Good H) (hQ : ∀ H2, Good H2 → H2.length = H.length → Ev tb 173 1058 [some (.float 4), some (.ref 0), some (.ref 111), some (.int (nI i))] [] H2 Q) : Ev tb 173 354 [some (.float 4), some (.ref 0), some (.ref 111), some (.int (nI i))] [] H Q := by
  obtain ⟨gf, g0⟩ : ∃ fs, H[0]? = some (.inr (7, fs)) := by
    obtain ⟨_, _, _, _, _, _, _, _, _, _, _, _, _, _, sed, hC, _⟩ := id hG
    exact ⟨_, hC.1⟩
  obtain ⟨v, hp⟩ := pr_sow (tb := tb) (xs (i + 1)) hG
  refine ev_aload_n i173_354 rfl ?_
  refine ev_aloadT_n i173_355 rfl ?_
  refine ev_iload_n i173_356 rfl ?_
  refine ev_iconst (v := nI 1) i173_357 (by decide) ?_
  refine evn_iadd i173_358 ?_
  refine ev_tald i173_359 (by decide) h4 (dxIn_n (by omega)) ?_
  rw [nI_clamp (by omega)]
  refine ev_callV (vs := [.int (xs (i + 1))]) (rest := []) i173_360 ci173 lk9_49 (congrArg (fun q => q + 1) np75) ci75 (by decide) (by decide +kernel) (Nat.le_of_ble_eq_true rfl) ⟨rfl, rfl, Nat.le_of_ble_eq_true rfl⟩ rfl (by assumption) (hp) (fun r H1 hq => ?_)
  obtain ⟨rfl, ⟨fs, c1⟩, hp2⟩ := hq
  show Ev tb 173 363 [some (.float 4), some (.ref 0), some (.ref 111), some (.int (nI i))] [.int v] H1 _
  refine ev_aload_n i173_363 rfl ?_
  refine ev_aloadT_n i173_364 rfl ?_
  refine ev_iload_n i173_365 rfl ?_
  refine ev_iconst (v := nI 1) i173_366 (by decide) ?_
  refine evn_iadd i173_367 ?_
  refine ev_tald i173_368 (by decide) h4 (dxIn_n (by omega)) ?_
  rw [nI_clamp (by omega)]
  refine ev_callV (vs := [.int (xs (i + 1))]) (rest := [.int v]) i173_369 ci173 lk9_52 (congrArg (fun q => q + 1) np140) ci140 (by decide) (by decide +kernel) (Nat.le_of_ble_eq_true rfl) ⟨rfl, rfl, Nat.le_of_ble_eq_true rfl⟩ rfl (by assumption) (hp2) (fun r H2 hq => ?_)
  obtain ⟨rfl, hG2, hl2⟩ := hq
  show Ev tb 173 372 [some (.float 4), some (.ref 0), some (.ref 111), some (.int (nI i))] [.int v, .int v] H2 _
  refine ev_icmp_eq (t := 1058) i173_372 (by decide) (fun z372 => ?_) (fun z372 => by exfalso; exact z372 rfl)
  exact hQ H2 hG2 hl2
theorem lw_377 {tb : dxT} {L : Nat} {xs : Nat → Int32} (h4 : tb 4 = (L, xs)) (hTb : tbOK tb) (hL : L ≤ 320) {i : Nat} {H : dxH} {Q : Option Value → dxH → Prop} (hi : i + 5 ≤ L) (hG : Good H) (hQ : ∀ H2, Good H2 → H2.length = H.length → Ev tb 173 1058 [some (.float 4), some (.ref 0), some (.ref 111), some (.int (nI i))] [] H2 Q) : Ev tb 173 377 [some (.float 4), some (.ref 0), some (.ref 111), some (.int (nI i))] [] H Q := by
  obtain ⟨gf, g0⟩ : ∃ fs, H[0]? = some (.inr (7, fs)) := by
    obtain ⟨_, _, _, _, _, _, _, _, _, _, _, _, _, _, sed, hC, _⟩ := id hG
    exact ⟨_, hC.1⟩
  obtain ⟨v, hp⟩ := pr_snow (tb := tb)  hG
  refine ev_aload_n i173_377 rfl ?_
  refine ev_callV (vs := []) (rest := []) i173_378 ci173 lk9_53 (congrArg (fun q => q + 1) np76) ci76 (by decide) (by decide +kernel) (Nat.le_of_ble_eq_true rfl) ⟨rfl, rfl, Nat.le_of_ble_eq_true rfl⟩ rfl (by assumption) (hp) (fun r H1 hq => ?_)
  obtain ⟨rfl, ⟨fs, c1⟩, hp2⟩ := hq
  show Ev tb 173 381 [some (.float 4), some (.ref 0), some (.ref 111), some (.int (nI i))] [.int v] H1 _
  refine ev_aload_n i173_381 rfl ?_
  refine ev_callV (vs := []) (rest := [.int v]) i173_382 ci173 lk9_56 (congrArg (fun q => q + 1) np141) ci141 (by decide) (by decide +kernel) (Nat.le_of_ble_eq_true rfl) ⟨rfl, rfl, Nat.le_of_ble_eq_true rfl⟩ rfl (by assumption) (hp2) (fun r H2 hq => ?_)
  obtain ⟨rfl, hG2, hl2⟩ := hq
  show Ev tb 173 385 [some (.float 4), some (.ref 0), some (.ref 111), some (.int (nI i))] [.int v, .int v] H2 _
  refine ev_icmp_eq (t := 1058) i173_385 (by decide) (fun z385 => ?_) (fun z385 => by exfalso; exact z385 rfl)
  exact hQ H2 hG2 hl2
theorem lw_390 {tb : dxT} {L : Nat} {xs : Nat → Int32} (h4 : tb 4 = (L, xs)) (hTb : tbOK tb) (hL : L ≤ 320) {i : Nat} {H : dxH} {Q : Option Value → dxH → Prop} (hi : i + 5 ≤ L) (hG : Good H) (hQ : ∀ H2, Good H2 → H2.length = H.length → Ev tb 173 1058 [some (.float 4), some (.ref 0), some (.ref 111), some (.int (nI i))] [] H2 Q) : Ev tb 173 390 [some (.float 4), some (.ref 0), some (.ref 111), some (.int (nI i))] [] H Q := by
  obtain ⟨gf, g0⟩ : ∃ fs, H[0]? = some (.inr (7, fs)) := by
    obtain ⟨_, _, _, _, _, _, _, _, _, _, _, _, _, _, sed, hC, _⟩ := id hG
    exact ⟨_, hC.1⟩
  obtain ⟨v, hp⟩ := pr_undo (tb := tb)  hG
  refine ev_aload_n i173_390 rfl ?_
  refine ev_callV (vs := []) (rest := []) i173_391 ci173 lk9_57 (congrArg (fun q => q + 1) np77) ci77 (by decide) (by decide +kernel) (Nat.le_of_ble_eq_true rfl) ⟨rfl, rfl, Nat.le_of_ble_eq_true rfl⟩ rfl (by assumption) (hp) (fun r H1 hq => ?_)
  obtain ⟨rfl, ⟨fs, c1⟩, hp2⟩ := hq
  show Ev tb 173 394 [some (.float 4), some (.ref 0), some (.ref 111), some (.int (nI i))] [.int v] H1 _
  refine ev_aload_n i173_394 rfl ?_
  refine ev_callV (vs := []) (rest := [.int v]) i173_395 ci173 lk9_60 (congrArg (fun q => q + 1) np142) ci142 (by decide) (by decide +kernel) (Nat.le_of_ble_eq_true rfl) ⟨rfl, rfl, Nat.le_of_ble_eq_true rfl⟩ rfl (by assumption) (hp2) (fun r H2 hq => ?_)
  obtain ⟨rfl, hG2, hl2⟩ := hq
  show Ev tb 173 398 [some (.float 4), some (.ref 0), some (.ref 111), some (.int (nI i))] [.int v, .int v] H2 _
  refine ev_icmp_eq (t := 1058) i173_398 (by decide) (fun z398 => ?_) (fun z398 => by exfalso; exact z398 rfl)
  exact hQ H2 hG2 hl2
theorem lw_403 {tb : dxT} {L : Nat} {xs : Nat → Int32} (h4 : tb 4 = (L, xs)) (hTb : tbOK tb) (hL : L ≤ 320) {i : Nat} {H : dxH} {Q : Option Value → dxH → Prop} (hi : i + 5 ≤ L) (hG : Good H) (hQ : ∀ H2, Good H2 → H2.length = H.length → Ev tb 173 1058 [some (.float 4), some (.ref 0), some (.ref 111), some (.int (nI i))] [] H2 Q) : Ev tb 173 403 [some (.float 4), some (.ref 0), some (.ref 111), some (.int (nI i))] [] H Q := by
  obtain ⟨gf, g0⟩ : ∃ fs, H[0]? = some (.inr (7, fs)) := by
    obtain ⟨_, _, _, _, _, _, _, _, _, _, _, _, _, _, sed, hC, _⟩ := id hG
    exact ⟨_, hC.1⟩
  obtain ⟨v, hp⟩ := pr_sorts (tb := tb) (xs (i + 1)) hG
  refine ev_aload_n i173_403 rfl ?_
  refine ev_aloadT_n i173_404 rfl ?_
  refine ev_iload_n i173_405 rfl ?_
  refine ev_iconst (v := nI 1) i173_406 (by decide) ?_
  refine evn_iadd i173_407 ?_
  refine ev_tald i173_408 (by decide) h4 (dxIn_n (by omega)) ?_
  rw [nI_clamp (by omega)]
  refine ev_callV (vs := [.int (xs (i + 1))]) (rest := []) i173_409 ci173 lk9_61 (congrArg (fun q => q + 1) np78) ci78 (by decide) (by decide +kernel) (Nat.le_of_ble_eq_true rfl) ⟨rfl, rfl, Nat.le_of_ble_eq_true rfl⟩ rfl (by assumption) (hp) (fun r H1 hq => ?_)
  obtain ⟨rfl, ⟨fs, c1⟩, hp2⟩ := hq
  show Ev tb 173 412 [some (.float 4), some (.ref 0), some (.ref 111), some (.int (nI i))] [.int v] H1 _
  refine ev_aload_n i173_412 rfl ?_
  refine ev_aloadT_n i173_413 rfl ?_
  refine ev_iload_n i173_414 rfl ?_
  refine ev_iconst (v := nI 1) i173_415 (by decide) ?_
  refine evn_iadd i173_416 ?_
  refine ev_tald i173_417 (by decide) h4 (dxIn_n (by omega)) ?_
  rw [nI_clamp (by omega)]
  refine ev_callV (vs := [.int (xs (i + 1))]) (rest := [.int v]) i173_418 ci173 lk9_64 (congrArg (fun q => q + 1) np144) ci144 (by decide) (by decide +kernel) (Nat.le_of_ble_eq_true rfl) ⟨rfl, rfl, Nat.le_of_ble_eq_true rfl⟩ rfl (by assumption) (hp2) (fun r H2 hq => ?_)
  obtain ⟨rfl, hG2, hl2⟩ := hq
  show Ev tb 173 421 [some (.float 4), some (.ref 0), some (.ref 111), some (.int (nI i))] [.int v, .int v] H2 _
  refine ev_icmp_eq (t := 1058) i173_421 (by decide) (fun z421 => ?_) (fun z421 => by exfalso; exact z421 rfl)
  exact hQ H2 hG2 hl2
theorem lw_426 {tb : dxT} {L : Nat} {xs : Nat → Int32} (h4 : tb 4 = (L, xs)) (hTb : tbOK tb) (hL : L ≤ 320) {i : Nat} {H : dxH} {Q : Option Value → dxH → Prop} (hi : i + 5 ≤ L) (hG : Good H) (hQ : ∀ H2, Good H2 → H2.length = H.length → Ev tb 173 1058 [some (.float 4), some (.ref 0), some (.ref 111), some (.int (nI i))] [] H2 Q) : Ev tb 173 426 [some (.float 4), some (.ref 0), some (.ref 111), some (.int (nI i))] [] H Q := by
  obtain ⟨gf, g0⟩ : ∃ fs, H[0]? = some (.inr (7, fs)) := by
    obtain ⟨_, _, _, _, _, _, _, _, _, _, _, _, _, _, sed, hC, _⟩ := id hG
    exact ⟨_, hC.1⟩
  obtain ⟨v, hp⟩ := pr_on (tb := tb) (xs (i + 1)) hG
  refine ev_aload_n i173_426 rfl ?_
  refine ev_aloadT_n i173_427 rfl ?_
  refine ev_iload_n i173_428 rfl ?_
  refine ev_iconst (v := nI 1) i173_429 (by decide) ?_
  refine evn_iadd i173_430 ?_
  refine ev_tald i173_431 (by decide) h4 (dxIn_n (by omega)) ?_
  rw [nI_clamp (by omega)]
  refine ev_callV (vs := [.int (xs (i + 1))]) (rest := []) i173_432 ci173 lk9_65 (congrArg (fun q => q + 1) np79) ci79 (by decide) (by decide +kernel) (Nat.le_of_ble_eq_true rfl) ⟨rfl, rfl, Nat.le_of_ble_eq_true rfl⟩ rfl (by assumption) (hp) (fun r H1 hq => ?_)
  obtain ⟨rfl, ⟨fs, c1⟩, hp2⟩ := hq
  show Ev tb 173 435 [some (.float 4), some (.ref 0), some (.ref 111), some (.int (nI i))] [.int v] H1 _
  refine ev_aload_n i173_435 rfl ?_
  refine ev_aloadT_n i173_436 rfl ?_
  refine ev_iload_n i173_437 rfl ?_
  refine ev_iconst (v := nI 1) i173_438 (by decide) ?_
  refine evn_iadd i173_439 ?_
  refine ev_tald i173_440 (by decide) h4 (dxIn_n (by omega)) ?_
  rw [nI_clamp (by omega)]
  refine ev_callV (vs := [.int (xs (i + 1))]) (rest := [.int v]) i173_441 ci173 lk9_68 (congrArg (fun q => q + 1) np146) ci146 (by decide) (by decide +kernel) (Nat.le_of_ble_eq_true rfl) ⟨rfl, rfl, Nat.le_of_ble_eq_true rfl⟩ rfl (by assumption) (hp2) (fun r H2 hq => ?_)
  obtain ⟨rfl, hG2, hl2⟩ := hq
  show Ev tb 173 444 [some (.float 4), some (.ref 0), some (.ref 111), some (.int (nI i))] [.int v, .int v] H2 _
  refine ev_icmp_eq (t := 1058) i173_444 (by decide) (fun z444 => ?_) (fun z444 => by exfalso; exact z444 rfl)
  exact hQ H2 hG2 hl2
theorem lw_449 {tb : dxT} {L : Nat} {xs : Nat → Int32} (h4 : tb 4 = (L, xs)) (hTb : tbOK tb) (hL : L ≤ 320) {i : Nat} {H : dxH} {Q : Option Value → dxH → Prop} (hi : i + 5 ≤ L) (hG : Good H) (hQ : ∀ H2, Good H2 → H2.length = H.length → Ev tb 173 1058 [some (.float 4), some (.ref 0), some (.ref 111), some (.int (nI i))] [] H2 Q) : Ev tb 173 449 [some (.float 4), some (.ref 0), some (.ref 111), some (.int (nI i))] [] H Q := by
  obtain ⟨gf, g0⟩ : ∃ fs, H[0]? = some (.inr (7, fs)) := by
    obtain ⟨_, _, _, _, _, _, _, _, _, _, _, _, _, _, sed, hC, _⟩ := id hG
    exact ⟨_, hC.1⟩
  obtain ⟨v, hp⟩ := pr_milk (tb := tb) (xs (i + 1)) (xs (i + 2)) hG
  refine ev_aload_n i173_449 rfl ?_
  refine ev_aloadT_n i173_450 rfl ?_
  refine ev_iload_n i173_451 rfl ?_
  refine ev_iconst (v := nI 1) i173_452 (by decide) ?_
  refine evn_iadd i173_453 ?_
  refine ev_tald i173_454 (by decide) h4 (dxIn_n (by omega)) ?_
  rw [nI_clamp (by omega)]
  refine ev_aloadT_n i173_455 rfl ?_
  refine ev_iload_n i173_456 rfl ?_
  refine ev_iconst (v := nI 2) i173_457 (by decide) ?_
  refine evn_iadd i173_458 ?_
  refine ev_tald i173_459 (by decide) h4 (dxIn_n (by omega)) ?_
  rw [nI_clamp (by omega)]
  refine ev_callV (vs := [.int (xs (i + 1)), .int (xs (i + 2))]) (rest := []) i173_460 ci173 lk9_69 (congrArg (fun q => q + 1) np80) ci80 (by decide) (by decide +kernel) (Nat.le_of_ble_eq_true rfl) ⟨rfl, rfl, Nat.le_of_ble_eq_true rfl⟩ rfl (by assumption) (hp) (fun r H1 hq => ?_)
  obtain ⟨rfl, ⟨fs, c1⟩, hp2⟩ := hq
  show Ev tb 173 463 [some (.float 4), some (.ref 0), some (.ref 111), some (.int (nI i))] [.int v] H1 _
  refine ev_aload_n i173_463 rfl ?_
  refine ev_aloadT_n i173_464 rfl ?_
  refine ev_iload_n i173_465 rfl ?_
  refine ev_iconst (v := nI 1) i173_466 (by decide) ?_
  refine evn_iadd i173_467 ?_
  refine ev_tald i173_468 (by decide) h4 (dxIn_n (by omega)) ?_
  rw [nI_clamp (by omega)]
  refine ev_aloadT_n i173_469 rfl ?_
  refine ev_iload_n i173_470 rfl ?_
  refine ev_iconst (v := nI 2) i173_471 (by decide) ?_
  refine evn_iadd i173_472 ?_
  refine ev_tald i173_473 (by decide) h4 (dxIn_n (by omega)) ?_
  rw [nI_clamp (by omega)]
  refine ev_callV (vs := [.int (xs (i + 1)), .int (xs (i + 2))]) (rest := [.int v]) i173_474 ci173 lk9_72 (congrArg (fun q => q + 1) np147) ci147 (by decide) (by decide +kernel) (Nat.le_of_ble_eq_true rfl) ⟨rfl, rfl, Nat.le_of_ble_eq_true rfl⟩ rfl (by assumption) (hp2) (fun r H2 hq => ?_)
  obtain ⟨rfl, hG2, hl2⟩ := hq
  show Ev tb 173 477 [some (.float 4), some (.ref 0), some (.ref 111), some (.int (nI i))] [.int v, .int v] H2 _
  refine ev_icmp_eq (t := 1058) i173_477 (by decide) (fun z477 => ?_) (fun z477 => by exfalso; exact z477 rfl)
  exact hQ H2 hG2 hl2
theorem lw_482 {tb : dxT} {L : Nat} {xs : Nat → Int32} (h4 : tb 4 = (L, xs)) (hTb : tbOK tb) (hL : L ≤ 320) {i : Nat} {H : dxH} {Q : Option Value → dxH → Prop} (hi : i + 5 ≤ L) (hG : Good H) (hQ : ∀ H2, Good H2 → H2.length = H.length → Ev tb 173 1058 [some (.float 4), some (.ref 0), some (.ref 111), some (.int (nI i))] [] H2 Q) : Ev tb 173 482 [some (.float 4), some (.ref 0), some (.ref 111), some (.int (nI i))] [] H Q := by
  obtain ⟨gf, g0⟩ : ∃ fs, H[0]? = some (.inr (7, fs)) := by
    obtain ⟨_, _, _, _, _, _, _, _, _, _, _, _, _, _, sed, hC, _⟩ := id hG
    exact ⟨_, hC.1⟩
  by_cases hb : xs (i + 3) = 0
  · obtain ⟨v, hp⟩ := pr_graze (tb := tb) (xs (i + 1)) (xs (i + 2)) (false) (xs (i + 4)) hG
    refine ev_aload_n i173_482 rfl ?_
    refine ev_aloadT_n i173_483 rfl ?_
    refine ev_iload_n i173_484 rfl ?_
    refine ev_iconst (v := nI 1) i173_485 (by decide) ?_
    refine evn_iadd i173_486 ?_
    refine ev_tald i173_487 (by decide) h4 (dxIn_n (by omega)) ?_
    rw [nI_clamp (by omega)]
    refine ev_aloadT_n i173_488 rfl ?_
    refine ev_iload_n i173_489 rfl ?_
    refine ev_iconst (v := nI 2) i173_490 (by decide) ?_
    refine evn_iadd i173_491 ?_
    refine ev_tald i173_492 (by decide) h4 (dxIn_n (by omega)) ?_
    rw [nI_clamp (by omega)]
    refine ev_aloadT_n i173_493 rfl ?_
    refine ev_iload_n i173_494 rfl ?_
    refine ev_iconst (v := nI 3) i173_495 (by decide) ?_
    refine evn_iadd i173_496 ?_
    refine ev_tald i173_497 (by decide) h4 (dxIn_n (by omega)) ?_
    rw [nI_clamp (by omega)]
    refine ev_if_eq (t := 505) i173_498 (by decide) (fun z498 => ?_) (fun z498 => by exfalso; exact z498 hb)
    refine ev_iconst (v := nI 0) i173_505 (by decide) ?_
    refine ev_aloadT_n i173_506 rfl ?_
    refine ev_iload_n i173_507 rfl ?_
    refine ev_iconst (v := nI 4) i173_508 (by decide) ?_
    refine evn_iadd i173_509 ?_
    refine ev_tald i173_510 (by decide) h4 (dxIn_n (by omega)) ?_
    rw [nI_clamp (by omega)]
    refine ev_callV (vs := [.int (xs (i + 1)), .int (xs (i + 2)), .int (nI 0), .int (xs (i + 4))]) (rest := []) i173_511 ci173 lk9_73 (congrArg (fun q => q + 1) np81) ci81 (by decide) (by decide +kernel) (Nat.le_of_ble_eq_true rfl) ⟨rfl, rfl, Nat.le_of_ble_eq_true rfl⟩ rfl (by assumption) (hp) (fun r H1 hq => ?_)
    obtain ⟨rfl, ⟨fs, c1⟩, hp2⟩ := hq
    show Ev tb 173 514 [some (.float 4), some (.ref 0), some (.ref 111), some (.int (nI i))] [.int v] H1 _
    refine ev_aload_n i173_514 rfl ?_
    refine ev_aloadT_n i173_515 rfl ?_
    refine ev_iload_n i173_516 rfl ?_
    refine ev_iconst (v := nI 1) i173_517 (by decide) ?_
    refine evn_iadd i173_518 ?_
    refine ev_tald i173_519 (by decide) h4 (dxIn_n (by omega)) ?_
    rw [nI_clamp (by omega)]
    refine ev_aloadT_n i173_520 rfl ?_
    refine ev_iload_n i173_521 rfl ?_
    refine ev_iconst (v := nI 2) i173_522 (by decide) ?_
    refine evn_iadd i173_523 ?_
    refine ev_tald i173_524 (by decide) h4 (dxIn_n (by omega)) ?_
    rw [nI_clamp (by omega)]
    refine ev_aloadT_n i173_525 rfl ?_
    refine ev_iload_n i173_526 rfl ?_
    refine ev_iconst (v := nI 3) i173_527 (by decide) ?_
    refine evn_iadd i173_528 ?_
    refine ev_tald i173_529 (by decide) h4 (dxIn_n (by omega)) ?_
    rw [nI_clamp (by omega)]
    refine ev_if_eq (t := 537) i173_530 (by decide) (fun z530 => ?_) (fun z530 => by exfalso; exact z530 hb)
    refine ev_iconst (v := nI 0) i173_537 (by decide) ?_
    refine ev_aloadT_n i173_538 rfl ?_
    refine ev_iload_n i173_539 rfl ?_
    refine ev_iconst (v := nI 4) i173_540 (by decide) ?_
    refine evn_iadd i173_541 ?_
    refine ev_tald i173_542 (by decide) h4 (dxIn_n (by omega)) ?_
    rw [nI_clamp (by omega)]
    refine ev_callV (vs := [.int (xs (i + 1)), .int (xs (i + 2)), .int (nI 0), .int (xs (i + 4))]) (rest := [.int v]) i173_543 ci173 lk9_77 (congrArg (fun q => q + 1) np150) ci150 (by decide) (by decide +kernel) (Nat.le_of_ble_eq_true rfl) ⟨rfl, rfl, Nat.le_of_ble_eq_true rfl⟩ rfl (by assumption) (hp2) (fun r H2 hq => ?_)
    obtain ⟨rfl, hG2, hl2⟩ := hq
    show Ev tb 173 546 [some (.float 4), some (.ref 0), some (.ref 111), some (.int (nI i))] [.int v, .int v] H2 _
    refine ev_icmp_eq (t := 1058) i173_546 (by decide) (fun z546 => ?_) (fun z546 => by exfalso; exact z546 rfl)
    exact hQ H2 hG2 hl2
  · obtain ⟨v, hp⟩ := pr_graze (tb := tb) (xs (i + 1)) (xs (i + 2)) (true) (xs (i + 4)) hG
    refine ev_aload_n i173_482 rfl ?_
    refine ev_aloadT_n i173_483 rfl ?_
    refine ev_iload_n i173_484 rfl ?_
    refine ev_iconst (v := nI 1) i173_485 (by decide) ?_
    refine evn_iadd i173_486 ?_
    refine ev_tald i173_487 (by decide) h4 (dxIn_n (by omega)) ?_
    rw [nI_clamp (by omega)]
    refine ev_aloadT_n i173_488 rfl ?_
    refine ev_iload_n i173_489 rfl ?_
    refine ev_iconst (v := nI 2) i173_490 (by decide) ?_
    refine evn_iadd i173_491 ?_
    refine ev_tald i173_492 (by decide) h4 (dxIn_n (by omega)) ?_
    rw [nI_clamp (by omega)]
    refine ev_aloadT_n i173_493 rfl ?_
    refine ev_iload_n i173_494 rfl ?_
    refine ev_iconst (v := nI 3) i173_495 (by decide) ?_
    refine evn_iadd i173_496 ?_
    refine ev_tald i173_497 (by decide) h4 (dxIn_n (by omega)) ?_
    rw [nI_clamp (by omega)]
    refine ev_if_eq (t := 505) i173_498 (by decide) (fun z498 => by exfalso; exact hb z498) (fun z498 => ?_)
    refine ev_iconst (v := nI 1) i173_501 (by decide) ?_
    refine ev_goto (t := 506) i173_502 (by decide) ?_
    refine ev_aloadT_n i173_506 rfl ?_
    refine ev_iload_n i173_507 rfl ?_
    refine ev_iconst (v := nI 4) i173_508 (by decide) ?_
    refine evn_iadd i173_509 ?_
    refine ev_tald i173_510 (by decide) h4 (dxIn_n (by omega)) ?_
    rw [nI_clamp (by omega)]
    refine ev_callV (vs := [.int (xs (i + 1)), .int (xs (i + 2)), .int (nI 1), .int (xs (i + 4))]) (rest := []) i173_511 ci173 lk9_73 (congrArg (fun q => q + 1) np81) ci81 (by decide) (by decide +kernel) (Nat.le_of_ble_eq_true rfl) ⟨rfl, rfl, Nat.le_of_ble_eq_true rfl⟩ rfl (by assumption) (hp) (fun r H1 hq => ?_)
    obtain ⟨rfl, ⟨fs, c1⟩, hp2⟩ := hq
    show Ev tb 173 514 [some (.float 4), some (.ref 0), some (.ref 111), some (.int (nI i))] [.int v] H1 _
    refine ev_aload_n i173_514 rfl ?_
    refine ev_aloadT_n i173_515 rfl ?_
    refine ev_iload_n i173_516 rfl ?_
    refine ev_iconst (v := nI 1) i173_517 (by decide) ?_
    refine evn_iadd i173_518 ?_
    refine ev_tald i173_519 (by decide) h4 (dxIn_n (by omega)) ?_
    rw [nI_clamp (by omega)]
    refine ev_aloadT_n i173_520 rfl ?_
    refine ev_iload_n i173_521 rfl ?_
    refine ev_iconst (v := nI 2) i173_522 (by decide) ?_
    refine evn_iadd i173_523 ?_
    refine ev_tald i173_524 (by decide) h4 (dxIn_n (by omega)) ?_
    rw [nI_clamp (by omega)]
    refine ev_aloadT_n i173_525 rfl ?_
    refine ev_iload_n i173_526 rfl ?_
    refine ev_iconst (v := nI 3) i173_527 (by decide) ?_
    refine evn_iadd i173_528 ?_
    refine ev_tald i173_529 (by decide) h4 (dxIn_n (by omega)) ?_
    rw [nI_clamp (by omega)]
    refine ev_if_eq (t := 537) i173_530 (by decide) (fun z530 => by exfalso; exact hb z530) (fun z530 => ?_)
    refine ev_iconst (v := nI 1) i173_533 (by decide) ?_
    refine ev_goto (t := 538) i173_534 (by decide) ?_
    refine ev_aloadT_n i173_538 rfl ?_
    refine ev_iload_n i173_539 rfl ?_
    refine ev_iconst (v := nI 4) i173_540 (by decide) ?_
    refine evn_iadd i173_541 ?_
    refine ev_tald i173_542 (by decide) h4 (dxIn_n (by omega)) ?_
    rw [nI_clamp (by omega)]
    refine ev_callV (vs := [.int (xs (i + 1)), .int (xs (i + 2)), .int (nI 1), .int (xs (i + 4))]) (rest := [.int v]) i173_543 ci173 lk9_77 (congrArg (fun q => q + 1) np150) ci150 (by decide) (by decide +kernel) (Nat.le_of_ble_eq_true rfl) ⟨rfl, rfl, Nat.le_of_ble_eq_true rfl⟩ rfl (by assumption) (hp2) (fun r H2 hq => ?_)
    obtain ⟨rfl, hG2, hl2⟩ := hq
    show Ev tb 173 546 [some (.float 4), some (.ref 0), some (.ref 111), some (.int (nI i))] [.int v, .int v] H2 _
    refine ev_icmp_eq (t := 1058) i173_546 (by decide) (fun z546 => ?_) (fun z546 => by exfalso; exact z546 rfl)
    exact hQ H2 hG2 hl2
theorem lw_551 {tb : dxT} {L : Nat} {xs : Nat → Int32} (h4 : tb 4 = (L, xs)) (hTb : tbOK tb) (hL : L ≤ 320) {i : Nat} {H : dxH} {Q : Option Value → dxH → Prop} (hi : i + 5 ≤ L) (hG : Good H) (hQ : ∀ H2, Good H2 → H2.length = H.length → Ev tb 173 1058 [some (.float 4), some (.ref 0), some (.ref 111), some (.int (nI i))] [] H2 Q) : Ev tb 173 551 [some (.float 4), some (.ref 0), some (.ref 111), some (.int (nI i))] [] H Q := by
  obtain ⟨gf, g0⟩ : ∃ fs, H[0]? = some (.inr (7, fs)) := by
    obtain ⟨_, _, _, _, _, _, _, _, _, _, _, _, _, _, sed, hC, _⟩ := id hG
    exact ⟨_, hC.1⟩
  by_cases hb : xs (i + 2) = 0
  · obtain ⟨v, hp⟩ := pr_fewest (tb := tb) (xs (i + 1)) (false) hG
    refine ev_aload_n i173_551 rfl ?_
    refine ev_aloadT_n i173_552 rfl ?_
    refine ev_iload_n i173_553 rfl ?_
    refine ev_iconst (v := nI 1) i173_554 (by decide) ?_
    refine evn_iadd i173_555 ?_
    refine ev_tald i173_556 (by decide) h4 (dxIn_n (by omega)) ?_
    rw [nI_clamp (by omega)]
    refine ev_aloadT_n i173_557 rfl ?_
    refine ev_iload_n i173_558 rfl ?_
    refine ev_iconst (v := nI 2) i173_559 (by decide) ?_
    refine evn_iadd i173_560 ?_
    refine ev_tald i173_561 (by decide) h4 (dxIn_n (by omega)) ?_
    rw [nI_clamp (by omega)]
    refine ev_if_eq (t := 569) i173_562 (by decide) (fun z562 => ?_) (fun z562 => by exfalso; exact z562 hb)
    refine ev_iconst (v := nI 0) i173_569 (by decide) ?_
    refine ev_callV (vs := [.int (xs (i + 1)), .int (nI 0)]) (rest := []) i173_570 ci173 lk9_78 (congrArg (fun q => q + 1) np82) ci82 (by decide) (by decide +kernel) (Nat.le_of_ble_eq_true rfl) ⟨rfl, rfl, Nat.le_of_ble_eq_true rfl⟩ rfl (by assumption) (hp) (fun r H1 hq => ?_)
    obtain ⟨rfl, ⟨fs, c1⟩, hp2⟩ := hq
    show Ev tb 173 573 [some (.float 4), some (.ref 0), some (.ref 111), some (.int (nI i))] [.int v] H1 _
    refine ev_aload_n i173_573 rfl ?_
    refine ev_aloadT_n i173_574 rfl ?_
    refine ev_iload_n i173_575 rfl ?_
    refine ev_iconst (v := nI 1) i173_576 (by decide) ?_
    refine evn_iadd i173_577 ?_
    refine ev_tald i173_578 (by decide) h4 (dxIn_n (by omega)) ?_
    rw [nI_clamp (by omega)]
    refine ev_aloadT_n i173_579 rfl ?_
    refine ev_iload_n i173_580 rfl ?_
    refine ev_iconst (v := nI 2) i173_581 (by decide) ?_
    refine evn_iadd i173_582 ?_
    refine ev_tald i173_583 (by decide) h4 (dxIn_n (by omega)) ?_
    rw [nI_clamp (by omega)]
    refine ev_if_eq (t := 591) i173_584 (by decide) (fun z584 => ?_) (fun z584 => by exfalso; exact z584 hb)
    refine ev_iconst (v := nI 0) i173_591 (by decide) ?_
    refine ev_callV (vs := [.int (xs (i + 1)), .int (nI 0)]) (rest := [.int v]) i173_592 ci173 lk9_82 (congrArg (fun q => q + 1) np152) ci152 (by decide) (by decide +kernel) (Nat.le_of_ble_eq_true rfl) ⟨rfl, rfl, Nat.le_of_ble_eq_true rfl⟩ rfl (by assumption) (hp2) (fun r H2 hq => ?_)
    obtain ⟨rfl, hG2, hl2⟩ := hq
    show Ev tb 173 595 [some (.float 4), some (.ref 0), some (.ref 111), some (.int (nI i))] [.int v, .int v] H2 _
    refine ev_icmp_eq (t := 1058) i173_595 (by decide) (fun z595 => ?_) (fun z595 => by exfalso; exact z595 rfl)
    exact hQ H2 hG2 hl2
  · obtain ⟨v, hp⟩ := pr_fewest (tb := tb) (xs (i + 1)) (true) hG
    refine ev_aload_n i173_551 rfl ?_
    refine ev_aloadT_n i173_552 rfl ?_
    refine ev_iload_n i173_553 rfl ?_
    refine ev_iconst (v := nI 1) i173_554 (by decide) ?_
    refine evn_iadd i173_555 ?_
    refine ev_tald i173_556 (by decide) h4 (dxIn_n (by omega)) ?_
    rw [nI_clamp (by omega)]
    refine ev_aloadT_n i173_557 rfl ?_
    refine ev_iload_n i173_558 rfl ?_
    refine ev_iconst (v := nI 2) i173_559 (by decide) ?_
    refine evn_iadd i173_560 ?_
    refine ev_tald i173_561 (by decide) h4 (dxIn_n (by omega)) ?_
    rw [nI_clamp (by omega)]
    refine ev_if_eq (t := 569) i173_562 (by decide) (fun z562 => by exfalso; exact hb z562) (fun z562 => ?_)
    refine ev_iconst (v := nI 1) i173_565 (by decide) ?_
    refine ev_goto (t := 570) i173_566 (by decide) ?_
    refine ev_callV (vs := [.int (xs (i + 1)), .int (nI 1)]) (rest := []) i173_570 ci173 lk9_78 (congrArg (fun q => q + 1) np82) ci82 (by decide) (by decide +kernel) (Nat.le_of_ble_eq_true rfl) ⟨rfl, rfl, Nat.le_of_ble_eq_true rfl⟩ rfl (by assumption) (hp) (fun r H1 hq => ?_)
    obtain ⟨rfl, ⟨fs, c1⟩, hp2⟩ := hq
    show Ev tb 173 573 [some (.float 4), some (.ref 0), some (.ref 111), some (.int (nI i))] [.int v] H1 _
    refine ev_aload_n i173_573 rfl ?_
    refine ev_aloadT_n i173_574 rfl ?_
    refine ev_iload_n i173_575 rfl ?_
    refine ev_iconst (v := nI 1) i173_576 (by decide) ?_
    refine evn_iadd i173_577 ?_
    refine ev_tald i173_578 (by decide) h4 (dxIn_n (by omega)) ?_
    rw [nI_clamp (by omega)]
    refine ev_aloadT_n i173_579 rfl ?_
    refine ev_iload_n i173_580 rfl ?_
    refine ev_iconst (v := nI 2) i173_581 (by decide) ?_
    refine evn_iadd i173_582 ?_
    refine ev_tald i173_583 (by decide) h4 (dxIn_n (by omega)) ?_
    rw [nI_clamp (by omega)]
    refine ev_if_eq (t := 591) i173_584 (by decide) (fun z584 => by exfalso; exact hb z584) (fun z584 => ?_)
    refine ev_iconst (v := nI 1) i173_587 (by decide) ?_
    refine ev_goto (t := 592) i173_588 (by decide) ?_
    refine ev_callV (vs := [.int (xs (i + 1)), .int (nI 1)]) (rest := [.int v]) i173_592 ci173 lk9_82 (congrArg (fun q => q + 1) np152) ci152 (by decide) (by decide +kernel) (Nat.le_of_ble_eq_true rfl) ⟨rfl, rfl, Nat.le_of_ble_eq_true rfl⟩ rfl (by assumption) (hp2) (fun r H2 hq => ?_)
    obtain ⟨rfl, hG2, hl2⟩ := hq
    show Ev tb 173 595 [some (.float 4), some (.ref 0), some (.ref 111), some (.int (nI i))] [.int v, .int v] H2 _
    refine ev_icmp_eq (t := 1058) i173_595 (by decide) (fun z595 => ?_) (fun z595 => by exfalso; exact z595 rfl)
    exact hQ H2 hG2 hl2
theorem lw_600 {tb : dxT} {L : Nat} {xs : Nat → Int32} (h4 : tb 4 = (L, xs)) (hTb : tbOK tb) (hL : L ≤ 320) {i : Nat} {H : dxH} {Q : Option Value → dxH → Prop} (hi : i + 5 ≤ L) (hG : Good H) (hQ : ∀ H2, Good H2 → H2.length = H.length → Ev tb 173 1058 [some (.float 4), some (.ref 0), some (.ref 111), some (.int (nI i))] [] H2 Q) : Ev tb 173 600 [some (.float 4), some (.ref 0), some (.ref 111), some (.int (nI i))] [] H Q := by
  obtain ⟨gf, g0⟩ : ∃ fs, H[0]? = some (.inr (7, fs)) := by
    obtain ⟨_, _, _, _, _, _, _, _, _, _, _, _, _, _, sed, hC, _⟩ := id hG
    exact ⟨_, hC.1⟩
  obtain ⟨v, hp⟩ := pr_judge (tb := tb) (xs (i + 1)) (xs (i + 2)) hG
  refine ev_aload_n i173_600 rfl ?_
  refine ev_aloadT_n i173_601 rfl ?_
  refine ev_iload_n i173_602 rfl ?_
  refine ev_iconst (v := nI 1) i173_603 (by decide) ?_
  refine evn_iadd i173_604 ?_
  refine ev_tald i173_605 (by decide) h4 (dxIn_n (by omega)) ?_
  rw [nI_clamp (by omega)]
  refine ev_aloadT_n i173_606 rfl ?_
  refine ev_iload_n i173_607 rfl ?_
  refine ev_iconst (v := nI 2) i173_608 (by decide) ?_
  refine evn_iadd i173_609 ?_
  refine ev_tald i173_610 (by decide) h4 (dxIn_n (by omega)) ?_
  rw [nI_clamp (by omega)]
  refine ev_callV (vs := [.int (xs (i + 1)), .int (xs (i + 2))]) (rest := []) i173_611 ci173 lk9_83 (congrArg (fun q => q + 1) np83) ci83 (by decide) (by decide +kernel) (Nat.le_of_ble_eq_true rfl) ⟨rfl, rfl, Nat.le_of_ble_eq_true rfl⟩ rfl (by assumption) (hp) (fun r H1 hq => ?_)
  obtain ⟨rfl, ⟨fs, c1⟩, hp2⟩ := hq
  show Ev tb 173 614 [some (.float 4), some (.ref 0), some (.ref 111), some (.int (nI i))] [.int v] H1 _
  refine ev_aload_n i173_614 rfl ?_
  refine ev_aloadT_n i173_615 rfl ?_
  refine ev_iload_n i173_616 rfl ?_
  refine ev_iconst (v := nI 1) i173_617 (by decide) ?_
  refine evn_iadd i173_618 ?_
  refine ev_tald i173_619 (by decide) h4 (dxIn_n (by omega)) ?_
  rw [nI_clamp (by omega)]
  refine ev_aloadT_n i173_620 rfl ?_
  refine ev_iload_n i173_621 rfl ?_
  refine ev_iconst (v := nI 2) i173_622 (by decide) ?_
  refine evn_iadd i173_623 ?_
  refine ev_tald i173_624 (by decide) h4 (dxIn_n (by omega)) ?_
  rw [nI_clamp (by omega)]
  refine ev_callV (vs := [.int (xs (i + 1)), .int (xs (i + 2))]) (rest := [.int v]) i173_625 ci173 lk9_86 (congrArg (fun q => q + 1) np154) ci154 (by decide) (by decide +kernel) (Nat.le_of_ble_eq_true rfl) ⟨rfl, rfl, Nat.le_of_ble_eq_true rfl⟩ rfl (by assumption) (hp2) (fun r H2 hq => ?_)
  obtain ⟨rfl, hG2, hl2⟩ := hq
  show Ev tb 173 628 [some (.float 4), some (.ref 0), some (.ref 111), some (.int (nI i))] [.int v, .int v] H2 _
  refine ev_icmp_eq (t := 1058) i173_628 (by decide) (fun z628 => ?_) (fun z628 => by exfalso; exact z628 rfl)
  exact hQ H2 hG2 hl2
theorem lw_633 {tb : dxT} {L : Nat} {xs : Nat → Int32} (h4 : tb 4 = (L, xs)) (hTb : tbOK tb) (hL : L ≤ 320) {i : Nat} {H : dxH} {Q : Option Value → dxH → Prop} (hi : i + 5 ≤ L) (hG : Good H) (hQ : ∀ H2, Good H2 → H2.length = H.length → Ev tb 173 1058 [some (.float 4), some (.ref 0), some (.ref 111), some (.int (nI i))] [] H2 Q) : Ev tb 173 633 [some (.float 4), some (.ref 0), some (.ref 111), some (.int (nI i))] [] H Q := by
  obtain ⟨gf, g0⟩ : ∃ fs, H[0]? = some (.inr (7, fs)) := by
    obtain ⟨_, _, _, _, _, _, _, _, _, _, _, _, _, _, sed, hC, _⟩ := id hG
    exact ⟨_, hC.1⟩
  by_cases hb : xs (i + 3) = 0
  · obtain ⟨v, hp⟩ := pr_share (tb := tb) (xs (i + 1)) (xs (i + 2)) (false) hG
    refine ev_aload_n i173_633 rfl ?_
    refine ev_aloadT_n i173_634 rfl ?_
    refine ev_iload_n i173_635 rfl ?_
    refine ev_iconst (v := nI 1) i173_636 (by decide) ?_
    refine evn_iadd i173_637 ?_
    refine ev_tald i173_638 (by decide) h4 (dxIn_n (by omega)) ?_
    rw [nI_clamp (by omega)]
    refine ev_aloadT_n i173_639 rfl ?_
    refine ev_iload_n i173_640 rfl ?_
    refine ev_iconst (v := nI 2) i173_641 (by decide) ?_
    refine evn_iadd i173_642 ?_
    refine ev_tald i173_643 (by decide) h4 (dxIn_n (by omega)) ?_
    rw [nI_clamp (by omega)]
    refine ev_aloadT_n i173_644 rfl ?_
    refine ev_iload_n i173_645 rfl ?_
    refine ev_iconst (v := nI 3) i173_646 (by decide) ?_
    refine evn_iadd i173_647 ?_
    refine ev_tald i173_648 (by decide) h4 (dxIn_n (by omega)) ?_
    rw [nI_clamp (by omega)]
    refine ev_if_eq (t := 656) i173_649 (by decide) (fun z649 => ?_) (fun z649 => by exfalso; exact z649 hb)
    refine ev_iconst (v := nI 0) i173_656 (by decide) ?_
    refine ev_callV (vs := [.int (xs (i + 1)), .int (xs (i + 2)), .int (nI 0)]) (rest := []) i173_657 ci173 lk9_87 (congrArg (fun q => q + 1) np84) ci84 (by decide) (by decide +kernel) (Nat.le_of_ble_eq_true rfl) ⟨rfl, rfl, Nat.le_of_ble_eq_true rfl⟩ rfl (by assumption) (hp) (fun r H1 hq => ?_)
    obtain ⟨rfl, ⟨fs, c1⟩, hp2⟩ := hq
    show Ev tb 173 660 [some (.float 4), some (.ref 0), some (.ref 111), some (.int (nI i))] [.int v] H1 _
    refine ev_aload_n i173_660 rfl ?_
    refine ev_aloadT_n i173_661 rfl ?_
    refine ev_iload_n i173_662 rfl ?_
    refine ev_iconst (v := nI 1) i173_663 (by decide) ?_
    refine evn_iadd i173_664 ?_
    refine ev_tald i173_665 (by decide) h4 (dxIn_n (by omega)) ?_
    rw [nI_clamp (by omega)]
    refine ev_aloadT_n i173_666 rfl ?_
    refine ev_iload_n i173_667 rfl ?_
    refine ev_iconst (v := nI 2) i173_668 (by decide) ?_
    refine evn_iadd i173_669 ?_
    refine ev_tald i173_670 (by decide) h4 (dxIn_n (by omega)) ?_
    rw [nI_clamp (by omega)]
    refine ev_aloadT_n i173_671 rfl ?_
    refine ev_iload_n i173_672 rfl ?_
    refine ev_iconst (v := nI 3) i173_673 (by decide) ?_
    refine evn_iadd i173_674 ?_
    refine ev_tald i173_675 (by decide) h4 (dxIn_n (by omega)) ?_
    rw [nI_clamp (by omega)]
    refine ev_if_eq (t := 683) i173_676 (by decide) (fun z676 => ?_) (fun z676 => by exfalso; exact z676 hb)
    refine ev_iconst (v := nI 0) i173_683 (by decide) ?_
    refine ev_callV (vs := [.int (xs (i + 1)), .int (xs (i + 2)), .int (nI 0)]) (rest := [.int v]) i173_684 ci173 lk9_91 (congrArg (fun q => q + 1) np157) ci157 (by decide) (by decide +kernel) (Nat.le_of_ble_eq_true rfl) ⟨rfl, rfl, Nat.le_of_ble_eq_true rfl⟩ rfl (by assumption) (hp2) (fun r H2 hq => ?_)
    obtain ⟨rfl, hG2, hl2⟩ := hq
    show Ev tb 173 687 [some (.float 4), some (.ref 0), some (.ref 111), some (.int (nI i))] [.int v, .int v] H2 _
    refine ev_icmp_eq (t := 1058) i173_687 (by decide) (fun z687 => ?_) (fun z687 => by exfalso; exact z687 rfl)
    exact hQ H2 hG2 hl2
  · obtain ⟨v, hp⟩ := pr_share (tb := tb) (xs (i + 1)) (xs (i + 2)) (true) hG
    refine ev_aload_n i173_633 rfl ?_
    refine ev_aloadT_n i173_634 rfl ?_
    refine ev_iload_n i173_635 rfl ?_
    refine ev_iconst (v := nI 1) i173_636 (by decide) ?_
    refine evn_iadd i173_637 ?_
    refine ev_tald i173_638 (by decide) h4 (dxIn_n (by omega)) ?_
    rw [nI_clamp (by omega)]
    refine ev_aloadT_n i173_639 rfl ?_
    refine ev_iload_n i173_640 rfl ?_
    refine ev_iconst (v := nI 2) i173_641 (by decide) ?_
    refine evn_iadd i173_642 ?_
    refine ev_tald i173_643 (by decide) h4 (dxIn_n (by omega)) ?_
    rw [nI_clamp (by omega)]
    refine ev_aloadT_n i173_644 rfl ?_
    refine ev_iload_n i173_645 rfl ?_
    refine ev_iconst (v := nI 3) i173_646 (by decide) ?_
    refine evn_iadd i173_647 ?_
    refine ev_tald i173_648 (by decide) h4 (dxIn_n (by omega)) ?_
    rw [nI_clamp (by omega)]
    refine ev_if_eq (t := 656) i173_649 (by decide) (fun z649 => by exfalso; exact hb z649) (fun z649 => ?_)
    refine ev_iconst (v := nI 1) i173_652 (by decide) ?_
    refine ev_goto (t := 657) i173_653 (by decide) ?_
    refine ev_callV (vs := [.int (xs (i + 1)), .int (xs (i + 2)), .int (nI 1)]) (rest := []) i173_657 ci173 lk9_87 (congrArg (fun q => q + 1) np84) ci84 (by decide) (by decide +kernel) (Nat.le_of_ble_eq_true rfl) ⟨rfl, rfl, Nat.le_of_ble_eq_true rfl⟩ rfl (by assumption) (hp) (fun r H1 hq => ?_)
    obtain ⟨rfl, ⟨fs, c1⟩, hp2⟩ := hq
    show Ev tb 173 660 [some (.float 4), some (.ref 0), some (.ref 111), some (.int (nI i))] [.int v] H1 _
    refine ev_aload_n i173_660 rfl ?_
    refine ev_aloadT_n i173_661 rfl ?_
    refine ev_iload_n i173_662 rfl ?_
    refine ev_iconst (v := nI 1) i173_663 (by decide) ?_
    refine evn_iadd i173_664 ?_
    refine ev_tald i173_665 (by decide) h4 (dxIn_n (by omega)) ?_
    rw [nI_clamp (by omega)]
    refine ev_aloadT_n i173_666 rfl ?_
    refine ev_iload_n i173_667 rfl ?_
    refine ev_iconst (v := nI 2) i173_668 (by decide) ?_
    refine evn_iadd i173_669 ?_
    refine ev_tald i173_670 (by decide) h4 (dxIn_n (by omega)) ?_
    rw [nI_clamp (by omega)]
    refine ev_aloadT_n i173_671 rfl ?_
    refine ev_iload_n i173_672 rfl ?_
    refine ev_iconst (v := nI 3) i173_673 (by decide) ?_
    refine evn_iadd i173_674 ?_
    refine ev_tald i173_675 (by decide) h4 (dxIn_n (by omega)) ?_
    rw [nI_clamp (by omega)]
    refine ev_if_eq (t := 683) i173_676 (by decide) (fun z676 => by exfalso; exact hb z676) (fun z676 => ?_)
    refine ev_iconst (v := nI 1) i173_679 (by decide) ?_
    refine ev_goto (t := 684) i173_680 (by decide) ?_
    refine ev_callV (vs := [.int (xs (i + 1)), .int (xs (i + 2)), .int (nI 1)]) (rest := [.int v]) i173_684 ci173 lk9_91 (congrArg (fun q => q + 1) np157) ci157 (by decide) (by decide +kernel) (Nat.le_of_ble_eq_true rfl) ⟨rfl, rfl, Nat.le_of_ble_eq_true rfl⟩ rfl (by assumption) (hp2) (fun r H2 hq => ?_)
    obtain ⟨rfl, hG2, hl2⟩ := hq
    show Ev tb 173 687 [some (.float 4), some (.ref 0), some (.ref 111), some (.int (nI i))] [.int v, .int v] H2 _
    refine ev_icmp_eq (t := 1058) i173_687 (by decide) (fun z687 => ?_) (fun z687 => by exfalso; exact z687 rfl)
    exact hQ H2 hG2 hl2
theorem lw_692 {tb : dxT} {L : Nat} {xs : Nat → Int32} (h4 : tb 4 = (L, xs)) (hTb : tbOK tb) (hL : L ≤ 320) {i : Nat} {H : dxH} {Q : Option Value → dxH → Prop} (hi : i + 5 ≤ L) (hG : Good H) (hQ : ∀ H2, Good H2 → H2.length = H.length → Ev tb 173 1058 [some (.float 4), some (.ref 0), some (.ref 111), some (.int (nI i))] [] H2 Q) : Ev tb 173 692 [some (.float 4), some (.ref 0), some (.ref 111), some (.int (nI i))] [] H Q := by
  obtain ⟨gf, g0⟩ : ∃ fs, H[0]? = some (.inr (7, fs)) := by
    obtain ⟨_, _, _, _, _, _, _, _, _, _, _, _, _, _, sed, hC, _⟩ := id hG
    exact ⟨_, hC.1⟩
  obtain ⟨v, hp⟩ := pr_rang (tb := tb) (xs (i + 1)) (xs (i + 2)) hG
  refine ev_aload_n i173_692 rfl ?_
  refine ev_aloadT_n i173_693 rfl ?_
  refine ev_iload_n i173_694 rfl ?_
  refine ev_iconst (v := nI 1) i173_695 (by decide) ?_
  refine evn_iadd i173_696 ?_
  refine ev_tald i173_697 (by decide) h4 (dxIn_n (by omega)) ?_
  rw [nI_clamp (by omega)]
  refine ev_aloadT_n i173_698 rfl ?_
  refine ev_iload_n i173_699 rfl ?_
  refine ev_iconst (v := nI 2) i173_700 (by decide) ?_
  refine evn_iadd i173_701 ?_
  refine ev_tald i173_702 (by decide) h4 (dxIn_n (by omega)) ?_
  rw [nI_clamp (by omega)]
  refine ev_callV (vs := [.int (xs (i + 1)), .int (xs (i + 2))]) (rest := []) i173_703 ci173 lk9_92 (congrArg (fun q => q + 1) np85) ci85 (by decide) (by decide +kernel) (Nat.le_of_ble_eq_true rfl) ⟨rfl, rfl, Nat.le_of_ble_eq_true rfl⟩ rfl (by assumption) (hp) (fun r H1 hq => ?_)
  obtain ⟨rfl, ⟨fs, c1⟩, hp2⟩ := hq
  show Ev tb 173 706 [some (.float 4), some (.ref 0), some (.ref 111), some (.int (nI i))] [.int v] H1 _
  refine ev_aload_n i173_706 rfl ?_
  refine ev_aloadT_n i173_707 rfl ?_
  refine ev_iload_n i173_708 rfl ?_
  refine ev_iconst (v := nI 1) i173_709 (by decide) ?_
  refine evn_iadd i173_710 ?_
  refine ev_tald i173_711 (by decide) h4 (dxIn_n (by omega)) ?_
  rw [nI_clamp (by omega)]
  refine ev_aloadT_n i173_712 rfl ?_
  refine ev_iload_n i173_713 rfl ?_
  refine ev_iconst (v := nI 2) i173_714 (by decide) ?_
  refine evn_iadd i173_715 ?_
  refine ev_tald i173_716 (by decide) h4 (dxIn_n (by omega)) ?_
  rw [nI_clamp (by omega)]
  refine ev_callV (vs := [.int (xs (i + 1)), .int (xs (i + 2))]) (rest := [.int v]) i173_717 ci173 lk9_95 (congrArg (fun q => q + 1) np158) ci158 (by decide) (by decide +kernel) (Nat.le_of_ble_eq_true rfl) ⟨rfl, rfl, Nat.le_of_ble_eq_true rfl⟩ rfl (by assumption) (hp2) (fun r H2 hq => ?_)
  obtain ⟨rfl, hG2, hl2⟩ := hq
  show Ev tb 173 720 [some (.float 4), some (.ref 0), some (.ref 111), some (.int (nI i))] [.int v, .int v] H2 _
  refine ev_icmp_eq (t := 1058) i173_720 (by decide) (fun z720 => ?_) (fun z720 => by exfalso; exact z720 rfl)
  exact hQ H2 hG2 hl2
theorem lw_725 {tb : dxT} {L : Nat} {xs : Nat → Int32} (h4 : tb 4 = (L, xs)) (hTb : tbOK tb) (hL : L ≤ 320) {i : Nat} {H : dxH} {Q : Option Value → dxH → Prop} (hi : i + 5 ≤ L) (hG : Good H) (hQ : ∀ H2, Good H2 → H2.length = H.length → Ev tb 173 1058 [some (.float 4), some (.ref 0), some (.ref 111), some (.int (nI i))] [] H2 Q) : Ev tb 173 725 [some (.float 4), some (.ref 0), some (.ref 111), some (.int (nI i))] [] H Q := by
  obtain ⟨gf, g0⟩ : ∃ fs, H[0]? = some (.inr (7, fs)) := by
    obtain ⟨_, _, _, _, _, _, _, _, _, _, _, _, _, _, sed, hC, _⟩ := id hG
    exact ⟨_, hC.1⟩
  by_cases hb : xs (i + 3) = 0
  · obtain ⟨v, hp⟩ := pr_tell (tb := tb) (xs (i + 1)) (xs (i + 2)) (false) hG
    refine ev_aload_n i173_725 rfl ?_
    refine ev_aloadT_n i173_726 rfl ?_
    refine ev_iload_n i173_727 rfl ?_
    refine ev_iconst (v := nI 1) i173_728 (by decide) ?_
    refine evn_iadd i173_729 ?_
    refine ev_tald i173_730 (by decide) h4 (dxIn_n (by omega)) ?_
    rw [nI_clamp (by omega)]
    refine ev_aloadT_n i173_731 rfl ?_
    refine ev_iload_n i173_732 rfl ?_
    refine ev_iconst (v := nI 2) i173_733 (by decide) ?_
    refine evn_iadd i173_734 ?_
    refine ev_tald i173_735 (by decide) h4 (dxIn_n (by omega)) ?_
    rw [nI_clamp (by omega)]
    refine ev_aloadT_n i173_736 rfl ?_
    refine ev_iload_n i173_737 rfl ?_
    refine ev_iconst (v := nI 3) i173_738 (by decide) ?_
    refine evn_iadd i173_739 ?_
    refine ev_tald i173_740 (by decide) h4 (dxIn_n (by omega)) ?_
    rw [nI_clamp (by omega)]
    refine ev_if_eq (t := 748) i173_741 (by decide) (fun z741 => ?_) (fun z741 => by exfalso; exact z741 hb)
    refine ev_iconst (v := nI 0) i173_748 (by decide) ?_
    refine ev_callV (vs := [.int (xs (i + 1)), .int (xs (i + 2)), .int (nI 0)]) (rest := []) i173_749 ci173 lk9_96 (congrArg (fun q => q + 1) np86) ci86 (by decide) (by decide +kernel) (Nat.le_of_ble_eq_true rfl) ⟨rfl, rfl, Nat.le_of_ble_eq_true rfl⟩ rfl (by assumption) (hp) (fun r H1 hq => ?_)
    obtain ⟨rfl, ⟨fs, c1⟩, hp2⟩ := hq
    show Ev tb 173 752 [some (.float 4), some (.ref 0), some (.ref 111), some (.int (nI i))] [.int v] H1 _
    refine ev_aload_n i173_752 rfl ?_
    refine ev_aloadT_n i173_753 rfl ?_
    refine ev_iload_n i173_754 rfl ?_
    refine ev_iconst (v := nI 1) i173_755 (by decide) ?_
    refine evn_iadd i173_756 ?_
    refine ev_tald i173_757 (by decide) h4 (dxIn_n (by omega)) ?_
    rw [nI_clamp (by omega)]
    refine ev_aloadT_n i173_758 rfl ?_
    refine ev_iload_n i173_759 rfl ?_
    refine ev_iconst (v := nI 2) i173_760 (by decide) ?_
    refine evn_iadd i173_761 ?_
    refine ev_tald i173_762 (by decide) h4 (dxIn_n (by omega)) ?_
    rw [nI_clamp (by omega)]
    refine ev_aloadT_n i173_763 rfl ?_
    refine ev_iload_n i173_764 rfl ?_
    refine ev_iconst (v := nI 3) i173_765 (by decide) ?_
    refine evn_iadd i173_766 ?_
    refine ev_tald i173_767 (by decide) h4 (dxIn_n (by omega)) ?_
    rw [nI_clamp (by omega)]
    refine ev_if_eq (t := 775) i173_768 (by decide) (fun z768 => ?_) (fun z768 => by exfalso; exact z768 hb)
    refine ev_iconst (v := nI 0) i173_775 (by decide) ?_
    refine ev_callV (vs := [.int (xs (i + 1)), .int (xs (i + 2)), .int (nI 0)]) (rest := [.int v]) i173_776 ci173 lk9_99 (congrArg (fun q => q + 1) np159) ci159 (by decide) (by decide +kernel) (Nat.le_of_ble_eq_true rfl) ⟨rfl, rfl, Nat.le_of_ble_eq_true rfl⟩ rfl (by assumption) (hp2) (fun r H2 hq => ?_)
    obtain ⟨rfl, hG2, hl2⟩ := hq
    show Ev tb 173 779 [some (.float 4), some (.ref 0), some (.ref 111), some (.int (nI i))] [.int v, .int v] H2 _
    refine ev_icmp_eq (t := 1058) i173_779 (by decide) (fun z779 => ?_) (fun z779 => by exfalso; exact z779 rfl)
    exact hQ H2 hG2 hl2
  · obtain ⟨v, hp⟩ := pr_tell (tb := tb) (xs (i + 1)) (xs (i + 2)) (true) hG
    refine ev_aload_n i173_725 rfl ?_
    refine ev_aloadT_n i173_726 rfl ?_
    refine ev_iload_n i173_727 rfl ?_
    refine ev_iconst (v := nI 1) i173_728 (by decide) ?_
    refine evn_iadd i173_729 ?_
    refine ev_tald i173_730 (by decide) h4 (dxIn_n (by omega)) ?_
    rw [nI_clamp (by omega)]
    refine ev_aloadT_n i173_731 rfl ?_
    refine ev_iload_n i173_732 rfl ?_
    refine ev_iconst (v := nI 2) i173_733 (by decide) ?_
    refine evn_iadd i173_734 ?_
    refine ev_tald i173_735 (by decide) h4 (dxIn_n (by omega)) ?_
    rw [nI_clamp (by omega)]
    refine ev_aloadT_n i173_736 rfl ?_
    refine ev_iload_n i173_737 rfl ?_
    refine ev_iconst (v := nI 3) i173_738 (by decide) ?_
    refine evn_iadd i173_739 ?_
    refine ev_tald i173_740 (by decide) h4 (dxIn_n (by omega)) ?_
    rw [nI_clamp (by omega)]
    refine ev_if_eq (t := 748) i173_741 (by decide) (fun z741 => by exfalso; exact hb z741) (fun z741 => ?_)
    refine ev_iconst (v := nI 1) i173_744 (by decide) ?_
    refine ev_goto (t := 749) i173_745 (by decide) ?_
    refine ev_callV (vs := [.int (xs (i + 1)), .int (xs (i + 2)), .int (nI 1)]) (rest := []) i173_749 ci173 lk9_96 (congrArg (fun q => q + 1) np86) ci86 (by decide) (by decide +kernel) (Nat.le_of_ble_eq_true rfl) ⟨rfl, rfl, Nat.le_of_ble_eq_true rfl⟩ rfl (by assumption) (hp) (fun r H1 hq => ?_)
    obtain ⟨rfl, ⟨fs, c1⟩, hp2⟩ := hq
    show Ev tb 173 752 [some (.float 4), some (.ref 0), some (.ref 111), some (.int (nI i))] [.int v] H1 _
    refine ev_aload_n i173_752 rfl ?_
    refine ev_aloadT_n i173_753 rfl ?_
    refine ev_iload_n i173_754 rfl ?_
    refine ev_iconst (v := nI 1) i173_755 (by decide) ?_
    refine evn_iadd i173_756 ?_
    refine ev_tald i173_757 (by decide) h4 (dxIn_n (by omega)) ?_
    rw [nI_clamp (by omega)]
    refine ev_aloadT_n i173_758 rfl ?_
    refine ev_iload_n i173_759 rfl ?_
    refine ev_iconst (v := nI 2) i173_760 (by decide) ?_
    refine evn_iadd i173_761 ?_
    refine ev_tald i173_762 (by decide) h4 (dxIn_n (by omega)) ?_
    rw [nI_clamp (by omega)]
    refine ev_aloadT_n i173_763 rfl ?_
    refine ev_iload_n i173_764 rfl ?_
    refine ev_iconst (v := nI 3) i173_765 (by decide) ?_
    refine evn_iadd i173_766 ?_
    refine ev_tald i173_767 (by decide) h4 (dxIn_n (by omega)) ?_
    rw [nI_clamp (by omega)]
    refine ev_if_eq (t := 775) i173_768 (by decide) (fun z768 => by exfalso; exact hb z768) (fun z768 => ?_)
    refine ev_iconst (v := nI 1) i173_771 (by decide) ?_
    refine ev_goto (t := 776) i173_772 (by decide) ?_
    refine ev_callV (vs := [.int (xs (i + 1)), .int (xs (i + 2)), .int (nI 1)]) (rest := [.int v]) i173_776 ci173 lk9_99 (congrArg (fun q => q + 1) np159) ci159 (by decide) (by decide +kernel) (Nat.le_of_ble_eq_true rfl) ⟨rfl, rfl, Nat.le_of_ble_eq_true rfl⟩ rfl (by assumption) (hp2) (fun r H2 hq => ?_)
    obtain ⟨rfl, hG2, hl2⟩ := hq
    show Ev tb 173 779 [some (.float 4), some (.ref 0), some (.ref 111), some (.int (nI i))] [.int v, .int v] H2 _
    refine ev_icmp_eq (t := 1058) i173_779 (by decide) (fun z779 => ?_) (fun z779 => by exfalso; exact z779 rfl)
    exact hQ H2 hG2 hl2
theorem lw_784 {tb : dxT} {L : Nat} {xs : Nat → Int32} (h4 : tb 4 = (L, xs)) (hTb : tbOK tb) (hL : L ≤ 320) {i : Nat} {H : dxH} {Q : Option Value → dxH → Prop} (hi : i + 5 ≤ L) (hG : Good H) (hQ : ∀ H2, Good H2 → H2.length = H.length → Ev tb 173 1058 [some (.float 4), some (.ref 0), some (.ref 111), some (.int (nI i))] [] H2 Q) : Ev tb 173 784 [some (.float 4), some (.ref 0), some (.ref 111), some (.int (nI i))] [] H Q := by
  obtain ⟨gf, g0⟩ : ∃ fs, H[0]? = some (.inr (7, fs)) := by
    obtain ⟨_, _, _, _, _, _, _, _, _, _, _, _, _, _, sed, hC, _⟩ := id hG
    exact ⟨_, hC.1⟩
  obtain ⟨v, hp⟩ := pr_untell (tb := tb)  hG
  refine ev_aload_n i173_784 rfl ?_
  refine ev_callV (vs := []) (rest := []) i173_785 ci173 lk9_100 (congrArg (fun q => q + 1) np87) ci87 (by decide) (by decide +kernel) (Nat.le_of_ble_eq_true rfl) ⟨rfl, rfl, Nat.le_of_ble_eq_true rfl⟩ rfl (by assumption) (hp) (fun r H1 hq => ?_)
  obtain ⟨rfl, ⟨fs, c1⟩, hp2⟩ := hq
  show Ev tb 173 788 [some (.float 4), some (.ref 0), some (.ref 111), some (.int (nI i))] [.int v] H1 _
  refine ev_aload_n i173_788 rfl ?_
  refine ev_callV (vs := []) (rest := [.int v]) i173_789 ci173 lk9_103 (congrArg (fun q => q + 1) np160) ci160 (by decide) (by decide +kernel) (Nat.le_of_ble_eq_true rfl) ⟨rfl, rfl, Nat.le_of_ble_eq_true rfl⟩ rfl (by assumption) (hp2) (fun r H2 hq => ?_)
  obtain ⟨rfl, hG2, hl2⟩ := hq
  show Ev tb 173 792 [some (.float 4), some (.ref 0), some (.ref 111), some (.int (nI i))] [.int v, .int v] H2 _
  refine ev_icmp_eq (t := 1058) i173_792 (by decide) (fun z792 => ?_) (fun z792 => by exfalso; exact z792 rfl)
  exact hQ H2 hG2 hl2
theorem lw_797 {tb : dxT} {L : Nat} {xs : Nat → Int32} (h4 : tb 4 = (L, xs)) (hTb : tbOK tb) (hL : L ≤ 320) {i : Nat} {H : dxH} {Q : Option Value → dxH → Prop} (hi : i + 5 ≤ L) (hG : Good H) (hQ : ∀ H2, Good H2 → H2.length = H.length → Ev tb 173 1058 [some (.float 4), some (.ref 0), some (.ref 111), some (.int (nI i))] [] H2 Q) : Ev tb 173 797 [some (.float 4), some (.ref 0), some (.ref 111), some (.int (nI i))] [] H Q := by
  obtain ⟨gf, g0⟩ : ∃ fs, H[0]? = some (.inr (7, fs)) := by
    obtain ⟨_, _, _, _, _, _, _, _, _, _, _, _, _, _, sed, hC, _⟩ := id hG
    exact ⟨_, hC.1⟩
  obtain ⟨v, hp⟩ := pr_full (tb := tb) (xs (i + 1)) hG
  refine ev_aload_n i173_797 rfl ?_
  refine ev_aloadT_n i173_798 rfl ?_
  refine ev_iload_n i173_799 rfl ?_
  refine ev_iconst (v := nI 1) i173_800 (by decide) ?_
  refine evn_iadd i173_801 ?_
  refine ev_tald i173_802 (by decide) h4 (dxIn_n (by omega)) ?_
  rw [nI_clamp (by omega)]
  refine ev_callV (vs := [.int (xs (i + 1))]) (rest := []) i173_803 ci173 lk9_104 (congrArg (fun q => q + 1) np88) ci88 (by decide) (by decide +kernel) (Nat.le_of_ble_eq_true rfl) ⟨rfl, rfl, Nat.le_of_ble_eq_true rfl⟩ rfl (by assumption) (hp) (fun r H1 hq => ?_)
  obtain ⟨rfl, ⟨fs, c1⟩, hp2⟩ := hq
  show Ev tb 173 806 [some (.float 4), some (.ref 0), some (.ref 111), some (.int (nI i))] [.int v] H1 _
  refine ev_aload_n i173_806 rfl ?_
  refine ev_aloadT_n i173_807 rfl ?_
  refine ev_iload_n i173_808 rfl ?_
  refine ev_iconst (v := nI 1) i173_809 (by decide) ?_
  refine evn_iadd i173_810 ?_
  refine ev_tald i173_811 (by decide) h4 (dxIn_n (by omega)) ?_
  rw [nI_clamp (by omega)]
  refine ev_callV (vs := [.int (xs (i + 1))]) (rest := [.int v]) i173_812 ci173 lk9_107 (congrArg (fun q => q + 1) np162) ci162 (by decide) (by decide +kernel) (Nat.le_of_ble_eq_true rfl) ⟨rfl, rfl, Nat.le_of_ble_eq_true rfl⟩ rfl (by assumption) (hp2) (fun r H2 hq => ?_)
  obtain ⟨rfl, hG2, hl2⟩ := hq
  show Ev tb 173 815 [some (.float 4), some (.ref 0), some (.ref 111), some (.int (nI i))] [.int v, .int v] H2 _
  refine ev_icmp_eq (t := 1058) i173_815 (by decide) (fun z815 => ?_) (fun z815 => by exfalso; exact z815 rfl)
  exact hQ H2 hG2 hl2
theorem lw_820 {tb : dxT} {L : Nat} {xs : Nat → Int32} (h4 : tb 4 = (L, xs)) (hTb : tbOK tb) (hL : L ≤ 320) {i : Nat} {H : dxH} {Q : Option Value → dxH → Prop} (hi : i + 5 ≤ L) (hG : Good H) (hQ : ∀ H2, Good H2 → H2.length = H.length → Ev tb 173 1058 [some (.float 4), some (.ref 0), some (.ref 111), some (.int (nI i))] [] H2 Q) : Ev tb 173 820 [some (.float 4), some (.ref 0), some (.ref 111), some (.int (nI i))] [] H Q := by
  obtain ⟨gf, g0⟩ : ∃ fs, H[0]? = some (.inr (7, fs)) := by
    obtain ⟨_, _, _, _, _, _, _, _, _, _, _, _, _, _, sed, hC, _⟩ := id hG
    exact ⟨_, hC.1⟩
  obtain ⟨v, hp⟩ := pr_rests (tb := tb) (xs (i + 1)) (xs (i + 2)) hG
  refine ev_aload_n i173_820 rfl ?_
  refine ev_aloadT_n i173_821 rfl ?_
  refine ev_iload_n i173_822 rfl ?_
  refine ev_iconst (v := nI 1) i173_823 (by decide) ?_
  refine evn_iadd i173_824 ?_
  refine ev_tald i173_825 (by decide) h4 (dxIn_n (by omega)) ?_
  rw [nI_clamp (by omega)]
  refine ev_aloadT_n i173_826 rfl ?_
  refine ev_iload_n i173_827 rfl ?_
  refine ev_iconst (v := nI 2) i173_828 (by decide) ?_
  refine evn_iadd i173_829 ?_
  refine ev_tald i173_830 (by decide) h4 (dxIn_n (by omega)) ?_
  rw [nI_clamp (by omega)]
  refine ev_callV (vs := [.int (xs (i + 1)), .int (xs (i + 2))]) (rest := []) i173_831 ci173 lk9_108 (congrArg (fun q => q + 1) np89) ci89 (by decide) (by decide +kernel) (Nat.le_of_ble_eq_true rfl) ⟨rfl, rfl, Nat.le_of_ble_eq_true rfl⟩ rfl (by assumption) (hp) (fun r H1 hq => ?_)
  obtain ⟨rfl, ⟨fs, c1⟩, hp2⟩ := hq
  show Ev tb 173 834 [some (.float 4), some (.ref 0), some (.ref 111), some (.int (nI i))] [.int v] H1 _
  refine ev_aload_n i173_834 rfl ?_
  refine ev_aloadT_n i173_835 rfl ?_
  refine ev_iload_n i173_836 rfl ?_
  refine ev_iconst (v := nI 1) i173_837 (by decide) ?_
  refine evn_iadd i173_838 ?_
  refine ev_tald i173_839 (by decide) h4 (dxIn_n (by omega)) ?_
  rw [nI_clamp (by omega)]
  refine ev_aloadT_n i173_840 rfl ?_
  refine ev_iload_n i173_841 rfl ?_
  refine ev_iconst (v := nI 2) i173_842 (by decide) ?_
  refine evn_iadd i173_843 ?_
  refine ev_tald i173_844 (by decide) h4 (dxIn_n (by omega)) ?_
  rw [nI_clamp (by omega)]
  refine ev_callV (vs := [.int (xs (i + 1)), .int (xs (i + 2))]) (rest := [.int v]) i173_845 ci173 lk9_111 (congrArg (fun q => q + 1) np165) ci165 (by decide) (by decide +kernel) (Nat.le_of_ble_eq_true rfl) ⟨rfl, rfl, Nat.le_of_ble_eq_true rfl⟩ rfl (by assumption) (hp2) (fun r H2 hq => ?_)
  obtain ⟨rfl, hG2, hl2⟩ := hq
  show Ev tb 173 848 [some (.float 4), some (.ref 0), some (.ref 111), some (.int (nI i))] [.int v, .int v] H2 _
  refine ev_icmp_eq (t := 1058) i173_848 (by decide) (fun z848 => ?_) (fun z848 => by exfalso; exact z848 rfl)
  exact hQ H2 hG2 hl2
theorem lw_853 {tb : dxT} {L : Nat} {xs : Nat → Int32} (h4 : tb 4 = (L, xs)) (hTb : tbOK tb) (hL : L ≤ 320) {i : Nat} {H : dxH} {Q : Option Value → dxH → Prop} (hi : i + 5 ≤ L) (hG : Good H) (hQ : ∀ H2, Good H2 → H2.length = H.length → Ev tb 173 1058 [some (.float 4), some (.ref 0), some (.ref 111), some (.int (nI i))] [] H2 Q) : Ev tb 173 853 [some (.float 4), some (.ref 0), some (.ref 111), some (.int (nI i))] [] H Q := by
  obtain ⟨gf, g0⟩ : ∃ fs, H[0]? = some (.inr (7, fs)) := by
    obtain ⟨_, _, _, _, _, _, _, _, _, _, _, _, _, _, sed, hC, _⟩ := id hG
    exact ⟨_, hC.1⟩
  by_cases hb : xs (i + 3) = 0
  · obtain ⟨v, hp⟩ := pr_chance (tb := tb) (xs (i + 1)) (xs (i + 2)) (false) hG
    refine ev_aload_n i173_853 rfl ?_
    refine ev_aloadT_n i173_854 rfl ?_
    refine ev_iload_n i173_855 rfl ?_
    refine ev_iconst (v := nI 1) i173_856 (by decide) ?_
    refine evn_iadd i173_857 ?_
    refine ev_tald i173_858 (by decide) h4 (dxIn_n (by omega)) ?_
    rw [nI_clamp (by omega)]
    refine ev_aloadT_n i173_859 rfl ?_
    refine ev_iload_n i173_860 rfl ?_
    refine ev_iconst (v := nI 2) i173_861 (by decide) ?_
    refine evn_iadd i173_862 ?_
    refine ev_tald i173_863 (by decide) h4 (dxIn_n (by omega)) ?_
    rw [nI_clamp (by omega)]
    refine ev_aloadT_n i173_864 rfl ?_
    refine ev_iload_n i173_865 rfl ?_
    refine ev_iconst (v := nI 3) i173_866 (by decide) ?_
    refine evn_iadd i173_867 ?_
    refine ev_tald i173_868 (by decide) h4 (dxIn_n (by omega)) ?_
    rw [nI_clamp (by omega)]
    refine ev_if_eq (t := 876) i173_869 (by decide) (fun z869 => ?_) (fun z869 => by exfalso; exact z869 hb)
    refine ev_iconst (v := nI 0) i173_876 (by decide) ?_
    refine ev_callV (vs := [.int (xs (i + 1)), .int (xs (i + 2)), .int (nI 0)]) (rest := []) i173_877 ci173 lk9_112 (congrArg (fun q => q + 1) np90) ci90 (by decide) (by decide +kernel) (Nat.le_of_ble_eq_true rfl) ⟨rfl, rfl, Nat.le_of_ble_eq_true rfl⟩ rfl (by assumption) (hp) (fun r H1 hq => ?_)
    obtain ⟨rfl, ⟨fs, c1⟩, hp2⟩ := hq
    show Ev tb 173 880 [some (.float 4), some (.ref 0), some (.ref 111), some (.int (nI i))] [.int v] H1 _
    refine ev_aload_n i173_880 rfl ?_
    refine ev_aloadT_n i173_881 rfl ?_
    refine ev_iload_n i173_882 rfl ?_
    refine ev_iconst (v := nI 1) i173_883 (by decide) ?_
    refine evn_iadd i173_884 ?_
    refine ev_tald i173_885 (by decide) h4 (dxIn_n (by omega)) ?_
    rw [nI_clamp (by omega)]
    refine ev_aloadT_n i173_886 rfl ?_
    refine ev_iload_n i173_887 rfl ?_
    refine ev_iconst (v := nI 2) i173_888 (by decide) ?_
    refine evn_iadd i173_889 ?_
    refine ev_tald i173_890 (by decide) h4 (dxIn_n (by omega)) ?_
    rw [nI_clamp (by omega)]
    refine ev_aloadT_n i173_891 rfl ?_
    refine ev_iload_n i173_892 rfl ?_
    refine ev_iconst (v := nI 3) i173_893 (by decide) ?_
    refine evn_iadd i173_894 ?_
    refine ev_tald i173_895 (by decide) h4 (dxIn_n (by omega)) ?_
    rw [nI_clamp (by omega)]
    refine ev_if_eq (t := 903) i173_896 (by decide) (fun z896 => ?_) (fun z896 => by exfalso; exact z896 hb)
    refine ev_iconst (v := nI 0) i173_903 (by decide) ?_
    refine ev_callV (vs := [.int (xs (i + 1)), .int (xs (i + 2)), .int (nI 0)]) (rest := [.int v]) i173_904 ci173 lk9_115 (congrArg (fun q => q + 1) np166) ci166 (by decide) (by decide +kernel) (Nat.le_of_ble_eq_true rfl) ⟨rfl, rfl, Nat.le_of_ble_eq_true rfl⟩ rfl (by assumption) (hp2) (fun r H2 hq => ?_)
    obtain ⟨rfl, hG2, hl2⟩ := hq
    show Ev tb 173 907 [some (.float 4), some (.ref 0), some (.ref 111), some (.int (nI i))] [.int v, .int v] H2 _
    refine ev_icmp_eq (t := 1058) i173_907 (by decide) (fun z907 => ?_) (fun z907 => by exfalso; exact z907 rfl)
    exact hQ H2 hG2 hl2
  · obtain ⟨v, hp⟩ := pr_chance (tb := tb) (xs (i + 1)) (xs (i + 2)) (true) hG
    refine ev_aload_n i173_853 rfl ?_
    refine ev_aloadT_n i173_854 rfl ?_
    refine ev_iload_n i173_855 rfl ?_
    refine ev_iconst (v := nI 1) i173_856 (by decide) ?_
    refine evn_iadd i173_857 ?_
    refine ev_tald i173_858 (by decide) h4 (dxIn_n (by omega)) ?_
    rw [nI_clamp (by omega)]
    refine ev_aloadT_n i173_859 rfl ?_
    refine ev_iload_n i173_860 rfl ?_
    refine ev_iconst (v := nI 2) i173_861 (by decide) ?_
    refine evn_iadd i173_862 ?_
    refine ev_tald i173_863 (by decide) h4 (dxIn_n (by omega)) ?_
    rw [nI_clamp (by omega)]
    refine ev_aloadT_n i173_864 rfl ?_
    refine ev_iload_n i173_865 rfl ?_
    refine ev_iconst (v := nI 3) i173_866 (by decide) ?_
    refine evn_iadd i173_867 ?_
    refine ev_tald i173_868 (by decide) h4 (dxIn_n (by omega)) ?_
    rw [nI_clamp (by omega)]
    refine ev_if_eq (t := 876) i173_869 (by decide) (fun z869 => by exfalso; exact hb z869) (fun z869 => ?_)
    refine ev_iconst (v := nI 1) i173_872 (by decide) ?_
    refine ev_goto (t := 877) i173_873 (by decide) ?_
    refine ev_callV (vs := [.int (xs (i + 1)), .int (xs (i + 2)), .int (nI 1)]) (rest := []) i173_877 ci173 lk9_112 (congrArg (fun q => q + 1) np90) ci90 (by decide) (by decide +kernel) (Nat.le_of_ble_eq_true rfl) ⟨rfl, rfl, Nat.le_of_ble_eq_true rfl⟩ rfl (by assumption) (hp) (fun r H1 hq => ?_)
    obtain ⟨rfl, ⟨fs, c1⟩, hp2⟩ := hq
    show Ev tb 173 880 [some (.float 4), some (.ref 0), some (.ref 111), some (.int (nI i))] [.int v] H1 _
    refine ev_aload_n i173_880 rfl ?_
    refine ev_aloadT_n i173_881 rfl ?_
    refine ev_iload_n i173_882 rfl ?_
    refine ev_iconst (v := nI 1) i173_883 (by decide) ?_
    refine evn_iadd i173_884 ?_
    refine ev_tald i173_885 (by decide) h4 (dxIn_n (by omega)) ?_
    rw [nI_clamp (by omega)]
    refine ev_aloadT_n i173_886 rfl ?_
    refine ev_iload_n i173_887 rfl ?_
    refine ev_iconst (v := nI 2) i173_888 (by decide) ?_
    refine evn_iadd i173_889 ?_
    refine ev_tald i173_890 (by decide) h4 (dxIn_n (by omega)) ?_
    rw [nI_clamp (by omega)]
    refine ev_aloadT_n i173_891 rfl ?_
    refine ev_iload_n i173_892 rfl ?_
    refine ev_iconst (v := nI 3) i173_893 (by decide) ?_
    refine evn_iadd i173_894 ?_
    refine ev_tald i173_895 (by decide) h4 (dxIn_n (by omega)) ?_
    rw [nI_clamp (by omega)]
    refine ev_if_eq (t := 903) i173_896 (by decide) (fun z896 => by exfalso; exact hb z896) (fun z896 => ?_)
    refine ev_iconst (v := nI 1) i173_899 (by decide) ?_
    refine ev_goto (t := 904) i173_900 (by decide) ?_
    refine ev_callV (vs := [.int (xs (i + 1)), .int (xs (i + 2)), .int (nI 1)]) (rest := [.int v]) i173_904 ci173 lk9_115 (congrArg (fun q => q + 1) np166) ci166 (by decide) (by decide +kernel) (Nat.le_of_ble_eq_true rfl) ⟨rfl, rfl, Nat.le_of_ble_eq_true rfl⟩ rfl (by assumption) (hp2) (fun r H2 hq => ?_)
    obtain ⟨rfl, hG2, hl2⟩ := hq
    show Ev tb 173 907 [some (.float 4), some (.ref 0), some (.ref 111), some (.int (nI i))] [.int v, .int v] H2 _
    refine ev_icmp_eq (t := 1058) i173_907 (by decide) (fun z907 => ?_) (fun z907 => by exfalso; exact z907 rfl)
    exact hQ H2 hG2 hl2
theorem lw_912 {tb : dxT} {L : Nat} {xs : Nat → Int32} (h4 : tb 4 = (L, xs)) (hTb : tbOK tb) (hL : L ≤ 320) {i : Nat} {H : dxH} {Q : Option Value → dxH → Prop} (hi : i + 5 ≤ L) (hG : Good H) (hQ : ∀ H2, Good H2 → H2.length = H.length → Ev tb 173 1058 [some (.float 4), some (.ref 0), some (.ref 111), some (.int (nI i))] [] H2 Q) : Ev tb 173 912 [some (.float 4), some (.ref 0), some (.ref 111), some (.int (nI i))] [] H Q := by
  obtain ⟨gf, g0⟩ : ∃ fs, H[0]? = some (.inr (7, fs)) := by
    obtain ⟨_, _, _, _, _, _, _, _, _, _, _, _, _, _, sed, hC, _⟩ := id hG
    exact ⟨_, hC.1⟩
  obtain ⟨v, hp⟩ := pr_seed (tb := tb) (((xs (i + 1)).toInt64 <<< ((nI 32).toInt64 &&& 63)) ||| ((xs (i + 2)).toInt64 &&& 4294967295)) hG
  refine ev_aload_n i173_912 rfl ?_
  refine ev_aloadT_n i173_913 rfl ?_
  refine ev_iload_n i173_914 rfl ?_
  refine ev_iconst (v := nI 1) i173_915 (by decide) ?_
  refine evn_iadd i173_916 ?_
  refine ev_tald i173_917 (by decide) h4 (dxIn_n (by omega)) ?_
  rw [nI_clamp (by omega)]
  refine ev_i2l i173_918 ?_
  refine ev_bipush (v := nI 32) i173_919 (by decide) ?_
  refine ev_lshl i173_921 ?_
  refine ev_aloadT_n i173_922 rfl ?_
  refine ev_iload_n i173_923 rfl ?_
  refine ev_iconst (v := nI 2) i173_924 (by decide) ?_
  refine evn_iadd i173_925 ?_
  refine ev_tald i173_926 (by decide) h4 (dxIn_n (by omega)) ?_
  rw [nI_clamp (by omega)]
  refine ev_i2l i173_927 ?_
  refine ev_ldc2 i173_928 ci173 ks9_116 ?_
  refine ev_land i173_931 ?_
  refine ev_lor i173_932 ?_
  refine ev_callV (vs := [.long ((((xs (i + 1)).toInt64) <<< ((nI 32).toInt64 &&& 63)) ||| (((xs (i + 2)).toInt64) &&& 4294967295))]) (rest := []) i173_933 ci173 lk9_118 (congrArg (fun q => q + 1) np91) ci91 (by decide) (by decide +kernel) (Nat.le_of_ble_eq_true rfl) ⟨rfl, rfl, Nat.le_of_ble_eq_true rfl⟩ rfl (by assumption) (hp) (fun r H1 hq => ?_)
  obtain ⟨rfl, ⟨fs, c1⟩, hp2⟩ := hq
  show Ev tb 173 936 [some (.float 4), some (.ref 0), some (.ref 111), some (.int (nI i))] [.long v] H1 _
  refine ev_aload_n i173_936 rfl ?_
  refine ev_aloadT_n i173_937 rfl ?_
  refine ev_iload_n i173_938 rfl ?_
  refine ev_iconst (v := nI 1) i173_939 (by decide) ?_
  refine evn_iadd i173_940 ?_
  refine ev_tald i173_941 (by decide) h4 (dxIn_n (by omega)) ?_
  rw [nI_clamp (by omega)]
  refine ev_i2l i173_942 ?_
  refine ev_bipush (v := nI 32) i173_943 (by decide) ?_
  refine ev_lshl i173_945 ?_
  refine ev_aloadT_n i173_946 rfl ?_
  refine ev_iload_n i173_947 rfl ?_
  refine ev_iconst (v := nI 2) i173_948 (by decide) ?_
  refine evn_iadd i173_949 ?_
  refine ev_tald i173_950 (by decide) h4 (dxIn_n (by omega)) ?_
  rw [nI_clamp (by omega)]
  refine ev_i2l i173_951 ?_
  refine ev_ldc2 i173_952 ci173 ks9_116 ?_
  refine ev_land i173_955 ?_
  refine ev_lor i173_956 ?_
  refine ev_callV (vs := [.long ((((xs (i + 1)).toInt64) <<< ((nI 32).toInt64 &&& 63)) ||| (((xs (i + 2)).toInt64) &&& 4294967295))]) (rest := [.long v]) i173_957 ci173 lk9_122 (congrArg (fun q => q + 1) np167) ci167 (by decide) (by decide +kernel) (Nat.le_of_ble_eq_true rfl) ⟨rfl, rfl, Nat.le_of_ble_eq_true rfl⟩ rfl (by assumption) (hp2) (fun r H2 hq => ?_)
  obtain ⟨rfl, hG2, hl2⟩ := hq
  show Ev tb 173 960 [some (.float 4), some (.ref 0), some (.ref 111), some (.int (nI i))] [.long v, .long v] H2 _
  refine ev_lcmp i173_960 ?_
  refine ev_if_eq (t := 1058) i173_961 (by decide) (fun z961 => ?_) (fun z961 => by exfalso; exact z961 (lg_self v))
  exact hQ H2 hG2 hl2
theorem lw_966 {tb : dxT} {L : Nat} {xs : Nat → Int32} (h4 : tb 4 = (L, xs)) (hTb : tbOK tb) (hL : L ≤ 320) {i : Nat} {H : dxH} {Q : Option Value → dxH → Prop} (hi : i + 5 ≤ L) (hG : Good H) (hQ : ∀ H2, Good H2 → H2.length = H.length → Ev tb 173 1058 [some (.float 4), some (.ref 0), some (.ref 111), some (.int (nI i))] [] H2 Q) : Ev tb 173 966 [some (.float 4), some (.ref 0), some (.ref 111), some (.int (nI i))] [] H Q := by
  obtain ⟨gf, g0⟩ : ∃ fs, H[0]? = some (.inr (7, fs)) := by
    obtain ⟨_, _, _, _, _, _, _, _, _, _, _, _, _, _, sed, hC, _⟩ := id hG
    exact ⟨_, hC.1⟩
  obtain ⟨v, hp⟩ := pr_summers (tb := tb) (xs (i + 1)) hG
  refine ev_aload_n i173_966 rfl ?_
  refine ev_aloadT_n i173_967 rfl ?_
  refine ev_iload_n i173_968 rfl ?_
  refine ev_iconst (v := nI 1) i173_969 (by decide) ?_
  refine evn_iadd i173_970 ?_
  refine ev_tald i173_971 (by decide) h4 (dxIn_n (by omega)) ?_
  rw [nI_clamp (by omega)]
  refine ev_callV (vs := [.int (xs (i + 1))]) (rest := []) i173_972 ci173 lk9_123 (congrArg (fun q => q + 1) np92) ci92 (by decide) (by decide +kernel) (Nat.le_of_ble_eq_true rfl) ⟨rfl, rfl, Nat.le_of_ble_eq_true rfl⟩ rfl (by assumption) (hp) (fun r H1 hq => ?_)
  obtain ⟨rfl, ⟨fs, c1⟩, hp2⟩ := hq
  show Ev tb 173 975 [some (.float 4), some (.ref 0), some (.ref 111), some (.int (nI i))] [.int v] H1 _
  refine ev_aload_n i173_975 rfl ?_
  refine ev_aloadT_n i173_976 rfl ?_
  refine ev_iload_n i173_977 rfl ?_
  refine ev_iconst (v := nI 1) i173_978 (by decide) ?_
  refine evn_iadd i173_979 ?_
  refine ev_tald i173_980 (by decide) h4 (dxIn_n (by omega)) ?_
  rw [nI_clamp (by omega)]
  refine ev_callV (vs := [.int (xs (i + 1))]) (rest := [.int v]) i173_981 ci173 lk9_126 (congrArg (fun q => q + 1) np168) ci168 (by decide) (by decide +kernel) (Nat.le_of_ble_eq_true rfl) ⟨rfl, rfl, Nat.le_of_ble_eq_true rfl⟩ rfl (by assumption) (hp2) (fun r H2 hq => ?_)
  obtain ⟨rfl, hG2, hl2⟩ := hq
  show Ev tb 173 984 [some (.float 4), some (.ref 0), some (.ref 111), some (.int (nI i))] [.int v, .int v] H2 _
  refine ev_icmp_eq (t := 1058) i173_984 (by decide) (fun z984 => ?_) (fun z984 => by exfalso; exact z984 rfl)
  exact hQ H2 hG2 hl2
theorem lw_989 {tb : dxT} {L : Nat} {xs : Nat → Int32} (h4 : tb 4 = (L, xs)) (hTb : tbOK tb) (hL : L ≤ 320) {i : Nat} {H : dxH} {Q : Option Value → dxH → Prop} (hi : i + 5 ≤ L) (hG : Good H) (hQ : ∀ H2, Good H2 → H2.length = H.length → Ev tb 173 1058 [some (.float 4), some (.ref 0), some (.ref 111), some (.int (nI i))] [] H2 Q) : Ev tb 173 989 [some (.float 4), some (.ref 0), some (.ref 111), some (.int (nI i))] [] H Q := by
  obtain ⟨gf, g0⟩ : ∃ fs, H[0]? = some (.inr (7, fs)) := by
    obtain ⟨_, _, _, _, _, _, _, _, _, _, _, _, _, _, sed, hC, _⟩ := id hG
    exact ⟨_, hC.1⟩
  obtain ⟨v, hp⟩ := pr_keep (tb := tb) (xs (i + 1)) hG
  refine ev_aload_n i173_989 rfl ?_
  refine ev_aloadT_n i173_990 rfl ?_
  refine ev_iload_n i173_991 rfl ?_
  refine ev_iconst (v := nI 1) i173_992 (by decide) ?_
  refine evn_iadd i173_993 ?_
  refine ev_tald i173_994 (by decide) h4 (dxIn_n (by omega)) ?_
  rw [nI_clamp (by omega)]
  refine ev_callV (vs := [.int (xs (i + 1))]) (rest := []) i173_995 ci173 lk9_127 (congrArg (fun q => q + 1) np93) ci93 (by decide) (by decide +kernel) (Nat.le_of_ble_eq_true rfl) ⟨rfl, rfl, Nat.le_of_ble_eq_true rfl⟩ rfl (by assumption) (hp) (fun r H1 hq => ?_)
  obtain ⟨rfl, ⟨fs, c1⟩, hp2⟩ := hq
  show Ev tb 173 998 [some (.float 4), some (.ref 0), some (.ref 111), some (.int (nI i))] [.int v] H1 _
  refine ev_aload_n i173_998 rfl ?_
  refine ev_aloadT_n i173_999 rfl ?_
  refine ev_iload_n i173_1000 rfl ?_
  refine ev_iconst (v := nI 1) i173_1001 (by decide) ?_
  refine evn_iadd i173_1002 ?_
  refine ev_tald i173_1003 (by decide) h4 (dxIn_n (by omega)) ?_
  rw [nI_clamp (by omega)]
  refine ev_callV (vs := [.int (xs (i + 1))]) (rest := [.int v]) i173_1004 ci173 lk9_130 (congrArg (fun q => q + 1) np169) ci169 (by decide) (by decide +kernel) (Nat.le_of_ble_eq_true rfl) ⟨rfl, rfl, Nat.le_of_ble_eq_true rfl⟩ rfl (by assumption) (hp2) (fun r H2 hq => ?_)
  obtain ⟨rfl, hG2, hl2⟩ := hq
  show Ev tb 173 1007 [some (.float 4), some (.ref 0), some (.ref 111), some (.int (nI i))] [.int v, .int v] H2 _
  refine ev_icmp_eq (t := 1058) i173_1007 (by decide) (fun z1007 => ?_) (fun z1007 => by exfalso; exact z1007 rfl)
  exact hQ H2 hG2 hl2
theorem lw_1012 {tb : dxT} {L : Nat} {xs : Nat → Int32} (h4 : tb 4 = (L, xs)) (hTb : tbOK tb) (hL : L ≤ 320) {i : Nat} {H : dxH} {Q : Option Value → dxH → Prop} (hi : i + 5 ≤ L) (hG : Good H) (hQ : ∀ H2, Good H2 → H2.length = H.length → Ev tb 173 1058 [some (.float 4), some (.ref 0), some (.ref 111), some (.int (nI i))] [] H2 Q) : Ev tb 173 1012 [some (.float 4), some (.ref 0), some (.ref 111), some (.int (nI i))] [] H Q := by
  obtain ⟨gf, g0⟩ : ∃ fs, H[0]? = some (.inr (7, fs)) := by
    obtain ⟨_, _, _, _, _, _, _, _, _, _, _, _, _, _, sed, hC, _⟩ := id hG
    exact ⟨_, hC.1⟩
  obtain ⟨v, hp⟩ := pr_again (tb := tb) (xs (i + 1)) hG
  refine ev_aload_n i173_1012 rfl ?_
  refine ev_aloadT_n i173_1013 rfl ?_
  refine ev_iload_n i173_1014 rfl ?_
  refine ev_iconst (v := nI 1) i173_1015 (by decide) ?_
  refine evn_iadd i173_1016 ?_
  refine ev_tald i173_1017 (by decide) h4 (dxIn_n (by omega)) ?_
  rw [nI_clamp (by omega)]
  refine ev_callV (vs := [.int (xs (i + 1))]) (rest := []) i173_1018 ci173 lk9_131 (congrArg (fun q => q + 1) np94) ci94 (by decide) (by decide +kernel) (Nat.le_of_ble_eq_true rfl) ⟨rfl, rfl, Nat.le_of_ble_eq_true rfl⟩ rfl (by assumption) (hp) (fun r H1 hq => ?_)
  obtain ⟨rfl, ⟨fs, c1⟩, hp2⟩ := hq
  show Ev tb 173 1021 [some (.float 4), some (.ref 0), some (.ref 111), some (.int (nI i))] [.int v] H1 _
  refine ev_aload_n i173_1021 rfl ?_
  refine ev_aloadT_n i173_1022 rfl ?_
  refine ev_iload_n i173_1023 rfl ?_
  refine ev_iconst (v := nI 1) i173_1024 (by decide) ?_
  refine evn_iadd i173_1025 ?_
  refine ev_tald i173_1026 (by decide) h4 (dxIn_n (by omega)) ?_
  rw [nI_clamp (by omega)]
  refine ev_callV (vs := [.int (xs (i + 1))]) (rest := [.int v]) i173_1027 ci173 lk9_134 (congrArg (fun q => q + 1) np170) ci170 (by decide) (by decide +kernel) (Nat.le_of_ble_eq_true rfl) ⟨rfl, rfl, Nat.le_of_ble_eq_true rfl⟩ rfl (by assumption) (hp2) (fun r H2 hq => ?_)
  obtain ⟨rfl, hG2, hl2⟩ := hq
  show Ev tb 173 1030 [some (.float 4), some (.ref 0), some (.ref 111), some (.int (nI i))] [.int v, .int v] H2 _
  refine ev_icmp_eq (t := 1058) i173_1030 (by decide) (fun z1030 => ?_) (fun z1030 => by exfalso; exact z1030 rfl)
  exact hQ H2 hG2 hl2
theorem lw_1035 {tb : dxT} {L : Nat} {xs : Nat → Int32} (h4 : tb 4 = (L, xs)) (hTb : tbOK tb) (hL : L ≤ 320) {i : Nat} {H : dxH} {Q : Option Value → dxH → Prop} (hi : i + 5 ≤ L) (hG : Good H) (hQ : ∀ H2, Good H2 → H2.length = H.length → Ev tb 173 1058 [some (.float 4), some (.ref 0), some (.ref 111), some (.int (nI i))] [] H2 Q) : Ev tb 173 1035 [some (.float 4), some (.ref 0), some (.ref 111), some (.int (nI i))] [] H Q := by
  obtain ⟨gf, g0⟩ : ∃ fs, H[0]? = some (.inr (7, fs)) := by
    obtain ⟨_, _, _, _, _, _, _, _, _, _, _, _, _, _, sed, hC, _⟩ := id hG
    exact ⟨_, hC.1⟩
  obtain ⟨v, hp⟩ := pr_count (tb := tb) (xs (i + 1)) hG
  refine ev_aload_n i173_1035 rfl ?_
  refine ev_aloadT_n i173_1036 rfl ?_
  refine ev_iload_n i173_1037 rfl ?_
  refine ev_iconst (v := nI 1) i173_1038 (by decide) ?_
  refine evn_iadd i173_1039 ?_
  refine ev_tald i173_1040 (by decide) h4 (dxIn_n (by omega)) ?_
  rw [nI_clamp (by omega)]
  refine ev_callV (vs := [.int (xs (i + 1))]) (rest := []) i173_1041 ci173 lk9_135 (congrArg (fun q => q + 1) np95) ci95 (by decide) (by decide +kernel) (Nat.le_of_ble_eq_true rfl) ⟨rfl, rfl, Nat.le_of_ble_eq_true rfl⟩ rfl (by assumption) (hp) (fun r H1 hq => ?_)
  obtain ⟨rfl, ⟨fs, c1⟩, hp2⟩ := hq
  show Ev tb 173 1044 [some (.float 4), some (.ref 0), some (.ref 111), some (.int (nI i))] [.int v] H1 _
  refine ev_aload_n i173_1044 rfl ?_
  refine ev_aloadT_n i173_1045 rfl ?_
  refine ev_iload_n i173_1046 rfl ?_
  refine ev_iconst (v := nI 1) i173_1047 (by decide) ?_
  refine evn_iadd i173_1048 ?_
  refine ev_tald i173_1049 (by decide) h4 (dxIn_n (by omega)) ?_
  rw [nI_clamp (by omega)]
  refine ev_callV (vs := [.int (xs (i + 1))]) (rest := [.int v]) i173_1050 ci173 lk9_138 (congrArg (fun q => q + 1) np171) ci171 (by decide) (by decide +kernel) (Nat.le_of_ble_eq_true rfl) ⟨rfl, rfl, Nat.le_of_ble_eq_true rfl⟩ rfl (by assumption) (hp2) (fun r H2 hq => ?_)
  obtain ⟨rfl, hG2, hl2⟩ := hq
  show Ev tb 173 1053 [some (.float 4), some (.ref 0), some (.ref 111), some (.int (nI i))] [.int v, .int v] H2 _
  refine ev_icmp_eq (t := 1058) i173_1053 (by decide) (fun z1053 => ?_) (fun z1053 => by exfalso; exact z1053 rfl)
  exact hQ H2 hG2 hl2
theorem lw_sw {tb : dxT} {L : Nat} {xs : Nat → Int32} (h4 : tb 4 = (L, xs)) (hTb : tbOK tb) (hL : L ≤ 320) {i c : Nat} {H : dxH} {Q : Option Value → dxH → Prop} (hc : c < 32) (hi : i + 5 ≤ L) (hG : Good H) (hQ : ∀ H2, Good H2 → H2.length = H.length → Ev tb 173 1058 [some (.float 4), some (.ref 0), some (.ref 111), some (.int (nI i))] [] H2 Q) : Ev tb 173 32 [some (.float 4), some (.ref 0), some (.ref 111), some (.int (nI i))] [.int (nI c)] H Q := by
  match c, hc with
  | 0, _ => exact ev_tabIn (o := 132) (t := 164) i173_32 (by decide) (by decide) (by decide) (lw_164 h4 hTb hL hi hG hQ)
  | 1, _ => exact ev_tabIn (o := 155) (t := 187) i173_32 (by decide) (by decide) (by decide) (lw_187 h4 hTb hL hi hG hQ)
  | 2, _ => exact ev_tabIn (o := 168) (t := 200) i173_32 (by decide) (by decide) (by decide) (lw_200 h4 hTb hL hi hG hQ)
  | 3, _ => exact ev_tabIn (o := 181) (t := 213) i173_32 (by decide) (by decide) (by decide) (lw_213 h4 hTb hL hi hG hQ)
  | 4, _ => exact ev_tabIn (o := 194) (t := 226) i173_32 (by decide) (by decide) (by decide) (lw_226 h4 hTb hL hi hG hQ)
  | 5, _ => exact ev_tabIn (o := 217) (t := 249) i173_32 (by decide) (by decide) (by decide) (lw_249 h4 hTb hL hi hG hQ)
  | 6, _ => exact ev_tabIn (o := 250) (t := 282) i173_32 (by decide) (by decide) (by decide) (lw_282 h4 hTb hL hi hG hQ)
  | 7, _ => exact ev_tabIn (o := 289) (t := 321) i173_32 (by decide) (by decide) (by decide) (lw_321 h4 hTb hL hi hG hQ)
  | 8, _ => exact ev_tabIn (o := 322) (t := 354) i173_32 (by decide) (by decide) (by decide) (lw_354 h4 hTb hL hi hG hQ)
  | 9, _ => exact ev_tabIn (o := 345) (t := 377) i173_32 (by decide) (by decide) (by decide) (lw_377 h4 hTb hL hi hG hQ)
  | 10, _ => exact ev_tabIn (o := 358) (t := 390) i173_32 (by decide) (by decide) (by decide) (lw_390 h4 hTb hL hi hG hQ)
  | 11, _ => exact ev_tabIn (o := 371) (t := 403) i173_32 (by decide) (by decide) (by decide) (lw_403 h4 hTb hL hi hG hQ)
  | 12, _ => exact ev_tabIn (o := 394) (t := 426) i173_32 (by decide) (by decide) (by decide) (lw_426 h4 hTb hL hi hG hQ)
  | 13, _ => exact ev_tabIn (o := 417) (t := 449) i173_32 (by decide) (by decide) (by decide) (lw_449 h4 hTb hL hi hG hQ)
  | 14, _ => exact ev_tabIn (o := 450) (t := 482) i173_32 (by decide) (by decide) (by decide) (lw_482 h4 hTb hL hi hG hQ)
  | 15, _ => exact ev_tabIn (o := 519) (t := 551) i173_32 (by decide) (by decide) (by decide) (lw_551 h4 hTb hL hi hG hQ)
  | 16, _ => exact ev_tabIn (o := 568) (t := 600) i173_32 (by decide) (by decide) (by decide) (lw_600 h4 hTb hL hi hG hQ)
  | 17, _ => exact ev_tabIn (o := 601) (t := 633) i173_32 (by decide) (by decide) (by decide) (lw_633 h4 hTb hL hi hG hQ)
  | 18, _ => exact ev_tabIn (o := 660) (t := 692) i173_32 (by decide) (by decide) (by decide) (lw_692 h4 hTb hL hi hG hQ)
  | 19, _ => exact ev_tabIn (o := 693) (t := 725) i173_32 (by decide) (by decide) (by decide) (lw_725 h4 hTb hL hi hG hQ)
  | 20, _ => exact ev_tabIn (o := 752) (t := 784) i173_32 (by decide) (by decide) (by decide) (lw_784 h4 hTb hL hi hG hQ)
  | 21, _ => exact ev_tabIn (o := 765) (t := 797) i173_32 (by decide) (by decide) (by decide) (lw_797 h4 hTb hL hi hG hQ)
  | 22, _ => exact ev_tabIn (o := 788) (t := 820) i173_32 (by decide) (by decide) (by decide) (lw_820 h4 hTb hL hi hG hQ)
  | 23, _ => exact ev_tabIn (o := 821) (t := 853) i173_32 (by decide) (by decide) (by decide) (lw_853 h4 hTb hL hi hG hQ)
  | 24, _ => exact ev_tabIn (o := 880) (t := 912) i173_32 (by decide) (by decide) (by decide) (lw_912 h4 hTb hL hi hG hQ)
  | 25, _ => exact ev_tabIn (o := 934) (t := 966) i173_32 (by decide) (by decide) (by decide) (lw_966 h4 hTb hL hi hG hQ)
  | 26, _ => exact ev_tabIn (o := 957) (t := 989) i173_32 (by decide) (by decide) (by decide) (lw_989 h4 hTb hL hi hG hQ)
  | 27, _ => exact ev_tabIn (o := 980) (t := 1012) i173_32 (by decide) (by decide) (by decide) (lw_1012 h4 hTb hL hi hG hQ)
  | 28, _ => exact ev_tabIn (o := 1003) (t := 1035) i173_32 (by decide) (by decide) (by decide) (lw_1035 h4 hTb hL hi hG hQ)
  | 29, _ => exact ev_tabOut (t := 1058) i173_32 (by decide) (by decide) (hQ H hG rfl)
  | 30, _ => exact ev_tabOut (t := 1058) i173_32 (by decide) (by decide) (hQ H hG rfl)
  | 31, _ => exact ev_tabOut (t := 1058) i173_32 (by decide) (by decide) (hQ H hG rfl)
  | k + 32, hc => exact absurd hc (by omega)
theorem lw_loop {tb : dxT} {L : Nat} {xs : Nat → Int32} (h4 : tb 4 = (L, xs)) (hTb : tbOK tb) (hL : L ≤ 320) {N : Nat} : ∀ (d i : Nat) (H : dxH), L < i + 5 * (d + 1) → i ≤ 400 → Good H → H.length = N → Ev tb 173 18 [some (.float 4), some (.ref 0), some (.ref 111), some (.int (nI i))] [] H (fun r H' => r = some (.int (nI 1)) ∧ H'.length = N)
  | 0, i, H, hd, hi, hG, hN => by
    refine ev_iload_n i173_18 rfl ?_
    refine ev_aloadT_n i173_19 rfl ?_
    refine ev_tlen i173_20 (by decide) h4 ?_
    refine ev_iconst (v := nI 5) i173_21 (by decide) ?_
    refine ev_isub i173_22 ?_
    refine ev_icmp_gt (t := 1064) i173_23 (by decide) (fun z23 => ?_) (fun z23 => by exfalso; exact z23 ((len5 (by omega) (by omega)).mpr (by omega)))
    refine ev_iconst (v := nI 1) i173_1064 (by decide) ?_
    refine ev_zret i173_1065 (by decide +kernel) (by decide) ?_
    exact ⟨rfl, hN⟩
  | d + 1, i, H, hd, hi, hG, hN => by
    by_cases he : L < i + 5
    · refine ev_iload_n i173_18 rfl ?_
      refine ev_aloadT_n i173_19 rfl ?_
      refine ev_tlen i173_20 (by decide) h4 ?_
      refine ev_iconst (v := nI 5) i173_21 (by decide) ?_
      refine ev_isub i173_22 ?_
      refine ev_icmp_gt (t := 1064) i173_23 (by decide) (fun z23 => ?_) (fun z23 => by exfalso; exact z23 ((len5 (by omega) (by omega)).mpr (by omega)))
      refine ev_iconst (v := nI 1) i173_1064 (by decide) ?_
      refine ev_zret i173_1065 (by decide +kernel) (by decide) ?_
      exact ⟨rfl, hN⟩
    · refine ev_iload_n i173_18 rfl ?_
      refine ev_aloadT_n i173_19 rfl ?_
      refine ev_tlen i173_20 (by decide) h4 ?_
      refine ev_iconst (v := nI 5) i173_21 (by decide) ?_
      refine ev_isub i173_22 ?_
      refine ev_icmp_gt (t := 1064) i173_23 (by decide) (fun z23 => by exfalso; exact he ((len5 (by omega) (by omega)).mp z23)) (fun z23 => ?_)
      refine ev_aloadT_n i173_26 rfl ?_
      refine ev_iload_n i173_27 rfl ?_
      refine ev_tald i173_28 (by decide) h4 (dxIn_n (by omega)) ?_
      rw [nI_clamp (by omega)]
      refine ev_bipush (v := nI 31) i173_29 (by decide) ?_
      refine ev_iand i173_31 ?_
      obtain ⟨c, hc, ec⟩ := and31 (xs i)
      rw [ec]
      refine lw_sw h4 hTb hL hc (by omega) hG (fun H2 hG2 hl2 => ?_)
      refine evn_iinc (d := 5) (L' := [some (.float 4), some (.ref 0), some (.ref 111), some (.int (nI (i + 5)))]) i173_1058 rfl rfl (by decide) rfl ?_
      refine ev_goto (t := 18) i173_1061 (by decide) ?_
      exact lw_loop h4 hTb hL d (i + 5) H2 (by omega) (by omega) hG2 (hl2.trans hN)
