/-! The output text. -/
theorem by_n : ∀ k < 128, vp_nar .byte ((nI k).toInt8.toInt32) = nI k := by decide +kernel
theorem by_m : ∀ k < 128, vp_nar .byte (nI k) = nI k := by decide +kernel
theorem ch_b : ∀ k < 128, (((nI k) &&& 255).toUInt32 % 65536).toInt32 = nI k := by decide +kernel
theorem ch_w : ∀ k < 128, vp_nar .char (((nI k).toUInt32 % 65536).toInt32) = nI k := by decide +kernel
/-- both texts, l characters long -/
def oT (Mc Mm : ml_M) (l : Nat) : Prop := Mc 9 1 = 0 ∧ Mc 9 3 = nI l ∧ Mm 11 7 = nI l ∧ ∀ j, j < l → ∃ c, c < 128 ∧ Mc 10 j = nI c ∧ Mm 13 j = nI c
def gC (Mc Mc' : ml_M) : Prop := ∀ p, p ≠ 9 → p ≠ 10 → Mc' p = Mc p
def gM (Mm Mm' : ml_M) : Prop := (∀ p, p ≠ 11 → p ≠ 13 → Mm' p = Mm p) ∧ ∀ q, q ≠ 7 → Mm' 11 q = Mm 11 q
theorem gC.tr {M M1 M2 : ml_M} (h : gC M M1) (h2 : gC M1 M2) : gC M M2 := fun p a b => (h2 p a b).trans (h p a b)
theorem gM.tr {M M1 M2 : ml_M} (h : gM M M1) (h2 : gM M1 M2) : gM M M2 := ⟨fun p a b => (h2.1 p a b).trans (h.1 p a b), fun q a => (h2.2 q a).trans (h.2 q a)⟩
theorem ec_c {M : ml_M} {k : Nat} (h1 : M 9 1 = 0) (hk : k ≤ 16) : fJ5_ensureCapacityInternal_d00df (nI k) M = some (.inl 0, M) := by
  unfold fJ5_ensureCapacityInternal_d00df
  have e : nI k - 16 ≤ 0 := by
    have e1 : nI k - nI 16 = -nI (16 - k) := w_neg hk
    have e2 : nI k - 16 = -nI (16 - k) := e1
    rw [e2, Int32.le_iff_toInt_le, w_toInt (by omega)]
    have : (0 : Int32).toInt = 0 := by decide
    omega
  rw [h1, lt_e, show (16 : Int32) >>> (0 &&& 31) = 16 by decide, if_pos e]
theorem la_c {M : ml_M} (h1 : M 9 1 = 0) : fJ5_isLatin1_aae02 M = some (.inl 1, M) := by
  unfold fJ5_isLatin1_aae02
  rw [jn_e, h1, if_pos rfl]
  exact nbi1
theorem ap_c {Mc : ml_M} {l c : Nat} (h1 : Mc 9 1 = 0) (h3 : Mc 9 3 = nI l) (hl : l < 16) (hc : c < 128) : fJ4_append_cf468 (nI c) Mc = some (.inl 0, ml_w (ml_w Mc 9 3 (nI (l + 1))) 10 l (nI c)) := by
  have e1 : fJ1_canEncode_fc78d (nI c) Mc = some (.inl 1, Mc) := by
    unfold fJ1_canEncode_fc78d
    rw [jn_e, if_neg (show ¬ (255 : Int32) < nI c from fun z => by have := (nI_ltI (a := 255) (by decide) (by omega)).mp z; omega)]
    exact nbi1
  unfold fJ4_append_cf468 fJ5_append_3fe6f
  rw [h3, nI_1, ec_c h1 (by omega), bd_e, la_c h1, bd_e, if_1, e1, bd_e, if_1, lt_e, h3, nI_1, if_pos (ok_nI hl (by decide)), nI_clamp (by omega), lt_e, by_n c hc, bd_e]
theorem wr_m {Mm : ml_M} {l c : Nat} (h7 : Mm 11 7 = nI l) (hl : l < 40) (hc : c < 128) : fX7_writes (nI c) Mm = some (.inl 0, ml_w (ml_w Mm 13 l (nI c)) 11 7 (nI (l + 1))) := by
  unfold fX7_writes
  rw [h7, if_pos (ok_nI hl (by decide)), nI_clamp (by omega), ch_w c hc, lt_e, ml_w_ne (show 11 ≠ 13 by decide), h7, nI_1, lt_e]
/-- one character more -/
theorem oc {Mc Mm : ml_M} {l c : Nat} (h : oT Mc Mm l) (hl : l < 16) (hc : c < 128) : ∃ Mc' Mm', fJ4_append_cf468 (nI c) Mc = some (.inl 0, Mc') ∧ fX7_writes (nI c) Mm = some (.inl 0, Mm') ∧ oT Mc' Mm' (l + 1) ∧ gC Mc Mc' ∧ gM Mm Mm' := by
  obtain ⟨h1, h3, h7, hj⟩ := h
  refine ⟨_, _, ap_c h1 h3 hl hc, wr_m h7 (by omega) hc, ⟨?_, ?_, ?_, fun j hjl => ?_⟩, fun p a b => by rw [ml_w_ne b, ml_w_ne a], ⟨fun p a b => by rw [ml_w_ne a, ml_w_ne b], fun q a => by rw [w_un a, ml_w_ne (by decide)]⟩⟩
  · rw [w_off (by omega), w_off (by omega)]; exact h1
  · rw [w_off (by omega), w_at]
  · rw [w_at]
  · by_cases e : j = l
    · subst e
      exact ⟨c, hc, by rw [w_at], by rw [w_off (by omega), w_at]⟩
    · obtain ⟨c0, a1, a2, a3⟩ := hj j (by omega)
      exact ⟨c0, a1, by rw [w_off (by omega), w_off (by omega)]; exact a2, by rw [w_off (by omega), w_off (by omega)]; exact a3⟩
theorem ss_1 : ∀ v < 10, ¬ (-nI v ≤ (-10 : Int32)) := by decide +kernel
theorem ss_2 : ∀ v < 100, 10 ≤ v → (-nI v ≤ (-10 : Int32)) ∧ ¬ (-nI v ≤ (10 * -10 : Int32)) := by decide +kernel
theorem gc_1 : ∀ v < 100, (-100 : Int32) < -nI v := by decide +kernel
theorem gc_2 : ∀ v < 10, (-9 : Int32) ≤ -nI v := by decide +kernel
theorem gc_3 : ∀ v < 100, 10 ≤ v → ¬ ((-9 : Int32) ≤ -nI v) := by decide +kernel
theorem sz_c {v : Nat} (hv : v < 100) (M : ml_M) : fJ6_stringSize_0f7a4 (nI v) M = some (.inl (nI (if v < 10 then 1 else 2)), M) := by
  obtain ⟨z, hz⟩ : ∃ z, ml_fuel = z + 2 := ⟨ml_fuel - 2, by unfold ml_fuel; omega⟩
  unfold fJ6_stringSize_0f7a4
  rw [jn_e, if_neg (nI_pos (by omega)), hz]
  show fJ6_stringSize_0f7a4_s0 (nI v) (fJ6_stringSize_0f7a4_l (nI v) (z + 1)) (-nI v) 0 (-10) 1 M = _
  unfold fJ6_stringSize_0f7a4_s0
  rw [if_neg (by decide)]
  by_cases h : v < 10
  · rw [if_neg (ss_1 v h), if_pos h]
    rfl
  · obtain ⟨a, b⟩ := ss_2 v hv (by omega)
    rw [if_pos a, if_neg h]
    show fJ6_stringSize_0f7a4_s0 (nI v) (fJ6_stringSize_0f7a4_l (nI v) z) (-nI v) 0 (10 * -10) (1 + 1) M = _
    unfold fJ6_stringSize_0f7a4_s0
    rw [if_neg (by decide), if_neg b]
    rfl
theorem gc_c {v k : Nat} (hv : v < 100) (hk : k ≤ 16) (hk1 : (if v < 10 then 1 else 2) ≤ k) (M : ml_M) : ∃ r, fJ6_getChars_ba4f3 (nI v) (nI k) M = some (.inl r, if v < 10 then ml_w M 10 (k - 1) (nI (48 + v % 10)) else ml_w (ml_w M 10 (k - 1) (nI (48 + v % 10))) 10 (k - 2) (nI (48 + v / 10))) := by
  obtain ⟨z, hz⟩ : ∃ z, ml_fuel = z + 1 := ⟨ml_fuel - 1, by unfold ml_fuel; omega⟩
  have nn : -(-nI v) = nI v := Int32.neg_neg
  have okv : ml_ok (nI v) 100 := ok_nI hv (by decide)
  have cv : (nI v).toNatClampNeg = v := nI_clamp (by omega)
  have k1 : 1 ≤ k := by split at hk1 <;> omega
  have m1 : nI k + -1 = nI (k - 1) := by
    obtain ⟨w, rfl⟩ : ∃ w, k = w + 1 := ⟨k - 1, by omega⟩
    exact pk_m1 w
  have ok1 : ml_ok (nI (k - 1)) 16 := ok_nI (by omega) (by decide)
  have c1 : (nI (k - 1)).toNatClampNeg = k - 1 := nI_clamp (by omega)
  have d0 : vp_nar .byte (ml_dig 0 v) = nI (48 + v % 10) := by_m _ (by omega)
  have d1 : vp_nar .byte (ml_dig 1 v) = nI (48 + v / 10) := by_m _ (by omega)
  unfold fJ6_getChars_ba4f3
  rw [jn_e, if_pos (nI_pos' (by omega))]
  dsimp only
  rw [if_pos (show (0 : Int32) = 0 from rfl), hz]
  show ∃ r, fJ6_getChars_ba4f3_s0 (nI v) (nI k) (fJ6_getChars_ba4f3_l (nI v) (nI k) z) (-nI v) (nI k) (nI k) 0 M = _
  unfold fJ6_getChars_ba4f3_s0
  simp only [if_pos (gc_1 v hv), nn, if_pos okv, m1, if_pos ok1, c1, cv, d0, lt_e, jn_e]
  by_cases h : v < 10
  · simp only [if_pos (gc_2 v h), if_pos h, if_T]
    exact ⟨_, rfl⟩
  · have m2 : nI (k - 1) + -1 = nI (k - 2) := by
      rw [if_neg h] at hk1
      obtain ⟨w, rfl⟩ : ∃ w, k = w + 2 := ⟨k - 2, by omega⟩
      exact pk_m1 w
    have ok2 : ml_ok (nI (k - 2)) 16 := ok_nI (by omega) (by decide)
    have c2 : (nI (k - 2)).toNatClampNeg = k - 2 := nI_clamp (by omega)
    simp only [if_neg (gc_3 v hv (by omega)), if_neg h, m2, if_pos ok2, c2, d1, if_T]
    exact ⟨_, rfl⟩
theorem an_c {Mc : ml_M} {l v : Nat} (h1 : Mc 9 1 = 0) (h3 : Mc 9 3 = nI l) (hl : l + 2 ≤ 16) (hv : v < 100) : fJ4_append_bf812 (nI v) Mc = some (.inl 0, if v < 10 then ml_w (ml_w Mc 10 l (nI (48 + v % 10))) 9 3 (nI (l + 1)) else ml_w (ml_w (ml_w Mc 10 (l + 1) (nI (48 + v % 10))) 10 l (nI (48 + v / 10))) 9 3 (nI (l + 2))) := by
  obtain ⟨s, hs⟩ : ∃ s, s = (if v < 10 then 1 else 2) := ⟨_, rfl⟩
  have hs12 : s = 1 ∨ s = 2 := by rw [hs]; split <;> omega
  obtain ⟨r, hr⟩ := gc_c (k := l + s) hv (by omega) (by rw [← hs]; omega) Mc
  unfold fJ4_append_bf812 fJ5_append_c97b9
  rw [sz_c hv, bd_e, ← hs, h3, nI_add, ec_c h1 (by omega), bd_e, la_c h1, bd_e, if_1, hr, bd_e, lt_e, bd_e]
  by_cases h : v < 10
  · rw [if_pos h] at hs
    rw [if_pos h, if_pos h, hs]
    rfl
  · rw [if_neg h] at hs
    rw [if_neg h, if_neg h, hs]
    rfl
theorem wn_1 {Mm : ml_M} {l v m : Nat} (h7 : Mm 11 7 = nI l) (hl : l < 40) (hv : v < 10) : fX7_writesNumber_l (m + 1) (nI v) Mm = some (.inl 0, ml_w (ml_w Mm 13 l (nI (48 + v % 10))) 11 7 (nI (l + 1))) := by
  show fX7_writesNumber_s0 (fX7_writesNumber_l m) (nI v) Mm = _
  unfold fX7_writesNumber_s0
  have e : (48 : Int32) + (nI v - nI v / 10 * 10) = nI (48 + v % 10) := by
    have e1 : nI v - nI v / 10 * 10 = nI (v % 10) := pk_rem (d := 10) (by omega) (by decide) (by decide)
    rw [e1]
    exact nIl 48 (v % 10)
  rw [jn_e, if_pos (show nI v ≤ (9 : Int32) from (nI_leI (b := 9) (by omega) (by decide)).mpr (by omega)), e]
  dsimp only
  rw [wr_m h7 hl (by omega), bd_e]
theorem wn_2 {Mm : ml_M} {l v m : Nat} (h7 : Mm 11 7 = nI l) (hl : l + 1 < 40) (hv : v < 100) (hv1 : 10 ≤ v) : fX7_writesNumber_l (m + 2) (nI v) Mm = some (.inl 0, ml_w (ml_w (ml_w (ml_w Mm 13 l (nI (48 + v / 10))) 11 7 (nI (l + 1))) 13 (l + 1) (nI (48 + v % 10))) 11 7 (nI (l + 2))) := by
  show fX7_writesNumber_s0 (fX7_writesNumber_l (m + 1)) (nI v) Mm = _
  unfold fX7_writesNumber_s0
  have e : (48 : Int32) + (nI v - nI v / 10 * 10) = nI (48 + v % 10) := by
    have e1 : nI v - nI v / 10 * 10 = nI (v % 10) := pk_rem (d := 10) (by omega) (by decide) (by decide)
    rw [e1]
    exact nIl 48 (v % 10)
  have e2 : nI v / 10 = nI (v / 10) := pk_div (d := 10) (by omega) (by decide) (by decide)
  rw [jn_e, if_neg (show ¬ nI v ≤ (9 : Int32) from fun z => by have := (nI_leI (b := 9) (by omega) (by decide)).mp z; omega), e, e2, wn_1 h7 (by omega) (by omega), bd_e]
  dsimp only
  rw [wr_m (l := l + 1) w_at (by omega) (by omega), bd_e, show v / 10 % 10 = v / 10 by omega]
/-- a number more -/
theorem on {Mc Mm : ml_M} {l v : Nat} (h : oT Mc Mm l) (hl : l + 2 ≤ 16) (hv : v < 100) : ∃ Mc' Mm' l', l' ≤ l + 2 ∧ fJ4_append_bf812 (nI v) Mc = some (.inl 0, Mc') ∧ fX7_writesNumber (nI v) Mm = some (.inl 0, Mm') ∧ oT Mc' Mm' l' ∧ gC Mc Mc' ∧ gM Mm Mm' := by
  obtain ⟨h1, h3, h7, hj⟩ := h
  have hc := an_c h1 h3 hl hv
  by_cases hv1 : v < 10
  · have hm := wn_1 (m := 11) h7 (by omega) hv1
    rw [if_pos hv1] at hc
    refine ⟨_, _, l + 1, by omega, hc, hm, ⟨?_, ?_, ?_, fun j hjl => ?_⟩, fun p a b => by rw [ml_w_ne a, ml_w_ne b], ⟨fun p a b => by rw [ml_w_ne a, ml_w_ne b], fun q a => by rw [w_un a, ml_w_ne (by decide)]⟩⟩
    · rw [w_off (by omega), w_off (by omega)]; exact h1
    · rw [w_at]
    · rw [w_at]
    · by_cases e : j = l
      · subst e
        exact ⟨48 + v % 10, by omega, by rw [w_off (by omega), w_at], by rw [w_off (by omega), w_at]⟩
      · obtain ⟨c0, a1, a2, a3⟩ := hj j (by omega)
        exact ⟨c0, a1, by rw [w_off (by omega), w_off (by omega)]; exact a2, by rw [w_off (by omega), w_off (by omega)]; exact a3⟩
  · have hm := wn_2 (m := 10) h7 (by omega) hv (by omega)
    rw [if_neg hv1] at hc
    refine ⟨_, _, l + 2, by omega, hc, hm, ⟨?_, ?_, ?_, fun j hjl => ?_⟩, fun p a b => by rw [ml_w_ne a, ml_w_ne b, ml_w_ne b], ⟨fun p a b => by rw [ml_w_ne a, ml_w_ne b, ml_w_ne a, ml_w_ne b], fun q a => by rw [w_un a, ml_w_ne (by decide), w_un a, ml_w_ne (by decide)]⟩⟩
    · rw [w_off (by omega), w_off (by omega), w_off (by omega)]; exact h1
    · rw [w_at]
    · rw [w_at]
    · by_cases e : j = l
      · subst e
        exact ⟨48 + v / 10, by omega, by rw [w_off (by omega), w_at], by rw [w_off (by omega), w_off (by omega), w_off (by omega), w_at]⟩
      · by_cases e2 : j = l + 1
        · subst e2
          exact ⟨48 + v % 10, by omega, by rw [w_off (by omega), w_off (by omega), w_at], by rw [w_off (by omega), w_at]⟩
        · obtain ⟨c0, a1, a2, a3⟩ := hj j (by omega)
          exact ⟨c0, a1, by rw [w_off (by omega), w_off (by omega), w_off (by omega)]; exact a2, by rw [w_off (by omega), w_off (by omega), w_off (by omega), w_off (by omega)]; exact a3⟩
/-- the class's text begins anew -/
theorem sl_c {M : ml_M} {l : Nat} (h1 : M 9 1 = 0) (h3 : M 9 3 = nI l) (hl : l ≤ 16) : ∃ M', fJ4_setLength_d00df 0 M = some (.inl 0, M') ∧ M' 9 1 = 0 ∧ M' 9 3 = nI 0 ∧ gC M M' := by
  have ec : fJ5_ensureCapacityInternal_d00df 0 M = some (.inl 0, M) := ec_c (k := 0) h1 (by decide)
  have c0 : (0 : Int32) ≤ nI l := nI_pos' (by omega)
  by_cases hz : nI l ≤ 0
  · refine ⟨ml_w M 9 3 0, ?_, by rw [w_off (by omega)]; exact h1, w_at, fun p a b => ml_w_ne a⟩
    unfold fJ4_setLength_d00df fJ5_setLength_d00df
    simp only [if_pos (show (0 : Int32) ≤ 0 from Int32.le_refl _), ec, bd_e, jn_e, h3, if_pos c0, if_pos hz, lt_e]
  · refine ⟨ml_w (ml_w M 9 2 1) 9 3 0, ?_, by rw [w_off (by omega), w_off (by omega)]; exact h1, w_at, fun p a b => by rw [ml_w_ne a, ml_w_ne a]⟩
    unfold fJ4_setLength_d00df fJ5_setLength_d00df
    simp only [if_pos (show (0 : Int32) ≤ 0 from Int32.le_refl _), ec, bd_e, jn_e, h3, if_pos c0, if_neg hz, lt_e]
theorem le_c {M : ml_M} {l : Nat} (h3 : M 9 3 = nI l) : fJ4_length_8abf5 M = some (.inl (nI l), M) := by
  unfold fJ4_length_8abf5 fJ5_length_8abf5
  rw [bd_e, h3]
/-- the levels -/
theorem rl_l {M0 N0 : ml_M} {v g : Nat → Nat} (hv : ∀ j, j < 5 → M0 (ml_fl 0 + 2) j = nI (v j) ∧ N0 12 (11 + j) = nI (v j) ∧ v j ≤ lim j) (hg : ∀ j, j < 4 → M0 (ml_fl 0 + 4) j = nI (g j) ∧ N0 12 (20 + j) = nI (g j) ∧ g j ≤ 1) : ∀ (s b l n m : Nat) (Mc Mm : ml_M), b + s = 5 → s < n → s < m → oT Mc Mm l → l ≤ 3 * b → gC M0 Mc → gM N0 Mm → ∃ Mc' Mm' l', l' ≤ 16 ∧ fX6_renderLevels_l n (nI b) Mc = some (.inl (nI l'), Mc') ∧ fX7_renderLevels_l m (nI b) Mm = some (.inl (nI l'), Mm') ∧ oT Mc' Mm' l' ∧ gC M0 Mc' ∧ gM N0 Mm' := by
  intro s
  induction s with
  | zero =>
    intro b l n m Mc Mm hb hn hm hT hl hC hM
    obtain ⟨n, rfl⟩ : ∃ z, n = z + 1 := ⟨n - 1, by omega⟩
    obtain ⟨m, rfl⟩ : ∃ z, m = z + 1 := ⟨m - 1, by omega⟩
    have e : b = 5 := by omega
    subst e
    refine ⟨Mc, Mm, l, by omega, ?_, ?_, hT, hC, hM⟩
    · show fX6_renderLevels_s0 (fX6_renderLevels_l n) (nI 5) Mc = _
      unfold fX6_renderLevels_s0
      rw [if_pos (by decide), le_c hT.2.1, bd_e]
    · show fX7_renderLevels_s0 (fX7_renderLevels_l m) (nI 5) Mm = _
      unfold fX7_renderLevels_s0
      rw [if_pos (by decide), hT.2.2.1]
  | succ s ih =>
    intro b l n m Mc Mm hb hn hm hT hl hC hM
    obtain ⟨n, rfl⟩ : ∃ z, n = z + 1 := ⟨n - 1, by omega⟩
    obtain ⟨m, rfl⟩ : ∃ z, m = z + 1 := ⟨m - 1, by omega⟩
    have hb5 : b < 5 := by omega
    have f0 : ml_fl 0 = 16 := rfl
    obtain ⟨i1, i2, i3⟩ := ix11 hb5
    have a1 := ar_ge b
    have a2 := ar_le b
    have hlim : v b ≤ 40 * ar b := (hv b hb5).2.2
    have hq : v b / ar b ≤ 40 := Nat.div_le_of_le_mul (by rw [Nat.mul_comm]; exact hlim)
    have ed : nI (v b) / nI (ar b) = nI (v b / ar b) := pk_div (by omega) (by omega) (by omega)
    have n5 : ¬ (5 : Int32) ≤ nI b := fun z => by have := (nI_leI (a := 5) (by decide) (by omega)).mp z; omega
    -- a number and on
    have num : ∀ (Nc Nm : ml_M) (l0 : Nat), oT Nc Nm l0 → l0 + 2 ≤ 3 * (b + 1) → gC M0 Nc → gM N0 Nm → ∃ Mc' Mm' l', l' ≤ 16 ∧ ml_bd (fX5_roundedLevel 0 (nI b) Nc) (fun r6 M7 => ml_bd (fJ4_append_bf812 r6 M7) (fun r8 M9 => fX6_renderLevels_l n (nI b + 1) M9)) = some (.inl (nI l'), Mc') ∧ (if ml_ok (11 + nI b) 960 then ml_bd (fX7_size (nI b) Nm) (fun r4 M5 => if ¬ (r4 = 0) then ml_bd (fX7_writesNumber ((Nm 12 (11 + nI b).toNatClampNeg) / r4) M5) (fun r7 M8 => fX7_renderLevels_l m (nI b + 1) M8) else none) else none) = some (.inl (nI l'), Mm') ∧ oT Mc' Mm' l' ∧ gC M0 Mc' ∧ gM N0 Mm' := by
      intro Nc Nm l0 hT0 hl0 hC0 hM0
      obtain ⟨C1, R1, l1, g1, g2, g3, g4, g5, g6⟩ := on (v := v b / ar b) hT0 (by omega) (by omega)
      obtain ⟨C2, R2, l2, k1, k2, k3, k4, k5, k6⟩ := ih (b + 1) l1 n m C1 R1 (by omega) (by omega) (by omega) g4 (by omega) (hC0.tr g5) (hM0.tr g6)
      refine ⟨C2, R2, l2, k1, ?_, ?_, k4, k5, k6⟩
      · rw [rl_c hb5 (v := v b) (by rw [hC0 _ (by omega) (by omega)]; exact (hv b hb5).1), bd_e, ed, g2, bd_e, nI_1, k2]
      · rw [i1, if_pos i2, wa_m hb5, bd_e, if_pos (ar_nz b), i3, hM0.1 12 (by decide) (by decide), (hv b hb5).2.1, ed, g3, bd_e, nI_1, k3]
    by_cases hb0 : b = 0
    · subst hb0
      obtain ⟨C2, R2, l2, k1, k2, k3, k4, k5, k6⟩ := num Mc Mm l hT (by omega) hC hM
      refine ⟨C2, R2, l2, k1, ?_, ?_, k4, k5, k6⟩
      · show fX6_renderLevels_s0 (fX6_renderLevels_l n) (nI 0) Mc = _
        unfold fX6_renderLevels_s0
        rw [if_neg n5, jn_e, if_pos (show nI 0 ≤ 0 by decide)]
        exact k2
      · show fX7_renderLevels_s0 (fX7_renderLevels_l m) (nI 0) Mm = _
        unfold fX7_renderLevels_s0
        rw [if_neg n5, jn_e, if_pos (show nI 0 ≤ 0 by decide)]
        exact k3
    · have nb0 : ¬ nI b ≤ 0 := nI_nle (by omega) (by omega)
      obtain ⟨p, hp⟩ : ∃ p, b = p + 1 := ⟨b - 1, by omega⟩
      have hp4 : p < 4 := by omega
      have e1 : nI b - 1 = nI p := by rw [hp]; exact nI_pred p
      have e2 : (20 : Int32) + nI b - 1 = nI (20 + p) := by
        have x1 : (20 : Int32) + nI b = nI (20 + b) := nIl 20 b
        rw [x1, hp, show 20 + (p + 1) = (20 + p) + 1 by omega]
        exact nI_pred (20 + p)
      have okp : ml_ok (nI p) 4 := ok_nI hp4 (by decide)
      have ok9 : ml_ok (nI (20 + p)) 960 := ok_nI (by omega) (by decide)
      have cp : (nI p).toNatClampNeg = p := nI_clamp (by omega)
      have cp9 : (nI (20 + p)).toNatClampNeg = 20 + p := nI_clamp (by omega)
      have q1 : Mc (ml_fl 0 + 4) p = nI (g p) := by rw [hC _ (by omega) (by omega)]; exact (hg p hp4).1
      have q2 : Mm 12 (20 + p) = nI (g p) := by rw [hM.1 12 (by decide) (by decide)]; exact (hg p hp4).2.1
      have hgp := (hg p hp4).2.2
      obtain ⟨ch, hch, hcc⟩ : ∃ ch, ch = (if g p = 0 then 124 else 47) ∧ ch < 128 := ⟨_, rfl, by split <;> omega⟩
      obtain ⟨C1, R1, g2, g3, g4, g5, g6⟩ := oc (c := ch) hT (by omega) hcc
      obtain ⟨C2, R2, l2, k1, k2, k3, k4, k5, k6⟩ := num C1 R1 (l + 1) g4 (by omega) (hC.tr g5) (hM.tr g6)
      refine ⟨C2, R2, l2, k1, ?_, ?_, k4, k5, k6⟩
      · show fX6_renderLevels_s0 (fX6_renderLevels_l n) (nI b) Mc = _
        unfold fX6_renderLevels_s0
        rw [if_neg n5, jn_e, if_neg nb0, e1, if_pos okp, jn_e, cp, q1]
        rcases (show g p = 0 ∨ g p = 1 by omega) with h0 | h0
        · rw [h0, if_pos rfl] at hch
          subst hch
          have g2' : fJ4_append_cf468 124 Mc = some (.inl 0, C1) := g2
          rw [h0, if_pos (show nI 0 = 0 from rfl)]
          dsimp only
          rw [g2', bd_e]
          exact k2
        · rw [h0, if_neg (by decide)] at hch
          subst hch
          have g2' : fJ4_append_cf468 47 Mc = some (.inl 0, C1) := g2
          rw [h0, if_neg (show ¬ nI 1 = 0 by decide)]
          dsimp only
          rw [g2', bd_e]
          exact k2
      · show fX7_renderLevels_s0 (fX7_renderLevels_l m) (nI b) Mm = _
        unfold fX7_renderLevels_s0
        rw [if_neg n5, jn_e, if_neg nb0, e2, if_pos ok9, jn_e, cp9, q2]
        rcases (show g p = 0 ∨ g p = 1 by omega) with h0 | h0
        · rw [h0, if_pos rfl] at hch
          subst hch
          have g3' : fX7_writes 124 Mm = some (.inl 0, R1) := g3
          rw [h0, if_neg (show ¬ nI 0 = 1 by decide)]
          dsimp only
          rw [g3', bd_e]
          exact k3
        · rw [h0, if_neg (by decide)] at hch
          subst hch
          have g3' : fX7_writes 47 Mm = some (.inl 0, R1) := g3
          rw [h0, if_pos (show nI 1 = 1 from rfl)]
          dsimp only
          rw [g3', bd_e]
          exact k3
/-- the state behind a new text -/
theorem sI_text {n l : Nat} {M M1 M9 : ml_M} {x t : Int32} (hs : sI n M) (hT : oT M1 M9 l) (hl : l ≤ 16) (hC : gC M M1) (hM : gM (ml_w (ml_w (ml_w M1 181 0 x) 11 0 t) 11 7 0) M9) : sI (n + 60) M9 := by
  have k : ∀ p q, p ≠ 9 → p ≠ 10 → p ≠ 13 → ¬ (p = 11 ∧ (q = 0 ∨ q = 7)) → ¬ (p = 181 ∧ q = 0) → M9 p q = M p q := by
    intro p q h1 h2 h3 h4 h5
    by_cases h11 : p = 11
    · subst h11
      rw [hM.2 q (by omega), w_off (by omega), w_off (by omega), w_off h5, hC _ h1 h2]
    · rw [hM.1 p h11 h3, w_off (by omega), w_off (by omega), w_off h5, hC _ h1 h2]
  have k9 : M9 9 = M1 9 := by rw [hM.1 9 (by decide) (by decide), ml_w_ne (by decide), ml_w_ne (by decide), ml_w_ne (by decide)]
  have k10 : M9 10 = M1 10 := by rw [hM.1 10 (by decide) (by decide), ml_w_ne (by decide), ml_w_ne (by decide), ml_w_ne (by decide)]
  refine sI.mono (n := n) ⟨hs.1.of (fun p q hp => k p q (by omega) (by omega) (by omega) (by omega) (by omega)), hs.2.1.of (fun p q hp => k p q (by omega) (by omega) (by omega) (by omega) (by omega)), hs.2.2.1.of (fun p q hp => k p q (by omega) (by omega) (by omega) (by omega) (by omega)), hs.2.2.2.1.of (fun p q hp => k p q (by omega) (by omega) (by omega) (by omega) (by omega)), hs.2.2.2.2.1.of (fun p q hp => k p q (by omega) (by omega) (by omega) (by omega) (by omega)), ⟨l, hl, by rw [k9]; exact hT.1, by rw [k9]; exact hT.2.1, hT.2.2.1, fun j hj => ?_⟩⟩ (Nat.le_add_right n 60)
  rw [k10]
  exact hT.2.2.2 j hj
