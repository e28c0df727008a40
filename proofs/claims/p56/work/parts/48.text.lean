/-! Texts: what the class renders and what the law builds. -/
theorem w_off {M : ml_M} {a j p q : Nat} {x : Int32} (h : ¬ (p = a ∧ q = j)) : ml_w M a j x p q = M p q := by
  by_cases ha : p = a
  · subst ha
    rw [w_un (fun z => h ⟨rfl, z⟩)]
  · rw [ml_w_ne ha]
theorem by_n : ∀ k < 128, vp_nar .byte ((nI k).toInt8.toInt32) = nI k := by decide +kernel
theorem by_m : ∀ k < 128, vp_nar .byte (nI k) = nI k := by decide +kernel
theorem ch_b : ∀ k < 128, (((nI k) &&& 255).toUInt32 % 65536).toInt32 = nI k := by decide +kernel
def gC (Mc Mc' : ml_M) : Prop := ∀ p, p ≠ 9 → p ≠ 10 → Mc' p = Mc p
theorem gC.tr {M M1 M2 : ml_M} (h : gC M M1) (h2 : gC M1 M2) : gC M M2 := fun p a b => (h2 p a b).trans (h p a b)
theorem ec_c {M : ml_M} {k : Nat} (h1 : M 9 1 = 0) (hk : k ≤ 16) : fJ5_ensureCapacityInternal_d00df (nI k) M = some (.inl 0, M) := by
  unfold fJ5_ensureCapacityInternal_d00df
  have e : nI k - 16 ≤ 0 := by
    have e1 : nI k - nI 16 = -nI (16 - k) := w_neg hk
    have e2 : nI k - 16 = -nI (16 - k) := e1
    rw [e2, Int32.le_iff_toInt_le, w_toInt (by omega)]
    have : (0 : Int32).toInt = 0 := by decide
    omega
  rw [h1, lt_e, show (16 : Int32) >>> (0 &&& 31) = 16 by decide, if_pos e]
theorem la_c {M : ml_M} (h1 : M 9 1 = 0) : fJ5_isLatin1_aae02 M = some (.inl 1, M) := by
  unfold fJ5_isLatin1_aae02
  rw [jn_e, h1, if_pos rfl]
  exact nbi1
theorem ap_c {Mc : ml_M} {l c : Nat} (h1 : Mc 9 1 = 0) (h3 : Mc 9 3 = nI l) (hl : l < 16) (hc : c < 128) : fJ4_append_cf468 (nI c) Mc = some (.inl 0, ml_w (ml_w Mc 9 3 (nI (l + 1))) 10 l (nI c)) := by
  have e1 : fJ1_canEncode_fc78d (nI c) Mc = some (.inl 1, Mc) := by
    unfold fJ1_canEncode_fc78d
    rw [jn_e, if_neg (show ¬ (255 : Int32) < nI c from fun z => by have := (nI_ltI (a := 255) (by decide) (by omega)).mp z; omega)]
    exact nbi1
  unfold fJ4_append_cf468 fJ5_append_3fe6f
  rw [h3, nI_1, ec_c h1 (by omega), bd_e, la_c h1, bd_e, if_1, e1, bd_e, if_1, lt_e, h3, nI_1, if_pos (ok_nI hl (by decide)), nI_clamp (by omega), lt_e, by_n c hc, bd_e]
theorem ss_1 : ∀ v < 10, ¬ (-nI v ≤ (-10 : Int32)) := by decide +kernel
theorem ss_2 : ∀ v < 100, 10 ≤ v → (-nI v ≤ (-10 : Int32)) ∧ ¬ (-nI v ≤ (10 * -10 : Int32)) := by decide +kernel
theorem gc_1 : ∀ v < 100, (-100 : Int32) < -nI v := by decide +kernel
theorem gc_2 : ∀ v < 10, (-9 : Int32) ≤ -nI v := by decide +kernel
theorem gc_3 : ∀ v < 100, 10 ≤ v → ¬ ((-9 : Int32) ≤ -nI v) := by decide +kernel
theorem sz_c {v : Nat} (hv : v < 100) (M : ml_M) : fJ6_stringSize_0f7a4 (nI v) M = some (.inl (nI (if v < 10 then 1 else 2)), M) := by
  obtain ⟨z, hz⟩ : ∃ z, ml_fuel = z + 2 := ⟨ml_fuel - 2, by unfold ml_fuel; omega⟩
  unfold fJ6_stringSize_0f7a4
  rw [jn_e, if_neg (nI_pos (by omega)), hz]
  show fJ6_stringSize_0f7a4_s0 (nI v) (fJ6_stringSize_0f7a4_l (nI v) (z + 1)) (-nI v) 0 (-10) 1 M = _
  unfold fJ6_stringSize_0f7a4_s0
  rw [if_neg (by decide)]
  by_cases h : v < 10
  · rw [if_neg (ss_1 v h), if_pos h]
    rfl
  · obtain ⟨a, b⟩ := ss_2 v hv (by omega)
    rw [if_pos a, if_neg h]
    show fJ6_stringSize_0f7a4_s0 (nI v) (fJ6_stringSize_0f7a4_l (nI v) z) (-nI v) 0 (10 * -10) (1 + 1) M = _
    unfold fJ6_stringSize_0f7a4_s0
    rw [if_neg (by decide), if_neg b]
    rfl
theorem gc_c {v k : Nat} (hv : v < 100) (hk : k ≤ 16) (hk1 : (if v < 10 then 1 else 2) ≤ k) (M : ml_M) : ∃ r, fJ6_getChars_ba4f3 (nI v) (nI k) M = some (.inl r, if v < 10 then ml_w M 10 (k - 1) (nI (48 + v % 10)) else ml_w (ml_w M 10 (k - 1) (nI (48 + v % 10))) 10 (k - 2) (nI (48 + v / 10))) := by
  obtain ⟨z, hz⟩ : ∃ z, ml_fuel = z + 1 := ⟨ml_fuel - 1, by unfold ml_fuel; omega⟩
  have nn : -(-nI v) = nI v := Int32.neg_neg
  have okv : ml_ok (nI v) 100 := ok_nI hv (by decide)
  have cv : (nI v).toNatClampNeg = v := nI_clamp (by omega)
  have k1 : 1 ≤ k := by split at hk1 <;> omega
  have m1 : nI k + -1 = nI (k - 1) := by
    obtain ⟨w, rfl⟩ : ∃ w, k = w + 1 := ⟨k - 1, by omega⟩
    exact pk_m1 w
  have ok1 : ml_ok (nI (k - 1)) 16 := ok_nI (by omega) (by decide)
  have c1 : (nI (k - 1)).toNatClampNeg = k - 1 := nI_clamp (by omega)
  have d0 : vp_nar .byte (ml_dig 0 v) = nI (48 + v % 10) := by_m _ (by omega)
  have d1 : vp_nar .byte (ml_dig 1 v) = nI (48 + v / 10) := by_m _ (by omega)
  unfold fJ6_getChars_ba4f3
  rw [jn_e, if_pos (nI_pos' (by omega))]
  dsimp only
  rw [if_pos (show (0 : Int32) = 0 from rfl), hz]
  show ∃ r, fJ6_getChars_ba4f3_s0 (nI v) (nI k) (fJ6_getChars_ba4f3_l (nI v) (nI k) z) (-nI v) (nI k) (nI k) 0 M = _
  unfold fJ6_getChars_ba4f3_s0
  simp only [if_pos (gc_1 v hv), nn, if_pos okv, m1, if_pos ok1, c1, cv, d0, lt_e, jn_e]
  by_cases h : v < 10
  · simp only [if_pos (gc_2 v h), if_pos h, if_T]
    exact ⟨_, rfl⟩
  · have m2 : nI (k - 1) + -1 = nI (k - 2) := by
      rw [if_neg h] at hk1
      obtain ⟨w, rfl⟩ : ∃ w, k = w + 2 := ⟨k - 2, by omega⟩
      exact pk_m1 w
    have ok2 : ml_ok (nI (k - 2)) 16 := ok_nI (by omega) (by decide)
    have c2 : (nI (k - 2)).toNatClampNeg = k - 2 := nI_clamp (by omega)
    simp only [if_neg (gc_3 v hv (by omega)), if_neg h, m2, if_pos ok2, c2, d1, if_T]
    exact ⟨_, rfl⟩
theorem an_c {Mc : ml_M} {l v : Nat} (h1 : Mc 9 1 = 0) (h3 : Mc 9 3 = nI l) (hl : l + 2 ≤ 16) (hv : v < 100) : fJ4_append_bf812 (nI v) Mc = some (.inl 0, if v < 10 then ml_w (ml_w Mc 10 l (nI (48 + v % 10))) 9 3 (nI (l + 1)) else ml_w (ml_w (ml_w Mc 10 (l + 1) (nI (48 + v % 10))) 10 l (nI (48 + v / 10))) 9 3 (nI (l + 2))) := by
  obtain ⟨s, hs⟩ : ∃ s, s = (if v < 10 then 1 else 2) := ⟨_, rfl⟩
  have hs12 : s = 1 ∨ s = 2 := by rw [hs]; split <;> omega
  obtain ⟨r, hr⟩ := gc_c (k := l + s) hv (by omega) (by rw [← hs]; omega) Mc
  unfold fJ4_append_bf812 fJ5_append_c97b9
  rw [sz_c hv, bd_e, ← hs, h3, nI_add, ec_c h1 (by omega), bd_e, la_c h1, bd_e, if_1, hr, bd_e, lt_e, bd_e]
  by_cases h : v < 10
  · rw [if_pos h] at hs
    rw [if_pos h, if_pos h, hs]
    rfl
  · rw [if_neg h] at hs
    rw [if_neg h, if_neg h, hs]
    rfl
theorem sl_c {M : ml_M} {l : Nat} (h1 : M 9 1 = 0) (h3 : M 9 3 = nI l) (hl : l ≤ 16) : ∃ M', fJ4_setLength_d00df 0 M = some (.inl 0, M') ∧ M' 9 1 = 0 ∧ M' 9 3 = nI 0 ∧ gC M M' := by
  have ec : fJ5_ensureCapacityInternal_d00df 0 M = some (.inl 0, M) := ec_c (k := 0) h1 (by decide)
  have c0 : (0 : Int32) ≤ nI l := nI_pos' (by omega)
  by_cases hz : nI l ≤ 0
  · refine ⟨ml_w M 9 3 0, ?_, by rw [w_off (by omega)]; exact h1, w_at, fun p a b => ml_w_ne a⟩
    unfold fJ4_setLength_d00df fJ5_setLength_d00df
    simp only [if_pos (show (0 : Int32) ≤ 0 from Int32.le_refl _), ec, bd_e, jn_e, h3, if_pos c0, if_pos hz, lt_e]
  · refine ⟨ml_w (ml_w M 9 2 1) 9 3 0, ?_, by rw [w_off (by omega), w_off (by omega)]; exact h1, w_at, fun p a b => by rw [ml_w_ne a, ml_w_ne a]⟩
    unfold fJ4_setLength_d00df fJ5_setLength_d00df
    simp only [if_pos (show (0 : Int32) ≤ 0 from Int32.le_refl _), ec, bd_e, jn_e, h3, if_pos c0, if_neg hz, lt_e]
theorem le_c {M : ml_M} {l : Nat} (h3 : M 9 3 = nI l) : fJ4_length_8abf5 M = some (.inl (nI l), M) := by
  unfold fJ4_length_8abf5 fJ5_length_8abf5
  rw [bd_e, h3]
theorem gC.rf {M : ml_M} : gC M M := fun _ _ _ => rfl
theorem ap_at {α : Type} {T T2 : List α} {j : Nat} {y : α} (h : (T ++ T2)[j]? = some y) : (j < T.length ∧ T[j]? = some y) ∨ (T.length ≤ j ∧ T2[j - T.length]? = some y) := by
  rcases Nat.lt_or_ge j T.length with c | c
  · rw [List.getElem?_append_left c] at h
    exact Or.inl ⟨c, h⟩
  · rw [List.getElem?_append_right c] at h
    exact Or.inr ⟨c, h⟩
/-- a builder holds a text -/
def oY (mb ma : Nat → Int32) (T : List Nat) : Prop := mb 1 = 0 ∧ mb 3 = nI T.length ∧ ∀ j c, T[j]? = some c → c < 128 ∧ ma j = nI c
theorem x_c {M : ml_M} {T : List Nat} {c : Nat} (h : oY (M 9) (M 10) T) (hl : T.length < 16) (hc : c < 128) : ∃ M', fJ4_append_cf468 (nI c) M = some (.inl 0, M') ∧ oY (M' 9) (M' 10) (T ++ [c]) ∧ gC M M' := by
  obtain ⟨h1, h3, hj⟩ := h
  refine ⟨_, ap_c h1 h3 hl hc, ⟨?_, ?_, fun j y hjy => ?_⟩, fun p a b => by rw [ml_w_ne b, ml_w_ne a]⟩
  · rw [w_off (by omega), w_off (by omega)]; exact h1
  · rw [w_off (by omega), w_at, List.length_append]; rfl
  · rcases ap_at hjy with ⟨a, b⟩ | ⟨a, b⟩
    · have := hj j y b
      exact ⟨this.1, by rw [w_off (by omega), w_off (by omega)]; exact this.2⟩
    · have e : j = T.length := by
        have := (List.getElem?_eq_some_iff.mp b).1
        simp at this
        omega
      subst e
      rw [Nat.sub_self] at b
      cases b
      exact ⟨hc, w_at⟩
def dg (v : Nat) : List Nat := if v < 10 then [48 + v] else [48 + v / 10, 48 + v % 10]
theorem dg_len (v : Nat) : (dg v).length ≤ 2 := by unfold dg; split <;> simp
theorem x_n {M : ml_M} {T : List Nat} {v : Nat} (h : oY (M 9) (M 10) T) (hl : T.length + 2 ≤ 16) (hv : v < 100) : ∃ M', fJ4_append_bf812 (nI v) M = some (.inl 0, M') ∧ oY (M' 9) (M' 10) (T ++ dg v) ∧ gC M M' := by
  obtain ⟨h1, h3, hj⟩ := h
  have hc := an_c h1 h3 hl hv
  unfold dg
  by_cases hv1 : v < 10
  · rw [if_pos hv1] at hc
    rw [if_pos hv1]
    refine ⟨_, hc, ⟨?_, ?_, fun j y hjy => ?_⟩, fun p a b => by rw [ml_w_ne a, ml_w_ne b]⟩
    · rw [w_off (by omega), w_off (by omega)]; exact h1
    · rw [w_at, List.length_append]; rfl
    · rcases ap_at hjy with ⟨a, b⟩ | ⟨a, b⟩
      · have := hj j y b
        exact ⟨this.1, by rw [w_off (by omega), w_off (by omega)]; exact this.2⟩
      · have e : j = T.length := by
          have := (List.getElem?_eq_some_iff.mp b).1
          simp at this
          omega
        subst e
        rw [Nat.sub_self] at b
        cases b
        exact ⟨by omega, by rw [w_off (by omega), w_at, show v % 10 = v by omega]⟩
  · rw [if_neg hv1] at hc
    rw [if_neg hv1]
    refine ⟨_, hc, ⟨?_, ?_, fun j y hjy => ?_⟩, fun p a b => by rw [ml_w_ne a, ml_w_ne b, ml_w_ne b]⟩
    · rw [w_off (by omega), w_off (by omega), w_off (by omega)]; exact h1
    · rw [w_at, List.length_append]; rfl
    · rcases ap_at hjy with ⟨a, b⟩ | ⟨a, b⟩
      · have := hj j y b
        exact ⟨this.1, by rw [w_off (by omega), w_off (by omega), w_off (by omega)]; exact this.2⟩
      · have hlt := (List.getElem?_eq_some_iff.mp b).1
        have hlt : j - T.length < 2 := hlt
        rcases (show j = T.length ∨ j = T.length + 1 by omega) with e | e
        · subst e
          rw [Nat.sub_self] at b
          cases b
          exact ⟨by omega, by rw [w_off (by omega), w_at]⟩
        · subst e
          rw [show T.length + 1 - T.length = 1 by omega] at b
          cases b
          exact ⟨by omega, by rw [w_off (by omega), w_off (by omega), w_at]⟩
theorem sh_r : ∀ n < 40, (nI n) >>> ((0 : Int32) &&& 31) = nI n := by decide +kernel
theorem sh_l2 : ∀ n < 40, (nI n) <<< ((0 : Int32) &&& 31) = nI n := by decide +kernel
theorem x_s {M : ml_M} {T T2 : List Nat} {z : ml_Y} {q : Nat} (h : oY (M 9) (M 10) T) (hl : T.length + T2.length ≤ 16) (hc : ∀ (j c : Nat), T2[j]? = some c → c < 128) (hz : z.2 q = T2.map nI) : ∃ M', fJ4_append_15ec4 z q M = some (.inl 0, M') ∧ oY (M' 9) (M' 10) (T ++ T2) ∧ gC M M' := by
  obtain ⟨h1, h3, hj⟩ := h
  have hlen : (z.2 q).length = T2.length := by rw [hz, List.length_map]
  have eL : fJ0_length_8abf5 z q M = some (.inl (nI T2.length), M) := by
    unfold fJ0_length_8abf5 fJ0_coder_7d493
    rw [bd_e, hlen, sh_r _ (by omega)]
  have cl : (nI T.length).toNatClampNeg = T.length := nI_clamp (by omega)
  have cn : (nI T2.length).toNatClampNeg = T2.length := nI_clamp (by omega)
  have okc : ml_okc 0 (nI T.length) (nI T2.length) T2.length := ⟨by decide, nI_pos (by omega), nI_pos (by omega), by rw [cn]; exact Nat.le_of_eq (Nat.zero_add _), by rw [cl, cn]; exact hl⟩
  have eP : fJ5_putStringAt_47b60 z q (nI T.length) M = some (.inl 0, ml_cp M (fun j => (z.2 q).getD j 0) 0 (nI T.length) (nI T2.length)) := by
    unfold fJ5_putStringAt_47b60 fJ5_inflateIfNeededFor_a7421 fJ0_getBytes_840e7 fJ0_coder_7d493
    rw [bd_e, if_pos h1, bd_e, bd_e, h1, if_pos rfl, hlen, sh_l2 _ (by omega), if_pos okc, lt_e, bd_e]
  refine ⟨ml_w (ml_cp M (fun j => (z.2 q).getD j 0) 0 (nI T.length) (nI T2.length)) 9 3 (nI (T.length + T2.length)), ?_, ⟨?_, ?_, fun j y hjy => ?_⟩, fun p a b => by rw [ml_w_ne a]; exact if_neg b⟩
  · unfold fJ4_append_15ec4 fJ5_append_cf1ce
    have e9 : (ml_cp M (fun j => (z.2 q).getD j 0) 0 (nI T.length) (nI T2.length)) 9 3 = nI T.length := h3
    rw [eL, bd_e, h3, nI_add, ec_c h1 hl, bd_e, h3, eP, bd_e, e9, nI_add, lt_e, bd_e]
  · rw [w_off (by omega)]; exact h1
  · rw [w_at, List.length_append]
  · rw [ml_w_ne (by decide)]
    show y < 128 ∧ va_cpy (fun j => (z.2 q).getD j 0) (M 10) (0 : Int32).toNatClampNeg (nI T.length).toNatClampNeg (nI T2.length).toNatClampNeg j = nI y
    rw [cl, cn]
    unfold va_cpy
    rcases ap_at hjy with ⟨a, b⟩ | ⟨a, b⟩
    · have := hj j y b
      exact ⟨this.1, by rw [if_neg (by omega)]; exact this.2⟩
    · have hlt := (List.getElem?_eq_some_iff.mp b).1
      refine ⟨hc _ _ b, ?_⟩
      rw [if_pos ⟨a, by omega⟩, hz]
      show (T2.map nI).getD (0 + (j - T.length)) 0 = nI y
      rw [Nat.zero_add, List.getD_eq_getElem?_getD, List.getElem?_map, b]
      rfl
/-- the law's builder beside the class's memory -/
theorem li_mB_eq {M M' : ml_M} {mb ma : Nat → Int32} (h : gC (li_mB M mb ma) M') : M' = li_mB M (M' 9) (M' 10) := by
  funext p
  by_cases h9 : p = 9
  · subst h9; rfl
  · by_cases h10 : p = 10
    · subst h10; rfl
    · rw [h p h9 h10]
      unfold li_mB
      rw [if_neg h9, if_neg h10, if_neg h9, if_neg h10]
theorem y_c {M : ml_M} {mb ma : Nat → Int32} {T : List Nat} {c : Nat} (h : oY mb ma T) (hl : T.length < 16) (hc : c < 128) : ∃ mb8 ma8, fJ4_append_cf468 (nI c) (li_mB M mb ma) = some (.inl 0, li_mB M mb8 ma8) ∧ oY mb8 ma8 (T ++ [c]) := by
  obtain ⟨M', a, b, d⟩ := x_c (M := li_mB M mb ma) h hl hc
  exact ⟨M' 9, M' 10, by rw [← li_mB_eq d]; exact a, b⟩
theorem y_n {M : ml_M} {mb ma : Nat → Int32} {T : List Nat} {v : Nat} (h : oY mb ma T) (hl : T.length + 2 ≤ 16) (hv : v < 100) : ∃ mb8 ma8, fJ4_append_bf812 (nI v) (li_mB M mb ma) = some (.inl 0, li_mB M mb8 ma8) ∧ oY mb8 ma8 (T ++ dg v) := by
  obtain ⟨M', a, b, d⟩ := x_n (M := li_mB M mb ma) h hl hv
  exact ⟨M' 9, M' 10, by rw [← li_mB_eq d]; exact a, b⟩
theorem y_s {M : ml_M} {mb ma : Nat → Int32} {T T2 : List Nat} {z : ml_Y} {q : Nat} (h : oY mb ma T) (hl : T.length + T2.length ≤ 16) (hc : ∀ (j c : Nat), T2[j]? = some c → c < 128) (hz : z.2 q = T2.map nI) : ∃ mb8 ma8, fJ4_append_15ec4 z q (li_mB M mb ma) = some (.inl 0, li_mB M mb8 ma8) ∧ oY mb8 ma8 (T ++ T2) := by
  obtain ⟨M', a, b, d⟩ := x_s (M := li_mB M mb ma) h hl hc hz
  exact ⟨M' 9, M' 10, by rw [← li_mB_eq d]; exact a, b⟩
theorem by_f : ∀ k < 128, fits .byte (.int (nI k)) = true := by decide +kernel
/-- a made text -/
theorem y_txt {g : ml_G} {X : va_W} {sq tq i : Nat} {mb ma : Nat → Int32} {T : List Nat} (h : oY mb ma T) (hi : X[i]? = some (sq, .inr (0, [.ref tq, .int 0, .int 0, .int 0]))) (hj : X[i + 1]? = some (tq, .inl (g.2.2.1 4, T.length, .inl (va_cpy ma (fun _ => 0) 0 0 T.length)))) : li_txt g X sq tq (T.map nI) := by
  refine Or.inr ⟨i, i + 1, _, hi, by rw [List.length_map]; exact hj, fun k hk => ?_, fun k => ?_⟩
  · rw [List.length_map] at hk
    unfold va_cpy
    rw [if_pos ⟨Nat.zero_le _, by omega⟩, List.getD_eq_getElem?_getD, List.getElem?_map]
    obtain ⟨y, hy⟩ : ∃ y, T[k]? = some y := ⟨T[k], List.getElem?_eq_getElem hk⟩
    rw [hy, show 0 + (k - 0) = k by omega, (h.2.2 k y hy).2]
    rfl
  · rw [List.getD_eq_getElem?_getD, List.getElem?_map]
    cases hy : T[k]? with
    | none => rfl
    | some y => exact by_f y (h.2.2 k y hy).1
theorem y_fit {mb ma : Nat → Int32} {T : List Nat} (h : oY mb ma T) : ∀ j, j < T.length → fits .byte (.int (ma j)) = true := fun j hj => by
  obtain ⟨y, hy⟩ : ∃ y, T[j]? = some y := ⟨T[j], List.getElem?_eq_getElem hj⟩
  rw [(h.2.2 j y hy).2]
  exact by_f y (h.2.2 j y hy).1
/-- reading the output -/
theorem x_at {M : ml_M} {T : List Nat} {b y : Nat} (h : oY (M 9) (M 10) T) (hl : T.length ≤ 16) (hy : T[b]? = some y) : fX6_outputAt (nI b) M = some (.inl (nI y), M) := by
  obtain ⟨o1, o2, o4⟩ := h
  have hb := (List.getElem?_eq_some_iff.mp hy).1
  obtain ⟨hc, c1⟩ := o4 b y hy
  have hlt : nI b < nI T.length := (nI_ltI (by omega) (by omega)).mpr hb
  have nlt : ¬ nI b < 0 := nI_pos (by omega)
  have ok16 : ml_ok (nI b) 16 := ok_nI (by omega) (by decide)
  have cb : (nI b).toNatClampNeg = b := nI_clamp (by omega)
  have ev : (if (16 : Int32) >>> (M 9 1 &&& 31) < M 9 3 then (16 : Int32) >>> (M 9 1 &&& 31) else M 9 3) = nI T.length := by
    rw [o1, o2, show (16 : Int32) >>> (0 &&& 31) = 16 by decide, if_neg (show ¬ (16 : Int32) < nI T.length from fun z => by have := (nI_ltI (a := 16) (by decide) (by omega)).mp z; omega)]
  have ec : fJ4_charAt_5068e (nI b) M = some (.inl (nI y), M) := by
    unfold fJ4_charAt_5068e fJ5_charAt_5068e fJ0_checkIndex_df160 fJ3_checkIndex_8e157
    rw [ev, lt_e, if_neg nlt, if_pos hlt, bd_e, bd_e, if_pos o1, if_pos ok16, cb, c1, ch_b y hc, if_pos (ch_n y hc), bd_e, if_pos (ch_n y hc)]
  unfold fX6_outputAt
  rw [if_neg nlt, le_c o2, bd_e, if_pos hlt, ec, bd_e, if_pos (ch_n y hc)]
theorem x_ln {M : ml_M} {T : List Nat} {z : ml_Y} {q : Nat} (a1 : Int32) (h : oY (M 9) (M 10) T) (hl : T.length ≤ 16) (hz : z.2 q = T.map nI) : ∀ (s b n : Nat), b + s = T.length → s < n → fL_isLine_l z q a1 n (nI T.length) (nI b) M = some (.inl 1, M) := by
  have hlen : (z.2 q).length = T.length := by rw [hz, List.length_map]
  intro s
  induction s with
  | zero =>
    intro b n hb hn
    obtain ⟨n, rfl⟩ : ∃ z, n = z + 1 := ⟨n - 1, by omega⟩
    have e : b = T.length := by omega
    subst e
    show fL_isLine_s0 z q a1 (fL_isLine_l z q a1 n) (nI T.length) (nI T.length) M = _
    unfold fL_isLine_s0
    rw [if_pos (Int32.le_refl _)]
  | succ s ih =>
    intro b n hb hn
    obtain ⟨n, rfl⟩ : ∃ z, n = z + 1 := ⟨n - 1, by omega⟩
    obtain ⟨y, hy⟩ : ∃ y, T[b]? = some y := ⟨T[b], List.getElem?_eq_getElem (by omega)⟩
    have hc := (h.2.2 b y hy).1
    have eg : (z.2 q).getD b 0 = nI y := by
      rw [hz, List.getD_eq_getElem?_getD, List.getElem?_map, hy]
      rfl
    have nlt : ¬ nI b < 0 := nI_pos (by omega)
    have hlt : nI b < nI T.length := (nI_ltI (by omega) (by omega)).mpr (by omega)
    have okb : ml_ok (nI b) T.length := ok_nI (by omega) (by omega)
    have cb : (nI b).toNatClampNeg = b := nI_clamp (by omega)
    have ec : fJ0_charAt_5068e z q (nI b) M = some (.inl (nI y), M) := by
      unfold fJ0_charAt_5068e fJ0_isLatin1_aae02 fJ1_charAt_3b067 fJ0_checkIndex_df160 fJ3_checkIndex_8e157
      rw [bd_e, if_1, hlen, if_neg nlt, if_pos hlt, bd_e, bd_e, if_pos okb, cb, eg, ch_b y hc, if_pos (ch_n y hc), bd_e, if_pos (ch_n y hc)]
    show fL_isLine_s0 z q a1 (fL_isLine_l z q a1 n) (nI T.length) (nI b) M = _
    unfold fL_isLine_s0
    rw [if_neg (fun z => by have := (nI_leI (by omega) (by omega)).mp z; omega), x_at h hl hy, bd_e, ec, bd_e, if_pos rfl, nI_1]
    exact ih (b + 1) n (by omega) (by omega)
theorem q_line {M : ml_M} {T : List Nat} {z : ml_Y} {q : Nat} (h : oY (M 9) (M 10) T) (hl : T.length ≤ 16) (hz : z.2 q = T.map nI) : fL_isLine z q (nI T.length) M = some (.inl 1, M) := by
  unfold fL_isLine fJ0_length_8abf5 fJ0_coder_7d493
  rw [bd_e, bd_e, hz, List.length_map, sh_r _ (by omega), if_pos rfl]
  exact x_ln (nI T.length) h hl hz T.length 0 40 (by omega) (by omega)
/-- the levels' text -/
def lvT (v g : Nat → Nat) : Nat → List Nat
  | 0 => []
  | b + 1 => lvT v g b ++ (if b = 0 then [] else [if g (b - 1) = 0 then 124 else 47]) ++ dg (v b / ar b)
theorem lvT_len (v g : Nat → Nat) : ∀ b, (lvT v g b).length ≤ 3 * b - (if b = 0 then 0 else 1) := by
  intro b
  induction b with
  | zero => exact Nat.le_refl _
  | succ b ih =>
    have := dg_len (v b / ar b)
    show (lvT v g b ++ (if b = 0 then [] else [if g (b - 1) = 0 then 124 else 47]) ++ dg (v b / ar b)).length ≤ _
    rw [List.length_append, List.length_append]
    by_cases h : b = 0
    · subst h
      simp [lvT]
      omega
    · rw [if_neg h] at ih
      rw [if_neg h, if_neg (show ¬ b + 1 = 0 by omega)]
      simp only [List.length_cons, List.length_nil]
      omega
theorem lv_40 {M : ml_M} {v o g : Nat → Nat} {L : List fb} {nx c : Nat} (h : jS M v o g L nx c) {b : Nat} (hb : b < 5) : v b / ar b ≤ 40 ∧ nI (v b) / nI (ar b) = nI (v b / ar b) := by
  have a1 := ar_ge b
  have a2 := ar_le b
  have hlim : v b ≤ 40 * ar b := (h.1 b hb).2
  have l4 := lim4 h.1 hb
  exact ⟨Nat.div_le_of_le_mul (by rw [Nat.mul_comm]; exact hlim), pk_div (by omega) (by omega) (by omega)⟩
theorem q_lvl {M0 : ml_M} {v o g : Nat → Nat} {L : List fb} {nx c : Nat} (h : jS M0 v o g L nx c) : ∀ (s b n : Nat) (M : ml_M), b + s = 5 → s < n → oY (M 9) (M 10) (lvT v g b) → gC M0 M → ∃ M', fX6_renderLevels_l n (nI b) M = some (.inl (nI (lvT v g 5).length), M') ∧ oY (M' 9) (M' 10) (lvT v g 5) ∧ gC M0 M' := by
  intro s
  induction s with
  | zero =>
    intro b n M hb hn hT hC
    obtain ⟨n, rfl⟩ : ∃ z, n = z + 1 := ⟨n - 1, by omega⟩
    have e : b = 5 := by omega
    subst e
    refine ⟨M, ?_, hT, hC⟩
    show fX6_renderLevels_s0 (fX6_renderLevels_l n) (nI 5) M = _
    unfold fX6_renderLevels_s0
    rw [if_pos (by decide), le_c hT.2.1, bd_e]
  | succ s ih =>
    intro b n M hb hn hT hC
    obtain ⟨n, rfl⟩ : ∃ z, n = z + 1 := ⟨n - 1, by omega⟩
    have hb5 : b < 5 := by omega
    have f0 : ml_fl 0 = 16 := rfl
    obtain ⟨hq, ed⟩ := lv_40 h hb5
    have n5 : ¬ (5 : Int32) ≤ nI b := fun z => by have := (nI_leI (a := 5) (by decide) (by omega)).mp z; omega
    have hlen := lvT_len v g b
    have num : ∀ (N : ml_M), oY (N 9) (N 10) (lvT v g b ++ (if b = 0 then [] else [if g (b - 1) = 0 then 124 else 47])) → gC M0 N → ∃ M', ml_bd (fX5_roundedLevel 0 (nI b) N) (fun r6 M7 => ml_bd (fJ4_append_bf812 r6 M7) (fun r8 M9 => fX6_renderLevels_l n (nI b + 1) M9)) = some (.inl (nI (lvT v g 5).length), M') ∧ oY (M' 9) (M' 10) (lvT v g 5) ∧ gC M0 M' := by
      intro N hN hCN
      obtain ⟨M1, a1, a2, a3⟩ := x_n (v := v b / ar b) hN (by
        rw [List.length_append]
        by_cases h0 : b = 0
        · subst h0; simp [lvT]
        · rw [if_neg h0] at hlen ⊢
          simp only [List.length_cons, List.length_nil]
          omega) (by omega)
      obtain ⟨M2, b1, b2, b3⟩ := ih (b + 1) n M1 (by omega) (by omega) a2 (hCN.tr a3)
      refine ⟨M2, ?_, b2, b3⟩
      rw [rl_c hb5 (v := v b) (by rw [hCN _ (by omega) (by omega)]; exact (h.1 b hb5).1), bd_e, ed, a1, bd_e, nI_1, b1]
    show ∃ M', fX6_renderLevels_s0 (fX6_renderLevels_l n) (nI b) M = _ ∧ _
    unfold fX6_renderLevels_s0
    rw [if_neg n5, jn_e]
    by_cases hb0 : b = 0
    · subst hb0
      rw [if_pos (show nI 0 ≤ 0 by decide)]
      exact num M (by rw [if_pos rfl, List.append_nil]; exact hT) hC
    · have nb0 : ¬ nI b ≤ 0 := nI_nle (by omega) (by omega)
      obtain ⟨p, hp⟩ : ∃ p, b = p + 1 := ⟨b - 1, by omega⟩
      have hp4 : p < 4 := by omega
      have e1 : nI b - 1 = nI p := by rw [hp]; exact nI_pred p
      have okp : ml_ok (nI p) 4 := ok_nI hp4 (by decide)
      have cp : (nI p).toNatClampNeg = p := nI_clamp (by omega)
      have q1 : M (ml_fl 0 + 4) p = nI (g p) := by rw [hC _ (by omega) (by omega)]; exact (h.2.2.1 p hp4).1
      have hgp := (h.2.2.1 p hp4).2
      rw [if_neg hb0] at num hlen
      rw [if_neg nb0, e1, if_pos okp, jn_e, cp, q1]
      rw [show b - 1 = p by omega] at num
      rcases (show g p = 0 ∨ g p = 1 by omega) with h0 | h0
      · obtain ⟨M1, a1, a2, a3⟩ := x_c (c := 124) hT (by omega) (by decide)
        have a1' : fJ4_append_cf468 124 M = some (.inl 0, M1) := a1
        rw [h0, if_pos (show nI 0 = 0 from rfl)]
        dsimp only
        rw [a1', bd_e]
        exact num M1 (by rw [h0, if_pos rfl]; exact a2) (hC.tr a3)
      · obtain ⟨M1, a1, a2, a3⟩ := x_c (c := 47) hT (by omega) (by decide)
        have a1' : fJ4_append_cf468 47 M = some (.inl 0, M1) := a1
        rw [h0, if_neg (show ¬ nI 1 = 0 by decide)]
        dsimp only
        rw [a1', bd_e]
        exact num M1 (by rw [h0, if_neg (by decide)]; exact a2) (hC.tr a3)
/-- behind a new text -/
theorem jI.text {M M' : ml_M} {T : List Nat} (h : jI M) (hT : oY (M' 9) (M' 10) T) (hl : T.length ≤ 16) (hC : gC M M') : jI M' := by
  obtain ⟨h1, ⟨a, b, c1, c2, c3, c4⟩, -⟩ := h
  exact ⟨h1.of (fun o ho => hC _ (by unfold ml_fl; omega) (by unfold ml_fl; omega)), ⟨a, b, c1, c2, by rw [hC 1 (by decide) (by decide)]; exact c3, by rw [hC 1 (by decide) (by decide)]; exact c4⟩, T.length, hl, hT.1, hT.2.1⟩
theorem q_levels {M : ml_M} {v o g : Nat → Nat} {L : List fb} {nx c : Nat} (hI : jI M) (h : jS M v o g L nx c) : ∃ M', fX6_renderLevels M = some (.inl (nI (lvT v g 5).length), M') ∧ oY (M' 9) (M' 10) (lvT v g 5) ∧ jI M' ∧ jS M' v o g L nx c := by
  obtain ⟨l, l16, o1, o2⟩ := hI.2.2
  obtain ⟨C0, s1, s2, s3, s4⟩ := sl_c o1 o2 l16
  obtain ⟨M', a1, a2, a3⟩ := q_lvl h 5 0 ml_fuel C0 (by decide) (by unfold ml_fuel; omega) ⟨s2, s3, fun j y hy => by cases hy⟩ s4
  have := lvT_len v g 5
  have h5 : (lvT v g 5).length ≤ 14 := this
  refine ⟨M', ?_, a2, hI.text a2 (by omega) a3, h.of (fun p a b => a3 p (by omega) (by omega))⟩
  unfold fX6_renderLevels
  rw [s1, bd_e]
  exact a1
def cs (k : Nat) : Nat := if k = 0 then 114 else if k = 1 then 103 else 98
theorem cs_e {k : Nat} (h : k < 3) : ml_cs k = nI (cs k) ∧ cs k < 128 := by
  rcases (show k = 0 ∨ k = 1 ∨ k = 2 by omega) with rfl | rfl | rfl <;> exact ⟨by decide +kernel, by decide⟩
def btT (x : fb) : List Nat := [cs x.1] ++ dg x.2.1 ++ [if x.2.2.1 = 0 then 94 else 118] ++ dg x.2.2.2.1
theorem btT_len (x : fb) : (btT x).length ≤ 6 := by
  have := dg_len x.2.1
  have := dg_len x.2.2.2.1
  unfold btT
  simp only [List.length_append, List.length_cons, List.length_nil]
  omega
theorem q_bt {M : ml_M} {v o g : Nat → Nat} {L : List fb} {nx c : Nat} (hI : jI M) (h : jS M v o g L nx c) {b : Nat} {x : fb} (hx : L[b]? = some x) : ∃ M', fX6_renderBoat (nI b) M = some (.inl (nI (btT x).length), M') ∧ oY (M' 9) (M' 10) (btT x) ∧ jI M' ∧ jS M' v o g L nx c := by
  have hb := (List.getElem?_eq_some_iff.mp hx).1
  obtain ⟨h1, h2, h3, hS, hC, hok, hL, hR, hE⟩ := id h
  have hxm : x ∈ L := List.mem_of_getElem? hx
  obtain ⟨x3, d1, d9, w1, s4⟩ := (hok x hxm).1
  obtain ⟨l, l16, o1, o2⟩ := hI.2.2
  obtain ⟨C0, t1, t2, t3, t4⟩ := sl_c o1 o2 l16
  obtain ⟨k6, k7, k8, k9, -⟩ := hC.2 b x hx
  have f0 : ml_fl 0 = 16 := rfl
  have ok8 : ml_ok (nI b) 8 := ok_nI (by omega) (by decide)
  have cb : (nI b).toNatClampNeg = b := nI_clamp (by omega)
  obtain ⟨ce, cl⟩ := cs_e x3
  obtain ⟨C1, p1, p2, p3⟩ := x_c (M := C0) (T := []) (c := cs x.1) ⟨t2, t3, fun j y hy => by cases hy⟩ (by decide) cl
  have q2l := dg_len x.2.1
  obtain ⟨C2, q1, q2, q3⟩ := x_n (v := x.2.1) p2 (by simp only [List.length_append, List.length_cons, List.length_nil]; omega) (by omega)
  obtain ⟨C3, r1, r2, r3⟩ := x_c (c := if x.2.2.1 = 0 then 94 else 118) q2 (by simp only [List.length_append, List.length_cons, List.length_nil]; omega) (by split <;> decide)
  obtain ⟨C4, u1, u2, u3⟩ := x_n (v := x.2.2.2.1) r2 (by simp only [List.length_append, List.length_cons, List.length_nil]; omega) (by omega)
  have gc1 := t4.tr p3
  have gc2 := gc1.tr q3
  have gc3 := gc2.tr r3
  have gc4 := gc3.tr u3
  have hbl := btT_len x
  have u2' : oY (C4 9) (C4 10) (btT x) := u2
  refine ⟨C4, ?_, u2', hI.text u2' (by omega) gc4, h.of (fun p a b => gc4 p (by omega) (by omega))⟩
  have k7 : C1 (ml_fl 0 + 7) (nI b).toNatClampNeg = nI x.2.1 := by rw [cb, gc1 _ (by omega) (by omega)]; exact k7
  have k8 : C2 (ml_fl 0 + 8) (nI b).toNatClampNeg = nI x.2.2.1 := by rw [cb, gc2 _ (by omega) (by omega)]; exact k8
  have k9 : C3 (ml_fl 0 + 9) (nI b).toNatClampNeg = nI x.2.2.2.1 := by rw [cb, gc3 _ (by omega) (by omega)]; exact k9
  have k6 : C0 (ml_fl 0 + 6) b = nI x.1 := by rw [t4 _ (by omega) (by omega)]; exact k6
  have le4 : fJ4_length_8abf5 C4 = some (.inl (nI (btT x).length), C4) := le_c u2'.2.1
  unfold fX6_renderBoat
  rw [nt_1 hb (by omega) hC.1, bd_e, t1, bd_e, sg_c (by omega) x3 k6, bd_e, ce, p1, bd_e, if_pos ok8, k7, q1, bd_e, if_pos ok8, jn_e, k8]
  rcases (show x.2.2.1 = 0 ∨ x.2.2.1 = 1 by omega) with h0 | h0
  · rw [h0, if_pos rfl] at r1
    have r1' : fJ4_append_cf468 94 C2 = some (.inl 0, C3) := r1
    rw [h0, if_pos (show nI 0 = 0 from rfl)]
    dsimp only
    rw [r1', bd_e, if_pos ok8, k9, u1, bd_e, le4, bd_e]
  · rw [h0, if_neg (by decide)] at r1
    have r1' : fJ4_append_cf468 118 C2 = some (.inl 0, C3) := r1
    rw [h0, if_neg (show ¬ nI 1 = 0 by decide)]
    dsimp only
    rw [r1', bd_e, if_pos ok8, k9, u1, bd_e, le4, bd_e]
