/-! Ranks, events, the look ahead. -/
theorem fm_8 : ∀ nx < 8, ∀ a < 8, (if 0 ≤ (((nI nx - 1) - nI a) ^^^ 8) then (nI nx - 1) - nI a - ((nI nx - 1) - nI a) / 8 * 8 else if (nI nx - 1) - nI a - ((nI nx - 1) - nI a) / 8 * 8 = 0 then (nI nx - 1) - nI a - ((nI nx - 1) - nI a) / 8 * 8 else (nI nx - 1) - nI a - ((nI nx - 1) - nI a) / 8 * 8 + 8) = nI ((nx + 7 - a) % 8) := by decide +kernel
theorem pl_c {nx a : Nat} {M : ml_M} (hn : nx < 8) (ha : a < 8) (h2 : M (ml_fl 0 + 12) 2 = nI nx) : fX0_placeOf 0 (nI a) M = some (.inl (nI ((nx + 7 - a) % 8)), M) := by
  have e := fm_8 nx hn a ha
  unfold fX0_placeOf fJ9_floorMod_7cf53
  rw [h2, if_pos (show ¬ (8 : Int32) = 0 by decide), lt_e]
  by_cases c1 : 0 ≤ (((nI nx - 1) - nI a) ^^^ 8)
  · rw [if_pos c1] at e
    rw [if_pos c1, bd_e, e]
  · rw [if_neg c1] at e
    rw [if_neg c1]
    by_cases c2 : (nI nx - 1) - nI a - ((nI nx - 1) - nI a) / 8 * 8 = 0
    · rw [if_pos c2] at e
      rw [if_pos c2, bd_e, e]
    · rw [if_neg c2] at e
      rw [if_neg c2, bd_e, e]
theorem nv_1 {b l : Nat} {M : ml_M} (h : b < l) (hl : l ≤ 100) (h5 : M (ml_fl 0 + 12) 3 = nI l) : fX6_needEvent (nI b) M = some (.inl 0, M) := by
  unfold fX6_needEvent
  rw [if_neg (nI_pos (by omega)), h5, if_pos ((nI_ltI (by omega) (by omega)).mpr h)]
theorem nv_0 {a : Int32} {l : Nat} {M : ml_M} (h : a < 0 ∨ ¬ a < 0 ∧ ¬ a < nI l) (h5 : M (ml_fl 0 + 12) 3 = nI l) : fX6_needEvent a M = some (.inr 4, M) := by
  unfold fX6_needEvent
  rcases h with h | ⟨h, h2⟩
  · rw [if_pos h]
  · rw [if_neg h, h5, if_neg h2]
theorem ch_n : ∀ k < 128, narrow .char (.int (nI k)) = .int (nI k) := by decide +kernel
/-- how many of the first l keys stand below x -/
def nlt (K : Nat → Nat) (x : Nat) : Nat → Nat
  | 0 => 0
  | l + 1 => nlt K x l + if K l < x then 1 else 0
theorem nlt_congr {K K' : Nat → Nat} {x y : Nat} : ∀ l, (∀ j, j < l → (K j < x ↔ K' j < y)) → nlt K x l = nlt K' y l := by
  intro l
  induction l with
  | zero => intro _; rfl
  | succ l ih =>
    intro h
    show nlt K x l + _ = nlt K' y l + _
    rw [ih (fun j hj => h j (by omega))]
    have := h l (by omega)
    by_cases c : K l < x
    · rw [if_pos c, if_pos (this.mp c)]
    · rw [if_neg c, if_neg (fun z => c (this.mpr z))]
theorem nlt_mono {K : Nat → Nat} {x y : Nat} (h : x ≤ y) : ∀ l, nlt K x l ≤ nlt K y l := by
  intro l
  induction l with
  | zero => exact Nat.le_refl _
  | succ l ih =>
    show nlt K x l + _ ≤ nlt K y l + _
    by_cases c : K l < x
    · rw [if_pos c, if_pos (by omega)]; omega
    · rw [if_neg c]; omega
theorem nlt_le {K : Nat → Nat} {x : Nat} : ∀ l, nlt K x l ≤ l := by
  intro l
  induction l with
  | zero => exact Nat.le_refl _
  | succ l ih =>
    show nlt K x l + _ ≤ l + 1
    split <;> omega
theorem nlt_0 {K : Nat → Nat} : ∀ l, nlt K 0 l = 0 := by
  intro l
  induction l with
  | zero => rfl
  | succ l ih =>
    show nlt K 0 l + _ = 0
    rw [ih, if_neg (by omega)]
/-- one key is x -/
theorem nlt_1 {K : Nat → Nat} {k : Nat} : ∀ l, k < l → (∀ j, j < l → K j = K k → j = k) → nlt K (K k + 1) l = nlt K (K k) l + 1 := by
  intro l
  induction l with
  | zero => intro h; omega
  | succ l ih =>
    intro hk hi
    show nlt K (K k + 1) l + _ = nlt K (K k) l + _ + 1
    by_cases c : k = l
    · subst c
      rw [if_pos (by omega), if_neg (by omega), nlt_congr (K' := K) (y := K k) k (fun j hj => ⟨fun z => by
        rcases Nat.lt_or_ge (K j) (K k) with h | h
        · exact h
        · exact absurd (hi j (by omega) (by omega)) (by omega), fun z => by omega⟩)]
    · rw [ih (by omega) (fun j hj => hi j (by omega))]
      have : K l ≠ K k := fun z => c ((hi l (by omega) z).symm)
      by_cases d : K l < K k
      · rw [if_pos d, if_pos (by omega)]
      · rw [if_neg d, if_neg (by omega)]
theorem nlt_lt {K : Nat → Nat} {l a b : Nat} (ha : a < l) (hi : ∀ j, j < l → K j = K a → j = a) (h : K a < K b) : nlt K (K a) l < nlt K (K b) l := by
  have h1 := nlt_1 l ha hi
  have h2 : nlt K (K a + 1) l ≤ nlt K (K b) l := nlt_mono (by omega) l
  omega
theorem nlt_ub {K : Nat → Nat} {l a : Nat} (ha : a < l) (hi : ∀ j, j < l → K j = K a → j = a) : nlt K (K a) l < l := by
  have h1 := nlt_1 l ha hi
  have h2 : nlt K (K a + 1) l ≤ l := nlt_le l
  omega
theorem nlt_inj {K : Nat → Nat} {l a b : Nat} (ha : a < l) (hb : b < l) (hi : ∀ i j, i < l → j < l → K j = K i → j = i) (h : nlt K (K a) l = nlt K (K b) l) : a = b := by
  rcases Nat.lt_trichotomy (K a) (K b) with c | c | c
  · have := nlt_lt ha (fun j hj => hi a j ha hj) c; omega
  · exact hi b a hb ha c
  · have := nlt_lt hb (fun j hj => hi b j hb hj) c; omega
/-- a basin's key: the higher, the sooner; else the smaller index -/
def kk (v : Nat → Nat) (j : Nat) : Nat := 40000 - (v j * (if j = 0 then 3 else if j = 4 then 3 else 5)) * 8 + j
theorem kk_cmp {V : Nat → Int32} {v : Nat → Nat} (h : wv V v) {j b : Nat} (hj : j < 5) (hb : b < 5) : (v b * ar j < v j * ar b ∧ 0 < wd V j b ∧ kk v j < kk v b) ∨ (v j * ar b = v b * ar j ∧ wd V j b = 0 ∧ (kk v j < kk v b ↔ j < b)) ∨ (v j * ar b < v b * ar j ∧ ¬ 0 < wd V j b ∧ ¬ wd V j b = 0 ∧ kk v b < kk v j) := by
  have l1 := mul_le_400 (a := b) (lim4 h hj)
  have l2 := mul_le_400 (a := j) (lim4 h hb)
  have m1 := lim4 h hj
  have m2 := lim4 h hb
  rcases Nat.lt_trichotomy (v b * ar j) (v j * ar b) with c | c | c
  · refine Or.inl ⟨c, ?_, ?_⟩
    · rw [wd_pos h hj hb (by omega)]
      exact (nI_ltI (a := 0) (by decide) (by omega)).mpr (by omega)
    · unfold kk
      rcases i_lt5 hj with rfl | rfl | rfl | rfl | rfl <;> rcases i_lt5 hb with rfl | rfl | rfl | rfl | rfl <;> simp [ar] at c ⊢ <;> omega
  · refine Or.inr (Or.inl ⟨c.symm, ?_, ?_⟩)
    · rw [wd_pos h hj hb (by omega), c, Nat.sub_self]
      rfl
    · unfold kk
      rcases i_lt5 hj with rfl | rfl | rfl | rfl | rfl <;> rcases i_lt5 hb with rfl | rfl | rfl | rfl | rfl <;> simp [ar] at c ⊢ <;> omega
  · refine Or.inr (Or.inr ⟨c, ?_, ?_, ?_⟩)
    · rw [wd_neg h hj hb (by omega), Int32.lt_iff_toInt_lt, w_toInt (by omega)]
      have : (0 : Int32).toInt = 0 := by decide
      omega
    · intro z
      have z2 := congrArg Int32.toInt z
      rw [wd_neg h hj hb (by omega), w_toInt (by omega)] at z2
      have : (0 : Int32).toInt = 0 := by decide
      omega
    · unfold kk
      rcases i_lt5 hj with rfl | rfl | rfl | rfl | rfl <;> rcases i_lt5 hb with rfl | rfl | rfl | rfl | rfl <;> simp [ar] at c ⊢ <;> omega
theorem kk_inj {v : Nat → Nat} {V : Nat → Int32} (h : wv V v) : ∀ i j, i < 5 → j < 5 → kk v j = kk v i → j = i := by
  intro i j hi hj e
  rcases kk_cmp h hj hi with ⟨-, -, c⟩ | ⟨c0, -, c⟩ | ⟨-, -, -, c⟩
  · omega
  · rcases kk_cmp h hi hj with ⟨-, -, d⟩ | ⟨-, -, d⟩ | ⟨-, -, -, d⟩ <;> omega
  · omega
theorem rkf_e {V : Nat → Int32} {v : Nat → Nat} (h : wv V v) {j b : Nat} (hj : j < 5) (hb : b < 5) : rkf V b j = if kk v j < kk v b then 1 else 0 := by
  unfold rkf
  rcases kk_cmp h hj hb with ⟨-, c, d⟩ | ⟨-, c, d⟩ | ⟨-, c, c2, d⟩
  · rw [if_pos c, if_pos d]
  · have c0 : ¬ 0 < wd V j b := by rw [c]; decide
    rw [if_neg c0, if_pos c]
    by_cases e : b ≤ j
    · rw [if_pos e, if_neg (fun z => by have := d.mp z; omega)]
    · rw [if_neg e, if_pos (d.mpr (by omega))]
  · rw [if_neg c, if_neg c2, if_neg (by omega)]
theorem rkv_e {V : Nat → Int32} {v : Nat → Nat} (h : wv V v) {b : Nat} (hb : b < 5) : rkv V b = nlt (kk v) (kk v b) 5 := by
  unfold rkv
  rw [rkf_e h (by decide) hb, rkf_e h (by decide) hb, rkf_e h (by decide) hb, rkf_e h (by decide) hb, rkf_e h (by decide) hb]
  rfl
set_option maxRecDepth 100000 in
theorem pig : ∀ c0 c1 c2 c3 c4 r : Fin 5, c0 ≠ c1 → c0 ≠ c2 → c0 ≠ c3 → c0 ≠ c4 → c1 ≠ c2 → c1 ≠ c3 → c1 ≠ c4 → c2 ≠ c3 → c2 ≠ c4 → c3 ≠ c4 → c0 = r ∨ c1 = r ∨ c2 = r ∨ c3 = r ∨ c4 = r := by decide +kernel
theorem surj5 {f : Nat → Nat} (h : ∀ b, b < 5 → f b < 5) (hi : ∀ a b, a < 5 → b < 5 → f a = f b → a = b) {r : Nat} (hr : r < 5) : ∃ b, b < 5 ∧ f b = r := by
  have ne : ∀ a b (ha : a < 5) (hb : b < 5), a ≠ b → (⟨f a, h a ha⟩ : Fin 5) ≠ ⟨f b, h b hb⟩ := fun a b ha hb hab z => hab (hi a b ha hb (Fin.mk.inj z))
  rcases pig ⟨f 0, h 0 (by decide)⟩ ⟨f 1, h 1 (by decide)⟩ ⟨f 2, h 2 (by decide)⟩ ⟨f 3, h 3 (by decide)⟩ ⟨f 4, h 4 (by decide)⟩ ⟨r, hr⟩ (ne 0 1 (by decide) (by decide) (by decide)) (ne 0 2 (by decide) (by decide) (by decide)) (ne 0 3 (by decide) (by decide) (by decide)) (ne 0 4 (by decide) (by decide) (by decide)) (ne 1 2 (by decide) (by decide) (by decide)) (ne 1 3 (by decide) (by decide) (by decide)) (ne 1 4 (by decide) (by decide) (by decide)) (ne 2 3 (by decide) (by decide) (by decide)) (ne 2 4 (by decide) (by decide) (by decide)) (ne 3 4 (by decide) (by decide) (by decide)) with e | e | e | e | e
  · exact ⟨0, by decide, Fin.mk.inj e⟩
  · exact ⟨1, by decide, Fin.mk.inj e⟩
  · exact ⟨2, by decide, Fin.mk.inj e⟩
  · exact ⟨3, by decide, Fin.mk.inj e⟩
  · exact ⟨4, by decide, Fin.mk.inj e⟩
def br (v : Nat → Nat) (b : Nat) : Nat := nlt (kk v) (kk v b) 5
theorem bl_c {M : ml_M} {v : Nat → Nat} (hv : wv (M (ml_fl 0 + 2)) v) {r : Nat} (hr : r < 100) (a0 : Int32) : ∀ (s b m1 : Nat), b + s = 5 → s < m1 → (∃ k, b ≤ k ∧ k < 5 ∧ br v k = r ∧ (∀ j, j < 5 → br v j = r → j = k) ∧ fX6_basinByLevel_l a0 m1 (nI r) (nI b) M = some (.inl (nI k), M)) ∨ ((∀ j, b ≤ j → j < 5 → br v j ≠ r) ∧ fX6_basinByLevel_l a0 m1 (nI r) (nI b) M = some (.inr 4, M)) := by
  intro s
  induction s with
  | zero =>
    intro b m1 hb h1
    obtain ⟨m1, rfl⟩ : ∃ z, m1 = z + 1 := ⟨m1 - 1, by omega⟩
    have e : b = 5 := by omega
    subst e
    refine Or.inr ⟨fun j a b => by omega, ?_⟩
    show fX6_basinByLevel_s0 a0 (fX6_basinByLevel_l a0 m1) (nI r) (nI 5) M = _
    unfold fX6_basinByLevel_s0
    rw [if_pos (by decide)]
  | succ s ih =>
    intro b m1 hb h1
    obtain ⟨m1, rfl⟩ : ∃ z, m1 = z + 1 := ⟨m1 - 1, by omega⟩
    have hr5 : br v b ≤ 5 := nlt_le 5
    have e1 : fX6_basinByLevel_l a0 (m1 + 1) (nI r) (nI b) M = if br v b = r then some (.inl (nI b), M) else fX6_basinByLevel_l a0 m1 (nI r) (nI (b + 1)) M := by
      show fX6_basinByLevel_s0 a0 (fX6_basinByLevel_l a0 m1) (nI r) (nI b) M = _
      unfold fX6_basinByLevel_s0
      rw [if_neg (fun z => by have := (nI_leI (a := 5) (b := b) (by decide) (by omega)).mp z; omega), rk_c (by omega), bd_e, nI_1, rkv_e hv (by omega)]
      by_cases h : br v b = r
      · rw [if_pos h]
        exact if_pos (congrArg nI h)
      · rw [if_neg h]
        exact if_neg (fun z => h ((nI_eq (by omega) (by omega)).mp z))
    by_cases h : br v b = r
    · exact Or.inl ⟨b, Nat.le_refl _, by omega, h, fun j hj hjr => nlt_inj hj (by omega) (kk_inj hv) (hjr.trans h.symm), by rw [e1, if_pos h]⟩
    · rcases ih (b + 1) m1 (by omega) (by omega) with ⟨k, k1, k2, k3, k4, k5⟩ | ⟨k1, k2⟩
      · exact Or.inl ⟨k, by omega, k2, k3, k4, by rw [e1, if_neg h]; exact k5⟩
      · refine Or.inr ⟨fun j a c => ?_, by rw [e1, if_neg h]; exact k2⟩
        by_cases d : j = b
        · rw [d]; exact h
        · exact k1 j (by omega) c
def lc (L : List fb) (j : Nat) : Nat := match L[j]? with | some x => x.1 | none => 0
def lk (L : List fb) (j : Nat) : Nat := lc L j * 16 + j
theorem lk_inj {L : List fb} {l : Nat} (hl : l ≤ 8) : ∀ i j, i < l → j < l → lk L j = lk L i → j = i := by
  intro i j hi hj h
  unfold lk at h
  omega
theorem bks_e {L : List fb} {b l : Nat} (hl : l ≤ 8) (hb : b < l) : ∀ s, s ≤ l → bks (lc L) b s = nlt (lk L) (lk L b) s := by
  intro s
  induction s with
  | zero => intro _; rfl
  | succ s ih =>
    intro hs
    show bks (lc L) b s + bkf (lc L) b s = nlt (lk L) (lk L b) s + _
    rw [ih (by omega)]
    unfold bkf lk
    by_cases c : lc L s < lc L b
    · rw [if_pos c, if_pos (by omega)]
    · rw [if_neg c]
      by_cases d : lc L s = lc L b
      · rw [if_pos d]
        by_cases e : b ≤ s
        · rw [if_pos e, if_neg (by omega)]
        · rw [if_neg e, if_pos (by omega)]
      · rw [if_neg d, if_neg (by omega)]
theorem bo_c {M : ml_M} {L : List fb} (hl : L.length ≤ 8) (h5 : M (ml_fl 0 + 5) 0 = nI L.length) (hC : ∀ j, j < L.length → M (ml_fl 0 + 6) j = nI (lc L j) ∧ lc L j < 3) {r : Nat} (hr : r < 100) (a0 : Int32) : ∀ (s b m1 : Nat), b + s = L.length → s < m1 → (∃ k, b ≤ k ∧ k < L.length ∧ nlt (lk L) (lk L k) L.length = r ∧ fX6_boatInOrder_l a0 m1 (nI r) (nI b) M = some (.inl (nI k), M)) ∨ ((∀ j, b ≤ j → j < L.length → nlt (lk L) (lk L j) L.length ≠ r) ∧ fX6_boatInOrder_l a0 m1 (nI r) (nI b) M = some (.inr 4, M)) := by
  intro s
  induction s with
  | zero =>
    intro b m1 hb h1
    obtain ⟨m1, rfl⟩ : ∃ z, m1 = z + 1 := ⟨m1 - 1, by omega⟩
    have e : b = L.length := by omega
    subst e
    refine Or.inr ⟨fun j a b => by omega, ?_⟩
    show fX6_boatInOrder_s0 a0 (fX6_boatInOrder_l a0 m1) (nI r) (nI L.length) M = _
    unfold fX6_boatInOrder_s0
    rw [h5, if_pos (Int32.le_refl _)]
  | succ s ih =>
    intro b m1 hb h1
    obtain ⟨m1, rfl⟩ : ∃ z, m1 = z + 1 := ⟨m1 - 1, by omega⟩
    have e1 : fX6_boatInOrder_l a0 (m1 + 1) (nI r) (nI b) M = if nlt (lk L) (lk L b) L.length = r then some (.inl (nI b), M) else fX6_boatInOrder_l a0 m1 (nI r) (nI (b + 1)) M := by
      show fX6_boatInOrder_s0 a0 (fX6_boatInOrder_l a0 m1) (nI r) (nI b) M = _
      unfold fX6_boatInOrder_s0
      have ek : fX1_rankOfBoat 0 (nI b) M = some (.inl (nI (bks (lc L) b L.length)), M) := kb_c hl (by omega) h5 hC (nI b) L.length 0 ml_fuel (by omega) (by unfold ml_fuel; omega)
      rw [h5, if_neg (fun z => by have := (nI_leI (by omega) (by omega)).mp z; omega), ek, bd_e, nI_1, bks_e hl (by omega) _ (Nat.le_refl _)]
      have hub : nlt (lk L) (lk L b) L.length ≤ L.length := nlt_le _
      by_cases h : nlt (lk L) (lk L b) L.length = r
      · rw [if_pos h]
        exact if_pos (congrArg nI h)
      · rw [if_neg h]
        exact if_neg (fun z => h ((nI_eq (by omega) (by omega)).mp z))
    by_cases h : nlt (lk L) (lk L b) L.length = r
    · exact Or.inl ⟨b, Nat.le_refl _, by omega, h, by rw [e1, if_pos h]⟩
    · rcases ih (b + 1) m1 (by omega) (by omega) with ⟨k, k1, k2, k3, k5⟩ | ⟨k1, k2⟩
      · exact Or.inl ⟨k, by omega, k2, k3, by rw [e1, if_neg h]; exact k5⟩
      · refine Or.inr ⟨fun j a c => ?_, by rw [e1, if_neg h]; exact k2⟩
        by_cases d : j = b
        · rw [d]; exact h
        · exact k1 j (by omega) c
theorem me_c {k : Nat} {mk : Nat → Int32} (hk : k < 4) (a0 : Int32) : ∀ (r t m1 : Nat) (Mc Mm : ml_M) (L : List fb), t + r = 201 → r < m1 → rQ Mc 1 Mm mk L → ∃ (res : Int32 ⊕ Nat) (Mc' : ml_M), fX6_minutesUntilEqual_l a0 m1 (nI k) (nI t) Mc = some (res, Mc') ∧ fF 1 Mc Mc' ∧ (res = .inr 4 ∨ ∃ f, t ≤ f ∧ f ≤ 200 ∧ res = .inl (nI f)) := by
  intro r
  induction r with
  | zero =>
    intro t m1 Mc Mm L ht h1 hQ
    obtain ⟨m1, rfl⟩ : ∃ z, m1 = z + 1 := ⟨m1 - 1, by omega⟩
    have e : t = 201 := by omega
    subst e
    refine ⟨.inr 4, Mc, ?_, fF.rf, Or.inl rfl⟩
    show fX6_minutesUntilEqual_s0 a0 (fX6_minutesUntilEqual_l a0 m1) (nI k) (nI 201) Mc = _
    unfold fX6_minutesUntilEqual_s0
    rw [if_pos (by decide)]
  | succ r ih =>
    intro t m1 Mc Mm L ht h1 hQ
    obtain ⟨m1, rfl⟩ : ∃ z, m1 = z + 1 := ⟨m1 - 1, by omega⟩
    have e1 : fX6_minutesUntilEqual_l a0 (m1 + 1) (nI k) (nI t) Mc = (if wq (Mc (ml_fl 1 + 2)) k = 0 then some (.inl (nI t), Mc) else ml_bd (fX2_passMinutes 1 1 Mc) (fun r3 M4 => fX6_minutesUntilEqual_l a0 m1 (nI k) (nI (t + 1)) M4)) := by
      show fX6_minutesUntilEqual_s0 a0 (fX6_minutesUntilEqual_l a0 m1) (nI k) (nI t) Mc = _
      unfold fX6_minutesUntilEqual_s0
      rw [if_neg (fun z => by have := (nI_ltI (a := 200) (b := t) (by decide) (by omega)).mp z; omega), wq_c hk, bd_e, nI_1]
    rw [e1]
    by_cases h : wq (Mc (ml_fl 1 + 2)) k = 0
    · exact ⟨.inl (nI t), Mc, if_pos h, fF.rf, Or.inr ⟨t, Nat.le_refl _, by omega, rfl⟩⟩
    · obtain ⟨C, R, L', gn, a1, a2, a3, a4, a5, a6⟩ := pm1 hQ
      rw [if_neg h, a1, bd_e]
      obtain ⟨res, Mc', b1, b2, b3⟩ := ih (t + 1) m1 C R L' (by omega) (by omega) a3
      refine ⟨res, Mc', b1, a5.tr b2, ?_⟩
      rcases b3 with b3 | ⟨f, f1, f2, f3⟩
      · exact Or.inl b3
      · exact Or.inr ⟨f, by omega, f2, f3⟩
section
variable {M : ml_M} {v o g : Nat → Nat} {L : List fb} {nx c : Nat}
theorem q_minutes (hI : jI M) (h : jS M v o g L nx c) {k : Nat} (hk : k < 4) : ∃ (r : Int32) (M' : ml_M), fL_minutesUntilEqual (nI k) M = some (.inl r, M') ∧ (r = 0 ↔ nq v k = 0) ∧ ∀ p, (p < 31 ∨ 46 ≤ p) → M' p = M p := by
  obtain ⟨⟨n, Mm, L0, a, hQ, -⟩, -⟩ := hI
  obtain ⟨M3, a1, a2, a3⟩ := cpF (i := 1) (j := 0) (by decide) M
  have hQ1 : rQ M3 1 Mm mk0 L0 := hQ.cp a2
  have hw : wq (M3 (ml_fl 1 + 2)) k = nI (nq v k) := by
    rw [← wq_n h.1 hk]
    exact wq_congr (a2.2.2.1 k (by omega)) (a2.2.2.1 (k + 1) (by omega))
  have hle := nq_le h.1 hk
  have e0 : fX6_minutesUntilEqual (nI k) M = fX6_minutesUntilEqual_l (nI k) ml_fuel (nI k) (nI 0) M3 := by
    unfold fX6_minutesUntilEqual
    rw [ng_c hk, bd_e, a1, bd_e]
    rfl
  obtain ⟨z, hz⟩ : ∃ z, ml_fuel = z + 1 := ⟨ml_fuel - 1, by unfold ml_fuel; omega⟩
  have e1 : fX6_minutesUntilEqual_l (nI k) ml_fuel (nI k) (nI 0) M3 = (if wq (M3 (ml_fl 1 + 2)) k = nI 0 then some (.inl (nI 0), M3) else ml_bd (fX2_passMinutes 1 1 M3) (fun r3 M4 => fX6_minutesUntilEqual_l (nI k) z (nI k) (nI 1) M4)) := by
    rw [hz]
    show fX6_minutesUntilEqual_s0 (nI k) (fX6_minutesUntilEqual_l (nI k) z) (nI k) (nI 0) M3 = _
    unfold fX6_minutesUntilEqual_s0
    rw [if_neg (by decide), wq_c hk, bd_e, nI_1]
    rfl
  have fr : ∀ C : ml_M, fF 1 M3 C → ∀ p, (p < 31 ∨ 46 ≤ p) → C p = M p := fun C hC p hp => by
    rw [hC.1 p (by unfold ml_fl; omega), a3 p (by unfold ml_fl; omega)]
  unfold fL_minutesUntilEqual
  rw [e0, e1, hw]
  by_cases h0 : nq v k = 0
  · refine ⟨nI 0, M3, ?_, ⟨fun _ => h0, fun _ => rfl⟩, fr M3 fF.rf⟩
    rw [h0, if_pos rfl]
    rfl
  · rw [if_neg (fun z => h0 ((nI_eq (by omega) (by decide)).mp z))]
    obtain ⟨C, R, L', gn, b1, b2, b3, b4, b5, b6⟩ := pm1 hQ1
    rw [b1, bd_e]
    obtain ⟨res, C2, d1, d2, d3⟩ := me_c hk (nI k) 200 1 z C R L' (by decide) (by have : ml_fuel = z + 1 := hz; unfold ml_fuel at this; omega) b3
    rw [d1]
    rcases d3 with rfl | ⟨f, f1, f2, rfl⟩
    · exact ⟨-30000, C2, rfl, ⟨fun z => absurd z (by decide), fun z => absurd z h0⟩, fr C2 (b5.tr d2)⟩
    · exact ⟨nI f, C2, rfl, ⟨fun z => by have := (nI_eq (a := f) (b := 0) (by omega) (by decide)).mp z; omega, fun z => absurd z h0⟩, fr C2 (b5.tr d2)⟩
/-- the basin of a rank -/
theorem q_rank (h : jS M v o g L nx c) {r : Nat} (hr : r < 5) : ∃ k, k < 5 ∧ br v k = r ∧ fX6_basinByLevel (nI r) M = some (.inl (nI k), M) := by
  rcases bl_c h.1 (show r < 100 by omega) (nI r) 5 0 ml_fuel (by decide) (by unfold ml_fuel; omega) with ⟨k, k1, k2, k3, k4, k5⟩ | ⟨k1, k2⟩
  · exact ⟨k, k2, k3, k5⟩
  · obtain ⟨b, hb, e⟩ := surj5 (f := br v) (fun b hb => nlt_ub hb (fun j hj => kk_inj h.1 b j hb hj)) (fun a b ha hb e => nlt_inj ha hb (kk_inj h.1) e) hr
    exact absurd e (k1 b (Nat.zero_le _) hb)
theorem q_rank5 (h : jS M v o g L nx c) : fL_basinByLevel 5 M = some (.inl (-30000), M) := by
  have e : fX6_basinByLevel (nI 5) M = some (.inr 4, M) := by
    rcases bl_c h.1 (show 5 < 100 by omega) (nI 5) 5 0 ml_fuel (by decide) (by unfold ml_fuel; omega) with ⟨k, k1, k2, k3, k4, k5⟩ | ⟨k1, k2⟩
    · have := nlt_ub (K := kk v) (l := 5) k2 (fun j hj => kk_inj h.1 k j k2 hj)
      unfold br at k3
      omega
    · exact k2
  unfold fL_basinByLevel
  show lw_wr _ (fX6_basinByLevel (nI 5) M) = _
  rw [e]
  rfl
/-- basins of ranks that follow -/
theorem q_next (h : jS M v o g L nx c) {a b : Nat} (ha : a < 5) (hb : b < 5) (e : br v b = br v a + 1) : ¬ v a * ar b < v b * ar a ∧ (¬ v b * ar a < v a * ar b → ¬ b < a) := by
  have hk : kk v a < kk v b := by
    rcases Nat.lt_trichotomy (kk v a) (kk v b) with c | c | c
    · exact c
    · have := kk_inj h.1 b a hb ha c
      subst this
      omega
    · have := nlt_lt (K := kk v) (l := 5) hb (fun j hj => kk_inj h.1 b j hb hj) c
      unfold br at e
      omega
  rcases kk_cmp h.1 ha hb with ⟨c1, -, c2⟩ | ⟨c1, -, c2⟩ | ⟨c1, -, -, c2⟩
  · exact ⟨by omega, fun z => absurd c1 z⟩
  · exact ⟨by omega, fun _ => by have := c2.mp hk; omega⟩
  · omega
theorem lc_3 (h : jS M v o g L nx c) {j : Nat} (hj : j < L.length) : M (ml_fl 0 + 6) j = nI (lc L j) ∧ lc L j < 3 := by
  obtain ⟨h1, h2, h3, hS, hC, hok, hL, hR, hE⟩ := h
  obtain ⟨x, hx, hxm⟩ := b_at hj
  unfold lc
  rw [hx]
  exact ⟨(hC.2 j x hx).1, (hok x hxm).1.1⟩
theorem q_order (h : jS M v o g L nx c) {k : Nat} (hk : k < L.length) : fL_boatInOrder (nI (nlt (lk L) (lk L k) L.length)) M = some (.inl (nI k), M) := by
  have hL := h.2.2.2.2.2.2.1
  have hr : nlt (lk L) (lk L k) L.length ≤ L.length := nlt_le _
  have e : fX6_boatInOrder (nI (nlt (lk L) (lk L k) L.length)) M = some (.inl (nI k), M) := by
    rcases bo_c hL h.2.2.2.2.1.1 (fun j hj => lc_3 h hj) (show nlt (lk L) (lk L k) L.length < 100 by omega) (nI (nlt (lk L) (lk L k) L.length)) L.length 0 ml_fuel (by omega) (by unfold ml_fuel; omega) with ⟨k', k1, k2, k3, k5⟩ | ⟨k1, k2⟩
    · have := nlt_inj k2 hk (lk_inj hL) k3
      subst this
      exact k5
    · exact absurd rfl (k1 k (Nat.zero_le _) hk)
  unfold fL_boatInOrder
  rw [e]
  rfl
theorem q_orderN (h : jS M v o g L nx c) : fL_boatInOrder (nI L.length) M = some (.inl (-30000), M) := by
  have hL := h.2.2.2.2.2.2.1
  have e : fX6_boatInOrder (nI L.length) M = some (.inr 4, M) := by
    rcases bo_c hL h.2.2.2.2.1.1 (fun j hj => lc_3 h hj) (show L.length < 100 by omega) (nI L.length) L.length 0 ml_fuel (by omega) (by unfold ml_fuel; omega) with ⟨k', k1, k2, k3, k5⟩ | ⟨k1, k2⟩
    · have := nlt_ub (K := lk L) k2 (fun j hj => lk_inj hL k' j k2 hj)
      omega
    · exact k2
  unfold fL_boatInOrder
  rw [e]
  rfl
theorem q_event (h : jS M v o g L nx c) {b : Nat} (hb : b < c) : ∃ kc x, kc < 128 ∧ fL_eventKind (nI b) M = some (.inl (nI kc), M) ∧ fL_eventNumber (nI b) M = some (.inl x, M) ∧ evk (nI kc) x := by
  obtain ⟨-, -, -, -, -, -, -, -, hn, hc8, h2, h3, hE⟩ := h
  obtain ⟨kc, hk, e3, e4⟩ := hE b (by omega)
  have p8 : (nx + 7 - b) % 8 < 8 := Nat.mod_lt _ (by decide)
  have ok8 : ml_ok (nI ((nx + 7 - b) % 8)) 8 := ok_nI p8 (by decide)
  have c8 : (nI ((nx + 7 - b) % 8)).toNatClampNeg = (nx + 7 - b) % 8 := nI_clamp (by omega)
  refine ⟨kc, M (ml_fl 0 + 14) ((nx + 7 - b) % 8), hk, ?_, ?_, e4 hb⟩
  · have : fX6_eventKind (nI b) M = some (.inl (nI kc), M) := by simp only [fX6_eventKind, nv_1 hb (by omega) h3, bd_e, pl_c hn (show b < 8 by omega) h2, if_pos ok8, c8, e3, if_pos (ch_n kc hk)]
    unfold fL_eventKind
    rw [this]
    rfl
  · have : fX6_eventNumber (nI b) M = some (.inl (M (ml_fl 0 + 14) ((nx + 7 - b) % 8)), M) := by simp only [fX6_eventNumber, nv_1 hb (by omega) h3, bd_e, pl_c hn (show b < 8 by omega) h2, if_pos ok8, c8]
    unfold fL_eventNumber
    rw [this]
    rfl
theorem q_eventN (h : jS M v o g L nx c) : fL_eventKind (nI c) M = some (.inl (-30000), M) := by
  obtain ⟨-, -, -, -, -, -, -, -, hn, hc8, h2, h3, hE⟩ := h
  have : fX6_eventKind (nI c) M = some (.inr 4, M) := by simp only [fX6_eventKind, nv_0 (Or.inr ⟨nI_pos (show c < 2 ^ 31 by omega), fun z => Int32.lt_irrefl z⟩) h3, bd_x]
  unfold fL_eventKind
  rw [this]
  rfl
end
