/-! Words for the law's steps: numbers in a range, a flight beside a row, one step of a change. -/
/-- the same, as proofs that the kernel need not unfold -/
theorem lt_e {β γ : Type} {v : β} {B : β → Option γ} : ml_lt v B = B v := Eq.trans lt_l rfl
theorem jn_e {β γ : Type} {B : β} {t : β → Option γ} : ml_jn B t = t B := Eq.trans jn_l rfl
theorem bd_e {r : Int32} {M : ml_M} {B : Int32 → ml_M → Option ml_R} : ml_bd (some (.inl r, M)) B = B r M := Eq.trans bd_l rfl
theorem if_1 {α : Type} {a b : α} : (if (1 : Int32) = 0 then a else b) = b := if_neg (by decide)
theorem if_0 {α : Type} {a b : α} : (if (0 : Int32) = 0 then a else b) = a := if_pos (by decide)
/-- a number below n, or not -/
theorem rg (x : Int32) (n : Nat) (hn : n ≤ 1000) : (∃ k, k < n ∧ x = nI k) ∨ x < 0 ∨ (¬ x < 0 ∧ nI n ≤ x) := by
  by_cases h : x < 0
  · exact Or.inr (Or.inl h)
  · obtain ⟨j, hj, rfl⟩ := nI_of h
    by_cases hk : j < n
    · exact Or.inl ⟨j, hk, rfl⟩
    · exact Or.inr (Or.inr ⟨h, nI_le (by omega) hj⟩)
theorem in_m (a l h : Int32) (M : ml_M) : fX7_in a l h M = some (.inl (if a < l then 0 else if h < a then 0 else 1), M) := by
  unfold fX7_in ml_jn
  dsimp only
  rw [if_pos (nbool (Or.inl rfl)), if_pos (nbool (Or.inr rfl))]
  by_cases h1 : a < l
  · rw [if_pos h1, if_pos h1]
  · rw [if_neg h1, if_neg h1]
    by_cases h2 : h < a
    · rw [if_pos h2, if_pos h2]
    · rw [if_neg h2, if_neg h2]
theorem n01 {c d : Prop} [Decidable c] [Decidable d] : (if c then (0 : Int32) else if d then 0 else 1) = 0 ∨ (if c then (0 : Int32) else if d then 0 else 1) = 1 := by
  by_cases h1 : c
  · rw [if_pos h1]; exact Or.inl rfl
  · rw [if_neg h1]
    by_cases h2 : d
    · rw [if_pos h2]; exact Or.inl rfl
    · rw [if_neg h2]; exact Or.inr rfl
/-- the gate's test: the class's and the reference's -/
theorem gt_c (a : Int32) (M : ml_M) : fX6_isGate a M = some (.inl (if a < 0 then 0 else if 4 ≤ a then 0 else 1), M) := by
  unfold fX6_isGate ml_jn
  dsimp only
  rw [if_pos (nbool (Or.inl rfl)), if_pos (nbool (Or.inr rfl))]
  by_cases h1 : a < 0
  · rw [if_pos h1, if_pos h1]
  · rw [if_neg h1, if_neg h1]
    by_cases h2 : 4 ≤ a
    · rw [if_pos h2, if_pos h2]
    · rw [if_neg h2, if_neg h2]
theorem gt_m (a : Int32) (M : ml_M) : fX7_isGate a M = some (.inl (if a < 0 then 0 else if 3 < a then 0 else 1), M) := by
  unfold fX7_isGate
  rw [in_m, bd_l, if_pos (nbool n01)]
theorem bs_m (a : Int32) (M : ml_M) : fX7_isBasin a M = some (.inl (if a < 0 then 0 else if 4 < a then 0 else 1), M) := by
  unfold fX7_isBasin
  rw [in_m, bd_l, if_pos (nbool n01)]
/-- a number is no gate, or one of four -/
theorem gcase (a : Int32) : (∃ k, k < 4 ∧ a = nI k) ∨ ∀ M, fX6_isGate a M = some (.inl 0, M) ∧ fX7_isGate a M = some (.inl 0, M) := by
  rcases rg a 4 (by decide) with h | h | ⟨h, h4⟩
  · exact Or.inl h
  · exact Or.inr (fun M => by rw [gt_c, gt_m, if_pos h, if_pos h]; exact ⟨rfl, rfl⟩)
  · refine Or.inr (fun M => ?_)
    have h3 : (3 : Int32) < a := by
      obtain ⟨j, hj, rfl⟩ := nI_of h
      have := (nI_leI (a := 4) (by decide) hj).mp h4
      exact (nI_ltI (a := 3) (by decide) hj).mpr (by omega)
    rw [gt_c, gt_m, if_neg h, if_neg h, if_pos (show (4 : Int32) ≤ a from h4), if_pos h3]
    exact ⟨rfl, rfl⟩
theorem gt_c1 {k : Nat} (h : k < 4) (M : ml_M) : fX6_isGate (nI k) M = some (.inl 1, M) := by
  rw [gt_c, if_neg (nI_pos (by omega)), if_neg]
  intro z
  have := (nI_leI (a := 4) (b := k) (by decide) (by omega)).mp z
  omega
theorem gt_m1 {k : Nat} (h : k < 4) (M : ml_M) : fX7_isGate (nI k) M = some (.inl 1, M) := by
  rw [gt_m, if_neg (nI_pos (by omega)), if_neg]
  intro z
  have := (nI_ltI (a := 3) (b := k) (by decide) (by omega)).mp z
  omega
theorem bcase (a : Int32) : (∃ k, k < 5 ∧ a = nI k) ∨ ∀ M, fX6_needBasin a M = some (.inr 1, M) ∧ fX7_isBasin a M = some (.inl 0, M) := by
  rcases rg a 5 (by decide) with h | h | ⟨h, h4⟩
  · exact Or.inl h
  · exact Or.inr (fun M => by rw [bs_m]; unfold fX6_needBasin; rw [if_pos h, if_pos h]; exact ⟨rfl, rfl⟩)
  · refine Or.inr (fun M => ?_)
    obtain ⟨j, hj, rfl⟩ := nI_of h
    have h5 := (nI_leI (a := 5) (by decide) hj).mp h4
    have h3 : (4 : Int32) < nI j := (nI_ltI (a := 4) (by decide) hj).mpr (by omega)
    have hn : ¬ nI j < (5 : Int32) := fun z => by
      have := (nI_ltI (b := 5) hj (by decide)).mp z
      omega
    rw [bs_m]
    unfold fX6_needBasin
    rw [if_neg h, if_neg h, if_pos h3, if_neg hn]
    exact ⟨rfl, rfl⟩
theorem nb_c {k : Nat} (h : k < 5) (M : ml_M) : fX6_needBasin (nI k) M = some (.inl 0, M) := by
  unfold fX6_needBasin
  rw [if_neg (nI_pos (by omega)), if_pos (show nI k < (5 : Int32) from (nI_ltI (b := 5) (by omega) (by decide)).mpr h)]
theorem bs_m1 {k : Nat} (h : k < 5) (M : ml_M) : fX7_isBasin (nI k) M = some (.inl 1, M) := by
  rw [bs_m, if_neg (nI_pos (by omega)), if_neg]
  intro z
  have := (nI_ltI (a := 4) (b := k) (by decide) (by omega)).mp z
  omega
theorem w_w {M : ml_M} {a j : Nat} {x y : Int32} : ml_w (ml_w M a j x) a j y = ml_w M a j y := by
  funext p
  by_cases h : p = a
  · subst h
    funext q
    by_cases h2 : q = j
    · subst h2; rw [w_at, w_at]
    · rw [w_un h2, w_un h2, w_un h2]
  · rw [ml_w_ne h, ml_w_ne h, ml_w_ne h]
def mk0 : Nat → Int32 := fun _ => 0
/-- a flight and a row tell the same; the tags are apart and below the count -/
def fk (n : Nat) (Mc : ml_M) (i : Nat) (Mm : ml_M) : Prop := ∃ (L : List fb) (a : Nat), rQ Mc i Mm mk0 L ∧ Mc (ml_fl i + 5) 1 = nI a ∧ a ≤ n ∧ (tg L).Nodup ∧ ∀ t ∈ tg L, t < a
theorem fk.mono {n n' : Nat} {Mc Mm : ml_M} {i : Nat} (h : fk n Mc i Mm) (hn : n ≤ n') : fk n' Mc i Mm := by
  obtain ⟨L, a, h1, h2, h3, h4⟩ := h
  exact ⟨L, a, h1, h2, by omega, h4⟩
theorem fk.ofm {n : Nat} {Mc Mm Mm' : ml_M} {i : Nat} (h : fk n Mc i Mm) (k : ∀ q, q < 80 → Mm' 12 q = Mm 12 q) : fk n Mc i Mm' := by
  obtain ⟨L, a, h1, h2⟩ := h
  exact ⟨L, a, h1.ofm k, h2⟩
theorem fk.ofc {n : Nat} {Mc Mc' Mm : ml_M} {i : Nat} (h : fk n Mc i Mm) (k : ∀ o, o < 15 → Mc' (ml_fl i + o) = Mc (ml_fl i + o)) : fk n Mc' i Mm := by
  obtain ⟨L, a, h1, h2, h3⟩ := h
  exact ⟨L, a, h1.ofc k, by rw [k 5 (by decide)]; exact h2, h3⟩
theorem fk.cp {n : Nat} {M M' Mm : ml_M} {i j : Nat} (h : fk n M j Mm) (e : eqF M j M' i) : fk n M' i Mm := by
  obtain ⟨L, a, h1, h2, h3⟩ := h
  exact ⟨L, a, h1.cp e, by rw [e.2.2.2.2.2.1 1 (by decide)]; exact h2, h3⟩
/-- what the reference's step of a change leaves -/
def oM (M M' : ml_M) : Prop := (∀ k, k ≠ 11 → k ≠ 12 → M' k = M k) ∧ (∀ q, 80 ≤ q → M' 12 q = M 12 q) ∧ ∀ q, q ≠ 5 → q ≠ 4 → M' 11 q = M 11 q
theorem oM.rf {M : ml_M} : oM M M := ⟨fun _ _ _ => rfl, fun _ _ => rfl, fun _ _ _ => rfl⟩
theorem oM.tr {M M1 M2 : ml_M} (h : oM M M1) (h2 : oM M1 M2) : oM M M2 := ⟨fun k a b => (h2.1 k a b).trans (h.1 k a b), fun q a => (h2.2.1 q a).trans (h.2.1 q a), fun q a b => (h2.2.2 q a b).trans (h.2.2 q a b)⟩
theorem oM.w {j : Nat} {x : Int32} {M M1 : ml_M} (h : oM M M1) (hj : j < 80) : oM M (ml_w M1 12 j x) := ⟨fun k a b => by rw [ml_w_ne b]; exact h.1 k a b, fun q a => by rw [w_un (by omega)]; exact h.2.1 q a, fun q a b => by rw [ml_w_ne (by decide)]; exact h.2.2 q a b⟩
theorem oM.w4 {x : Int32} {M M1 : ml_M} (h : oM M M1) : oM M (ml_w M1 11 4 x) := ⟨fun k a b => by rw [ml_w_ne a]; exact h.1 k a b, fun q a => by rw [ml_w_ne (by decide)]; exact h.2.1 q a, fun q a b => by rw [w_un b]; exact h.2.2 q a b⟩
theorem fM.oM {M M' : ml_M} (h : fM M M') : oM M M' := ⟨h.1, h.2.1, fun q a _ => h.2.2 q a⟩
/-- one change on the flight i and on the row: its fault, its answer -/
def opR (P : Nat → Prop) (n i : Nat) (Mc Mm : ml_M) (f a g : Option ml_R) : Prop := ∃ (c : Nat) (Mm' : ml_M), P c ∧ c ≤ 4 ∧ f = some (.inl (nI c), Mc) ∧ g = some (.inl (nI c), Mm') ∧ ((c ≠ 0 ∧ Mm' = Mm) ∨ (c = 0 ∧ oM Mm Mm' ∧ ∃ Mc', a = some (.inl (Mm' 11 4), Mc') ∧ fk n Mc' i Mm' ∧ ∀ k, (k < ml_fl i ∨ ml_fl i + 15 ≤ k) → Mc' k = Mc k))
/-- the water's settings change -/
theorem rQ.wat {Mc Mc' Mm Mm' : ml_M} {i : Nat} {mk : Nat → Int32} {L : List fb} (h : rQ Mc i Mm mk L) (hA : ∃ v o g r d, rA Mc' i Mm' v o g r d) (k0 : Mc' (ml_fl i) = Mc (ml_fl i)) (k1 : ∀ q, 5 ≤ q → Mc' (ml_fl i + 1) q = Mc (ml_fl i + 1) q) (k2 : Mc' (ml_fl i + 2) = Mc (ml_fl i + 2)) (kb : ∀ o, 5 ≤ o → o < 15 → Mc' (ml_fl i + o) = Mc (ml_fl i + o)) (km : ∀ q, (q = 0 ∨ 3 ≤ q ∧ q < 16 ∨ 24 ≤ q) → Mm' 12 q = Mm 12 q) : rQ Mc' i Mm' mk L := by
  obtain ⟨⟨v, o, g, r, d, -, ⟨b1, b2, b3, b4⟩, hS⟩, hE, hG, hC, hM, hok, hL, hR⟩ := h
  obtain ⟨v', o', g', r', d', hA⟩ := hA
  refine ⟨⟨v', o', g', r', d', hA, ⟨by rw [km _ (by omega), k1 _ (by decide)]; exact b1, by rw [km _ (by omega), k1 _ (by decide)]; exact b2, by rw [km _ (by omega), k1 _ (by decide)]; exact b3, by rw [km _ (by omega), k0]; exact b4⟩, ?_⟩, hE.of (fun a _ _ => kb a (by omega) (by omega)) (km _ (by omega)) (fun q a b => km q (by omega)), fun j hj => by rw [kb 11 (by decide) (by decide), km _ (by omega)]; exact hG j hj, hC.of (fun a _ _ => kb a (by omega) (by omega)), hM.of (km _ (by omega)) (fun q hq => km q (by omega)), hok, hL, hR⟩
  unfold rS wsum wacc at hS ⊢
  rw [k2, k1 5 (by decide), k1 6 (by decide), k1 7 (by decide)]
  exact hS
/-- one minute on the class's side alone -/
theorem pm1 {i : Nat} {mk : Nat → Int32} {L : List fb} {Mc Mm : ml_M} (h : rQ Mc i Mm mk L) : ∃ (Mc' Mm' : ml_M) (L' : List fb) (gn : Nat), fX2_passMinutes i 1 Mc = some (.inl (nI gn), Mc') ∧ fX7_ticks Mm = some (.inl (nI gn), Mm') ∧ rQ Mc' i Mm' mk L' ∧ (tg L').Sublist (tg L) ∧ fF i Mc Mc' ∧ fM Mm Mm' := by
  obtain ⟨C1, R1, L1, g1, a1, a2, a3, a4, a5, a6, a7⟩ := minute h
  refine ⟨C1, R1, L1, g1, ?_, a2, a3, a5, a6, a7⟩
  unfold fX2_passMinutes
  have e1 := a1 1 (ml_fuel - 6) 1 0 0 (by omega) (by omega)
  rw [show ml_fuel - 6 + 6 = ml_fuel by unfold ml_fuel; omega] at e1
  refine e1.trans ?_
  obtain ⟨z, hz⟩ : ∃ z, ml_fuel - 6 = z + 1 := ⟨ml_fuel - 6 - 1, by unfold ml_fuel; omega⟩
  rw [hz]
  show fX2_passMinutes_s0 i 1 (fX2_passMinutes_l i 1 z) (nI 1) (nI (0 + g1)) (nI (0 + 1)) 0 C1 = _
  unfold fX2_passMinutes_s0
  rw [Nat.zero_add, Nat.zero_add, if_pos (Int32.le_refl _)]
