/-! Copies: the class's flights, the reference's rows. -/
theorem rQ.ofm {Mc Mm Mm' : ml_M} {i : Nat} {mk : Nat → Int32} {L : List fb} (h : rQ Mc i Mm mk L) (k : ∀ q, q < 80 → Mm' 12 q = Mm 12 q) : rQ Mc i Mm' mk L := by
  obtain ⟨⟨v, o, g, r, d, hW⟩, hE, hG, hC, hM, hok, hL, hR⟩ := h
  refine ⟨⟨v, o, g, r, d, hW.of rfl (fun _ _ _ => rfl) (fun q hq => k q (by omega))⟩, rE.of hE (fun _ _ _ => rfl) (k _ (by decide)) (fun q a b => k q (by omega)), fun j hj => by rw [k _ (by omega)]; exact hG j hj, hC, ⟨by rw [k 6 (by decide)]; exact hM.1, fun b x hx => ?_⟩, hok, hL, hR⟩
  have hb : b < L.length := (List.getElem?_eq_some_iff.mp hx).1
  rw [k _ (by omega), k _ (by omega), k _ (by omega), k _ (by omega), k _ (by omega)]
  exact hM.2 b x hx
theorem rQ.ofc {Mc Mc' Mm : ml_M} {i : Nat} {mk : Nat → Int32} {L : List fb} (h : rQ Mc i Mm mk L) (k : ∀ o, o < 15 → Mc' (ml_fl i + o) = Mc (ml_fl i + o)) : rQ Mc' i Mm mk L := by
  obtain ⟨⟨v, o, g, r, d, hW⟩, hE, hG, hC, hM, hok, hL, hR⟩ := h
  exact ⟨⟨v, o, g, r, d, hW.of (k 0 (by decide)) (fun a _ _ => k a (by omega)) (fun _ _ => rfl)⟩, rE.of hE (fun a _ _ => k a (by omega)) rfl (fun _ _ _ => rfl), fun j hj => by rw [k 11 (by decide)]; exact hG j hj, hC.of (fun a _ _ => k a (by omega)), hM, hok, hL, hR⟩
/-- the flight i of M' has the numbers of the flight j of M -/
def eqF (M : ml_M) (j : Nat) (M' : ml_M) (i : Nat) : Prop := M' (ml_fl i) 3 = M (ml_fl j) 3 ∧ (∀ q, 3 ≤ q → q < 8 → M' (ml_fl i + 1) q = M (ml_fl j + 1) q) ∧ (∀ q, q < 5 → M' (ml_fl i + 2) q = M (ml_fl j + 2) q) ∧ (∀ q, q < 4 → M' (ml_fl i + 3) q = M (ml_fl j + 3) q) ∧ (∀ q, q < 4 → M' (ml_fl i + 4) q = vp_nar .boolean (M (ml_fl j + 4) q)) ∧ (∀ q, q < 2 → M' (ml_fl i + 5) q = M (ml_fl j + 5) q) ∧ (∀ q, q < 8 → M' (ml_fl i + 6) q = M (ml_fl j + 6) q ∧ M' (ml_fl i + 7) q = M (ml_fl j + 7) q ∧ M' (ml_fl i + 8) q = vp_nar .boolean (M (ml_fl j + 8) q) ∧ M' (ml_fl i + 9) q = M (ml_fl j + 9) q ∧ M' (ml_fl i + 10) q = M (ml_fl j + 10) q) ∧ (∀ q, q < 3 → M' (ml_fl i + 11) q = M (ml_fl j + 11) q) ∧ (∀ q, 2 ≤ q → q < 4 → M' (ml_fl i + 12) q = M (ml_fl j + 12) q) ∧ ∀ q, q < 8 → M' (ml_fl i + 13) q = vp_nar .char (M (ml_fl j + 13) q) ∧ M' (ml_fl i + 14) q = M (ml_fl j + 14) q
theorem nar_b {w : Nat} (h : w ≤ 1) : vp_nar .boolean (nI w) = nI w := by rcases (show w = 0 ∨ w = 1 by omega) with rfl | rfl <;> rfl
theorem nar_c : ∀ k < 128, vp_nar .char (nI k) = nI k := by decide
theorem rQ.cp {M M' Mm : ml_M} {i j : Nat} {mk : Nat → Int32} {L : List fb} (h : rQ M j Mm mk L) (e : eqF M j M' i) : rQ M' i Mm mk L := by
  obtain ⟨⟨v, o, g, r, d, ⟨⟨a1, a2, a3, a4, a5, a6⟩, ⟨b1, b2, b3, b4⟩, hS⟩⟩, ⟨nx, c, n1, n2, n3, n4, n5, n6⟩, hG, hC, hM, hok, hL, hR⟩ := h
  obtain ⟨e0, e1, e2, e3, e4, e5, e6, e7, e8, e9⟩ := e
  refine ⟨⟨v, o, g, r, d, ⟨⟨fun q hq => by rw [e2 q hq]; exact a1 q hq, a2, fun q hq => by rw [e3 q hq]; exact a3 q hq, fun q hq => ?_, by rw [e1 3 (by decide) (by decide)]; exact a5, by rw [e1 4 (by decide) (by decide)]; exact a6⟩, ⟨by rw [e1 5 (by decide) (by decide)]; exact b1, by rw [e1 6 (by decide) (by decide)]; exact b2, by rw [e1 7 (by decide) (by decide)]; exact b3, by rw [e0]; exact b4⟩, ?_⟩⟩, ⟨nx, c, n1, n2, by rw [e8 2 (by decide) (by decide)]; exact n3, by rw [e8 3 (by decide) (by decide)]; exact n4, n5, fun q hq => ?_⟩, fun q hq => by rw [e7 q hq]; exact hG q hq, ⟨by rw [e5 0 (by decide)]; exact hC.1, fun b x hx => ?_⟩, hM, hok, hL, hR⟩
  · rw [e4 q hq, (a4 q hq).1, nar_b (a4 q hq).2.1]
    exact ⟨rfl, (a4 q hq).2.1, (a4 q hq).2.2⟩
  · unfold rS wsum wacc at hS ⊢
    rw [e2 0 (by decide), e2 1 (by decide), e2 2 (by decide), e2 3 (by decide), e2 4 (by decide), e1 5 (by decide) (by decide), e1 6 (by decide) (by decide), e1 7 (by decide) (by decide)]
    exact hS
  · obtain ⟨m1, m2, kc, m3, m4, m5⟩ := n6 q hq
    have hz : (nx + 7 - q) % 8 < 8 := Nat.mod_lt _ (by decide)
    rw [(e9 _ hz).1, (e9 _ hz).2, ← m1, m4, nar_c kc m3, ← m4]
    exact ⟨rfl, m2, kc, m3, m4, m5⟩
  · have hb : b < 8 := Nat.lt_of_lt_of_le (List.getElem?_eq_some_iff.mp hx).1 hL
    obtain ⟨f1, f2, f3, f4, f5⟩ := hC.2 b x hx
    obtain ⟨g1, g2, g3, g4, g5⟩ := e6 b hb
    rw [g1, g2, g3, g4, g5, f3, nar_b (hok x (List.mem_of_getElem? hx)).1.2.2.2.1]
    exact ⟨f1, f2, rfl, f4, f5⟩
theorem fl_ne2 {i j a b : Nat} (ha : a < 15) (hb : b < 15) (h : i ≠ j) : ml_fl j + a ≠ ml_fl i + b := by unfold ml_fl; omega
/-- the water's copy -/
theorem cw_0 {i j : Nat} (hij : i ≠ j) (M : ml_M) : ∀ (s a n : Nat) (Ma : ml_M), a + s = 5 → (∀ q, q < a → Ma (ml_fl i + 2) q = M (ml_fl j + 2) q) → (∀ k, k ≠ ml_fl i + 2 → Ma k = M k) → ∃ M', fX5_copyWater_l i j (n + s + 1) 0 (nI a) Ma = fX5_copyWater_l i j n 1 0 M' ∧ (∀ q, q < 5 → M' (ml_fl i + 2) q = M (ml_fl j + 2) q) ∧ ∀ k, k ≠ ml_fl i + 2 → M' k = M k := by
  intro s
  induction s with
  | zero =>
    intro a n Ma ha h1 h2
    refine ⟨Ma, ?_, by rw [show (5 : Nat) = a by omega]; exact h1, h2⟩
    show fX5_copyWater_s0 i j (fX5_copyWater_l i j n) (nI a) Ma = _
    unfold fX5_copyWater_s0
    rw [if_pos (by rw [show a = 5 by omega]; decide)]
  | succ s ih =>
    intro a n Ma ha h1 h2
    obtain ⟨M', c1, c2, c3⟩ := ih (a + 1) n (ml_w Ma (ml_fl i + 2) a (Ma (ml_fl j + 2) a)) (by omega) (fun q hq => by
      by_cases h : q = a
      · subst h
        rw [w_at, h2 _ (fl_ne2 (by decide) (by decide) hij)]
      · rw [w_un h]
        exact h1 q (by omega)) (fun k hk => by rw [ml_w_ne hk]; exact h2 k hk)
    refine ⟨M', ?_, c2, c3⟩
    rw [← c1]
    show fX5_copyWater_s0 i j (fX5_copyWater_l i j (n + s + 1)) (nI a) Ma = _
    unfold fX5_copyWater_s0 ml_lt
    rw [if_neg (fun z => by have := (nI_leI (a := 5) (b := a) (by decide) (by omega)).mp z; omega), if_pos (ok_nI (by omega) (by decide)), if_pos (ok_nI (by omega) (by decide)), nI_clamp (by omega), nI_1]
theorem cw_1 {i j : Nat} (hij : i ≠ j) (M : ml_M) : ∀ (s a n : Nat) (Ma : ml_M), a + s = 4 → (∀ q, q < a → Ma (ml_fl i + 3) q = M (ml_fl j + 3) q ∧ Ma (ml_fl i + 4) q = vp_nar .boolean (M (ml_fl j + 4) q)) → (∀ k, k ≠ ml_fl i + 3 → k ≠ ml_fl i + 4 → Ma k = M k) → ∃ M', fX5_copyWater_l i j (n + s + 1) 1 (nI a) Ma = some (.inl 0, M') ∧ (∀ q, q < 4 → M' (ml_fl i + 3) q = M (ml_fl j + 3) q ∧ M' (ml_fl i + 4) q = vp_nar .boolean (M (ml_fl j + 4) q)) ∧ (∀ k, k ≠ ml_fl i + 1 → k ≠ ml_fl i + 3 → k ≠ ml_fl i + 4 → M' k = M k) ∧ (∀ q, 3 ≤ q → q < 8 → M' (ml_fl i + 1) q = M (ml_fl j + 1) q) := by
  intro s
  induction s with
  | zero =>
    intro a n Ma ha h1 h2
    have r1 : ∀ q, Ma (ml_fl j + 1) q = M (ml_fl j + 1) q := fun q => by rw [h2 _ (fl_ne2 (by decide) (by decide) hij) (fl_ne2 (by decide) (by decide) hij)]
    have hne : ml_fl j + 1 ≠ ml_fl i + 1 := fl_ne2 (by decide) (by decide) hij
    refine ⟨ml_w (ml_w (ml_w (ml_w (ml_w Ma (ml_fl i + 1) 3 (M (ml_fl j + 1) 3)) (ml_fl i + 1) 4 (M (ml_fl j + 1) 4)) (ml_fl i + 1) 5 (M (ml_fl j + 1) 5)) (ml_fl i + 1) 6 (M (ml_fl j + 1) 6)) (ml_fl i + 1) 7 (M (ml_fl j + 1) 7), ?_, fun q hq => ?_, fun k a b c => ?_, fun q h3 h8 => ?_⟩
    · show fX5_copyWater_s1 i j (fX5_copyWater_l i j n) (nI a) Ma = _
      unfold fX5_copyWater_s1 ml_lt
      rw [if_pos (by rw [show a = 4 by omega]; decide)]
      dsimp only
      simp only [ml_w_ne hne, r1]
    · rw [ml_w_ne (by omega), ml_w_ne (by omega), ml_w_ne (by omega), ml_w_ne (by omega), ml_w_ne (by omega), ml_w_ne (by omega), ml_w_ne (by omega), ml_w_ne (by omega), ml_w_ne (by omega), ml_w_ne (by omega)]
      exact h1 q (by omega)
    · rw [ml_w_ne a, ml_w_ne a, ml_w_ne a, ml_w_ne a, ml_w_ne a]
      exact h2 k b c
    · rcases (show q = 3 ∨ q = 4 ∨ q = 5 ∨ q = 6 ∨ q = 7 by omega) with rfl | rfl | rfl | rfl | rfl
      · rw [w_un (by decide), w_un (by decide), w_un (by decide), w_un (by decide), w_at]
      · rw [w_un (by decide), w_un (by decide), w_un (by decide), w_at]
      · rw [w_un (by decide), w_un (by decide), w_at]
      · rw [w_un (by decide), w_at]
      · rw [w_at]
  | succ s ih =>
    intro a n Ma ha h1 h2
    have r3 : Ma (ml_fl j + 3) a = M (ml_fl j + 3) a := by rw [h2 _ (fl_ne2 (by decide) (by decide) hij) (fl_ne2 (by decide) (by decide) hij)]
    have r4 : Ma (ml_fl j + 4) a = M (ml_fl j + 4) a := by rw [h2 _ (fl_ne2 (by decide) (by decide) hij) (fl_ne2 (by decide) (by decide) hij)]
    obtain ⟨M', c1, c2, c3, c4⟩ := ih (a + 1) n (ml_w (ml_w Ma (ml_fl i + 3) a (M (ml_fl j + 3) a)) (ml_fl i + 4) a (vp_nar .boolean (M (ml_fl j + 4) a))) (by omega) (fun q hq => by
      by_cases h : q = a
      · subst h
        rw [ml_w_ne (by omega), w_at, w_at]
        exact ⟨rfl, rfl⟩
      · rw [ml_w_ne (show ml_fl i + 3 ≠ ml_fl i + 4 by omega), w_un h, w_un h, ml_w_ne (show ml_fl i + 4 ≠ ml_fl i + 3 by omega)]
        exact h1 q (by omega)) (fun k hk hk2 => by rw [ml_w_ne hk2, ml_w_ne hk]; exact h2 k hk hk2)
    refine ⟨M', ?_, c2, c3, c4⟩
    rw [← c1]
    show fX5_copyWater_s1 i j (fX5_copyWater_l i j (n + s + 1)) (nI a) Ma = _
    unfold fX5_copyWater_s1 ml_lt
    have ok : ml_ok (nI a) 4 := ok_nI (by omega) (by decide)
    have hcl : (nI a).toNatClampNeg = a := nI_clamp (by omega)
    rw [if_neg (fun z => by have := (nI_leI (a := 4) (b := a) (by decide) (by omega)).mp z; omega), if_pos ok, if_pos ok]
    dsimp only
    rw [if_pos ok, if_pos ok, hcl, ml_w_ne (fl_ne2 (by decide) (by decide) hij), r3, r4, nI_1]
theorem cw_c {i j : Nat} (hij : i ≠ j) (M : ml_M) : ∃ M', fX5_copyWater i j M = some (.inl 0, M') ∧ (∀ q, 3 ≤ q → q < 8 → M' (ml_fl i + 1) q = M (ml_fl j + 1) q) ∧ (∀ q, q < 5 → M' (ml_fl i + 2) q = M (ml_fl j + 2) q) ∧ (∀ q, q < 4 → M' (ml_fl i + 3) q = M (ml_fl j + 3) q ∧ M' (ml_fl i + 4) q = vp_nar .boolean (M (ml_fl j + 4) q)) ∧ ∀ k, (k < ml_fl i + 1 ∨ ml_fl i + 4 < k) → M' k = M k := by
  obtain ⟨M1, a1, a2, a3⟩ := cw_0 hij M 5 0 (ml_fuel - 6) M (by decide) (fun q hq => by omega) (fun _ _ => rfl)
  obtain ⟨M2, b1, b2, b3, b4⟩ := cw_1 hij M1 4 0 (ml_fuel - 11) M1 (by decide) (fun q hq => by omega) (fun _ _ _ => rfl)
  refine ⟨M2, ?_, fun q h3 h8 => ?_, fun q hq => ?_, fun q hq => ?_, fun k hk => ?_⟩
  · unfold fX5_copyWater
    rw [show ml_fuel - 6 + 5 + 1 = ml_fuel by unfold ml_fuel; omega] at a1
    rw [show ml_fuel - 11 + 4 + 1 = ml_fuel - 6 by unfold ml_fuel; omega] at b1
    exact a1.trans b1
  · rw [b4 q h3 h8, a3 _ (fl_ne2 (by decide) (by decide) hij)]
  · rw [b3 _ (by omega) (by omega) (by omega)]
    exact a2 q hq
  · rw [(b2 q hq).1, (b2 q hq).2, a3 _ (fl_ne2 (by decide) (by decide) hij), a3 _ (fl_ne2 (by decide) (by decide) hij)]
    exact ⟨rfl, rfl⟩
  · rw [b3 k (by omega) (by omega) (by omega), a3 k (by omega)]
