/-! The fleet's copy, the log's, a flight's; the reference's rows. -/
theorem lt_l {β γ : Type} {v : β} {B : β → Option γ} : ml_lt v B = B v := rfl
theorem jn_l {β γ : Type} {B : β} {t : β → Option γ} : ml_jn B t = t B := rfl
def cpN (i j a b : Nat) (M : ml_M) : ml_M := ml_w (ml_w (ml_w (ml_w (ml_w M (ml_fl i + 6) b (M (ml_fl j + 6) a)) (ml_fl i + 7) b (M (ml_fl j + 7) a)) (ml_fl i + 8) b (vp_nar .boolean (M (ml_fl j + 8) a))) (ml_fl i + 9) b (M (ml_fl j + 9) a)) (ml_fl i + 10) b (M (ml_fl j + 10) a)
theorem cpN_c {i j a b : Nat} {M : ml_M} (ha : a < 8) (hb : b < 8) : fX1_copyBoat i j (nI a) (nI b) M = some (.inl 0, cpN i j a b M) := by
  have oa : ml_ok (nI a) 8 := ok_nI ha (by decide)
  have ob : ml_ok (nI b) 8 := ok_nI hb (by decide)
  have ca : (nI a).toNatClampNeg = a := nI_clamp (by omega)
  have cb : (nI b).toNatClampNeg = b := nI_clamp (by omega)
  unfold fX1_copyBoat ml_lt
  simp only [if_pos oa, if_pos ob, ca, cb]
  rw [ml_w_ne (show ml_fl j + 7 ≠ ml_fl i + 6 from fl_ne (by decide) (by decide) (by decide)), ml_w_ne (show ml_fl j + 8 ≠ ml_fl i + 7 from fl_ne (by decide) (by decide) (by decide)), ml_w_ne (show ml_fl j + 8 ≠ ml_fl i + 6 from fl_ne (by decide) (by decide) (by decide)), ml_w_ne (show ml_fl j + 9 ≠ ml_fl i + 8 from fl_ne (by decide) (by decide) (by decide)), ml_w_ne (show ml_fl j + 9 ≠ ml_fl i + 7 from fl_ne (by decide) (by decide) (by decide)), ml_w_ne (show ml_fl j + 9 ≠ ml_fl i + 6 from fl_ne (by decide) (by decide) (by decide)), ml_w_ne (show ml_fl j + 10 ≠ ml_fl i + 9 from fl_ne (by decide) (by decide) (by decide)), ml_w_ne (show ml_fl j + 10 ≠ ml_fl i + 8 from fl_ne (by decide) (by decide) (by decide)), ml_w_ne (show ml_fl j + 10 ≠ ml_fl i + 7 from fl_ne (by decide) (by decide) (by decide)), ml_w_ne (show ml_fl j + 10 ≠ ml_fl i + 6 from fl_ne (by decide) (by decide) (by decide))]
  rfl
theorem cpN_6 {i j a b q : Nat} {M : ml_M} : cpN i j a b M (ml_fl i + 6) q = if q = b then M (ml_fl j + 6) a else M (ml_fl i + 6) q := by
  unfold cpN
  rw [ml_w_ne (by omega), ml_w_ne (by omega), ml_w_ne (by omega), ml_w_ne (by omega), ml_w_at]
  rfl
theorem cpN_7 {i j a b q : Nat} {M : ml_M} : cpN i j a b M (ml_fl i + 7) q = if q = b then M (ml_fl j + 7) a else M (ml_fl i + 7) q := by
  unfold cpN
  rw [ml_w_ne (by omega), ml_w_ne (by omega), ml_w_ne (by omega), ml_w_at, ml_w_ne (by omega)]
  rfl
theorem cpN_8 {i j a b q : Nat} {M : ml_M} : cpN i j a b M (ml_fl i + 8) q = if q = b then vp_nar .boolean (M (ml_fl j + 8) a) else M (ml_fl i + 8) q := by
  unfold cpN
  rw [ml_w_ne (by omega), ml_w_ne (by omega), ml_w_at, ml_w_ne (by omega), ml_w_ne (by omega)]
  rfl
theorem cpN_9 {i j a b q : Nat} {M : ml_M} : cpN i j a b M (ml_fl i + 9) q = if q = b then M (ml_fl j + 9) a else M (ml_fl i + 9) q := by
  unfold cpN
  rw [ml_w_ne (by omega), ml_w_at, ml_w_ne (by omega), ml_w_ne (by omega), ml_w_ne (by omega)]
  rfl
theorem cpN_10 {i j a b q : Nat} {M : ml_M} : cpN i j a b M (ml_fl i + 10) q = if q = b then M (ml_fl j + 10) a else M (ml_fl i + 10) q := by
  unfold cpN
  rw [ml_w_at, ml_w_ne (by omega), ml_w_ne (by omega), ml_w_ne (by omega), ml_w_ne (by omega)]
  rfl
theorem cpN_o {i j a b k : Nat} {M : ml_M} (h : k < ml_fl i + 6 ∨ ml_fl i + 10 < k) : cpN i j a b M k = M k := by
  unfold cpN
  rw [ml_w_ne (by omega), ml_w_ne (by omega), ml_w_ne (by omega), ml_w_ne (by omega), ml_w_ne (by omega)]
/-- the boats below a are copied -/
def eqB (M : ml_M) (j : Nat) (M' : ml_M) (i a : Nat) : Prop := ∀ q, q < a → M' (ml_fl i + 6) q = M (ml_fl j + 6) q ∧ M' (ml_fl i + 7) q = M (ml_fl j + 7) q ∧ M' (ml_fl i + 8) q = vp_nar .boolean (M (ml_fl j + 8) q) ∧ M' (ml_fl i + 9) q = M (ml_fl j + 9) q ∧ M' (ml_fl i + 10) q = M (ml_fl j + 10) q
theorem fl_out {i j o x y : Nat} (hij : i ≠ j) (ho : o < 15) (hx : y < 15) : ml_fl j + o < ml_fl i + x ∨ ml_fl i + y < ml_fl j + o ∨ x = 0 ∧ ml_fl j + o < ml_fl i := by unfold ml_fl; omega
theorem cf_0 {i j : Nat} (hij : i ≠ j) (M : ml_M) : ∀ (s a n : Nat) (Ma : ml_M), a + s = 8 → eqB M j Ma i a → (∀ k, (k < ml_fl i + 6 ∨ ml_fl i + 10 < k) → Ma k = M k) → ∃ M', fX1_copyFleet_l i j (n + s + 1) 0 (nI a) Ma = fX1_copyFleet_l i j n 1 0 M' ∧ eqB M j M' i 8 ∧ ∀ k, (k < ml_fl i + 6 ∨ ml_fl i + 10 < k) → M' k = M k := by
  intro s
  induction s with
  | zero =>
    intro a n Ma ha h1 h2
    refine ⟨Ma, ?_, by rw [show (8 : Nat) = a by omega]; exact h1, h2⟩
    show fX1_copyFleet_s0 i j (fX1_copyFleet_l i j n) (nI a) Ma = _
    unfold fX1_copyFleet_s0
    rw [if_pos (by rw [show a = 8 by omega]; decide)]
  | succ s ih =>
    intro a n Ma ha h1 h2
    have rd : ∀ o, 6 ≤ o → o ≤ 10 → Ma (ml_fl j + o) = M (ml_fl j + o) := fun o _ _ => h2 _ (by unfold ml_fl; omega)
    obtain ⟨M', c1, c2, c3⟩ := ih (a + 1) n (cpN i j a a Ma) (by omega) (fun q hq => by
      rw [cpN_6, cpN_7, cpN_8, cpN_9, cpN_10, rd 6 (by decide) (by decide), rd 7 (by decide) (by decide), rd 8 (by decide) (by decide), rd 9 (by decide) (by decide), rd 10 (by decide) (by decide)]
      by_cases h : q = a
      · subst h
        rw [if_pos rfl, if_pos rfl, if_pos rfl, if_pos rfl, if_pos rfl]
        exact ⟨rfl, rfl, rfl, rfl, rfl⟩
      · rw [if_neg h, if_neg h, if_neg h, if_neg h, if_neg h]
        exact h1 q (by omega)) (fun k hk => by rw [cpN_o hk]; exact h2 k hk)
    refine ⟨M', ?_, c2, c3⟩
    rw [← c1]
    show fX1_copyFleet_s0 i j (fX1_copyFleet_l i j (n + s + 1)) (nI a) Ma = _
    unfold fX1_copyFleet_s0
    rw [if_neg (fun z => by have := (nI_leI (a := 8) (b := a) (by decide) (by omega)).mp z; omega), cpN_c (by omega) (by omega), bd_l, nI_1]
theorem cf_1 {i j : Nat} (hij : i ≠ j) (M : ml_M) : ∀ (s a n : Nat) (Ma : ml_M), a + s = 3 → (∀ q, q < a → Ma (ml_fl i + 11) q = M (ml_fl j + 11) q) → (∀ k, k ≠ ml_fl i + 11 → Ma k = M k) → ∃ M', fX1_copyFleet_l i j (n + s + 1) 1 (nI a) Ma = some (.inl 0, M') ∧ (∀ q, q < 3 → M' (ml_fl i + 11) q = M (ml_fl j + 11) q) ∧ ∀ k, k ≠ ml_fl i + 11 → M' k = M k := by
  intro s
  induction s with
  | zero =>
    intro a n Ma ha h1 h2
    refine ⟨Ma, ?_, by rw [show (3 : Nat) = a by omega]; exact h1, h2⟩
    show fX1_copyFleet_s1 i j (fX1_copyFleet_l i j n) (nI a) Ma = _
    unfold fX1_copyFleet_s1
    rw [if_pos (by rw [show a = 3 by omega]; decide)]
  | succ s ih =>
    intro a n Ma ha h1 h2
    obtain ⟨M', c1, c2, c3⟩ := ih (a + 1) n (ml_w Ma (ml_fl i + 11) a (Ma (ml_fl j + 11) a)) (by omega) (fun q hq => by
      by_cases h : q = a
      · subst h
        rw [w_at, h2 _ (fl_ne2 (by decide) (by decide) hij)]
      · rw [w_un h]
        exact h1 q (by omega)) (fun k hk => by rw [ml_w_ne hk]; exact h2 k hk)
    refine ⟨M', ?_, c2, c3⟩
    rw [← c1]
    show fX1_copyFleet_s1 i j (fX1_copyFleet_l i j (n + s + 1)) (nI a) Ma = _
    unfold fX1_copyFleet_s1 ml_lt
    rw [if_neg (fun z => by have := (nI_leI (a := 3) (b := a) (by decide) (by omega)).mp z; omega), if_pos (ok_nI (by omega) (by decide)), if_pos (ok_nI (by omega) (by decide)), nI_clamp (by omega), nI_1]
theorem cf_c {i j : Nat} (hij : i ≠ j) (M : ml_M) : ∃ M', fX1_copyFleet i j M = some (.inl 0, M') ∧ (∀ q, q < 2 → M' (ml_fl i + 5) q = M (ml_fl j + 5) q) ∧ eqB M j M' i 8 ∧ (∀ q, q < 3 → M' (ml_fl i + 11) q = M (ml_fl j + 11) q) ∧ ∀ k, (k < ml_fl i + 5 ∨ ml_fl i + 11 < k) → M' k = M k := by
  obtain ⟨M0, hM0⟩ : ∃ z, z = ml_w (ml_w M (ml_fl i + 5) 0 (M (ml_fl j + 5) 0)) (ml_fl i + 5) 1 (M (ml_fl j + 5) 1) := ⟨_, rfl⟩
  have r0 : ∀ k, k ≠ ml_fl i + 5 → M0 k = M k := fun k hk => by rw [hM0, ml_w_ne hk, ml_w_ne hk]
  obtain ⟨M1, a1, a2, a3⟩ := cf_0 hij M0 8 0 (ml_fuel - 9) M0 rfl (fun q hq => by omega) (fun _ _ => rfl)
  obtain ⟨M2, b1, b2, b3⟩ := cf_1 hij M1 3 0 (ml_fuel - 13) M1 rfl (fun q hq => by omega) (fun _ _ => rfl)
  refine ⟨M2, ?_, fun q hq => ?_, fun q hq => ?_, fun q hq => ?_, fun k hk => ?_⟩
  · unfold fX1_copyFleet
    rw [show ml_fuel - 9 + 8 + 1 = ml_fuel by unfold ml_fuel; omega] at a1
    rw [show ml_fuel - 13 + 3 + 1 = ml_fuel - 9 by unfold ml_fuel; omega] at b1
    have e5 : ml_w M (ml_fl i + 5) 0 (M (ml_fl j + 5) 0) (ml_fl j + 5) = M (ml_fl j + 5) := ml_w_ne (fl_ne2 (by decide) (by decide) hij)
    rw [lt_l, lt_l, e5, ← hM0]
    exact a1.trans b1
  · rw [b3 _ (by omega), a3 _ (by omega), hM0]
    rcases (show q = 0 ∨ q = 1 by omega) with rfl | rfl
    · rw [w_un (by decide), w_at]
    · rw [w_at]
  · have e := a2 q hq
    rw [r0 _ (fl_ne2 (by decide) (by decide) hij), r0 _ (fl_ne2 (by decide) (by decide) hij), r0 _ (fl_ne2 (by decide) (by decide) hij), r0 _ (fl_ne2 (by decide) (by decide) hij), r0 _ (fl_ne2 (by decide) (by decide) hij)] at e
    rw [b3 _ (by omega), b3 _ (by omega), b3 _ (by omega), b3 _ (by omega), b3 _ (by omega)]
    exact e
  · rw [b2 q hq, a3 _ (by unfold ml_fl; omega), r0 _ (fl_ne2 (by decide) (by decide) hij)]
  · rw [b3 k (by omega), a3 k (by omega), r0 k (by omega)]
theorem ce_0 {i j : Nat} (hij : i ≠ j) (M : ml_M) : ∀ (s a n : Nat) (Ma : ml_M), a + s = 8 → (∀ q, q < a → Ma (ml_fl i + 13) q = vp_nar .char (M (ml_fl j + 13) q) ∧ Ma (ml_fl i + 14) q = M (ml_fl j + 14) q) → (∀ k, k ≠ ml_fl i + 13 → k ≠ ml_fl i + 14 → Ma k = M k) → ∃ M', fX0_copyEvents_l i j (n + s + 1) (nI a) Ma = some (.inl 0, M') ∧ (∀ q, q < 8 → M' (ml_fl i + 13) q = vp_nar .char (M (ml_fl j + 13) q) ∧ M' (ml_fl i + 14) q = M (ml_fl j + 14) q) ∧ (∀ q, 2 ≤ q → q < 4 → M' (ml_fl i + 12) q = M (ml_fl j + 12) q) ∧ ∀ k, (k < ml_fl i + 12 ∨ ml_fl i + 14 < k) → M' k = M k := by
  intro s
  induction s with
  | zero =>
    intro a n Ma ha h1 h2
    have r1 : ∀ q, Ma (ml_fl j + 12) q = M (ml_fl j + 12) q := fun q => by rw [h2 _ (fl_ne2 (by decide) (by decide) hij) (fl_ne2 (by decide) (by decide) hij)]
    have hne : ml_fl j + 12 ≠ ml_fl i + 12 := fl_ne2 (by decide) (by decide) hij
    refine ⟨ml_w (ml_w Ma (ml_fl i + 12) 2 (M (ml_fl j + 12) 2)) (ml_fl i + 12) 3 (M (ml_fl j + 12) 3), ?_, fun q hq => ?_, fun q h3 h8 => ?_, fun k hk => ?_⟩
    · show fX0_copyEvents_s0 i j (fX0_copyEvents_l i j n) (nI a) Ma = _
      unfold fX0_copyEvents_s0 ml_lt
      rw [if_pos (by rw [show a = 8 by omega]; decide)]
      dsimp only
      rw [ml_w_ne hne, r1, r1]
    · rw [ml_w_ne (by omega), ml_w_ne (by omega), ml_w_ne (by omega), ml_w_ne (by omega)]
      exact h1 q (by omega)
    · rcases (show q = 2 ∨ q = 3 by omega) with rfl | rfl
      · rw [w_un (by decide), w_at]
      · rw [w_at]
    · rw [ml_w_ne (by omega), ml_w_ne (by omega)]
      exact h2 k (by omega) (by omega)
  | succ s ih =>
    intro a n Ma ha h1 h2
    have r3 : Ma (ml_fl j + 13) a = M (ml_fl j + 13) a := by rw [h2 _ (fl_ne2 (by decide) (by decide) hij) (fl_ne2 (by decide) (by decide) hij)]
    have r4 : Ma (ml_fl j + 14) a = M (ml_fl j + 14) a := by rw [h2 _ (fl_ne2 (by decide) (by decide) hij) (fl_ne2 (by decide) (by decide) hij)]
    obtain ⟨M', c1, c2, c3, c4⟩ := ih (a + 1) n (ml_w (ml_w Ma (ml_fl i + 13) a (vp_nar .char (M (ml_fl j + 13) a))) (ml_fl i + 14) a (M (ml_fl j + 14) a)) (by omega) (fun q hq => by
      by_cases h : q = a
      · subst h
        rw [ml_w_ne (by omega), w_at, w_at]
        exact ⟨rfl, rfl⟩
      · rw [ml_w_ne (show ml_fl i + 13 ≠ ml_fl i + 14 by omega), w_un h, w_un h, ml_w_ne (show ml_fl i + 14 ≠ ml_fl i + 13 by omega)]
        exact h1 q (by omega)) (fun k hk hk2 => by rw [ml_w_ne hk2, ml_w_ne hk]; exact h2 k hk hk2)
    refine ⟨M', ?_, c2, c3, c4⟩
    rw [← c1]
    show fX0_copyEvents_s0 i j (fX0_copyEvents_l i j (n + s + 1)) (nI a) Ma = _
    unfold fX0_copyEvents_s0 ml_lt
    have ok : ml_ok (nI a) 8 := ok_nI (by omega) (by decide)
    have hcl : (nI a).toNatClampNeg = a := nI_clamp (by omega)
    rw [if_neg (fun z => by have := (nI_leI (a := 8) (b := a) (by decide) (by omega)).mp z; omega), if_pos ok, if_pos ok]
    dsimp only
    rw [if_pos ok, if_pos ok, hcl, ml_w_ne (fl_ne2 (by decide) (by decide) hij), r3, r4, nI_1]
/-- a flight's copy -/
theorem cpF {i j : Nat} (hij : i ≠ j) (M : ml_M) : ∃ M', fX2_copyFrom i j M = some (.inl 0, M') ∧ eqF M j M' i ∧ ∀ k, (k < ml_fl i ∨ ml_fl i + 15 ≤ k) → M' k = M k := by
  obtain ⟨M1, a1, a2, a3, a4, a5⟩ := cw_c hij M
  obtain ⟨M2, b1, b2, b3, b4, b5⟩ := cf_c hij M1
  obtain ⟨M3, c1, c2, c3, c4⟩ := ce_0 hij M2 8 0 (ml_fuel - 9) M2 (by decide) (fun q hq => by omega) (fun _ _ _ => rfl)
  have j1 : ∀ o, o < 15 → M1 (ml_fl j + o) = M (ml_fl j + o) := fun o ho => a5 _ (by unfold ml_fl; omega)
  have j2 : ∀ o, o < 15 → M2 (ml_fl j + o) = M (ml_fl j + o) := fun o ho => by rw [b5 _ (by unfold ml_fl; omega), j1 o ho]
  have j3 : M3 (ml_fl j) = M (ml_fl j) := by rw [c4 _ (by unfold ml_fl; omega), show ml_fl j = ml_fl j + 0 from rfl, j2 0 (by decide)]
  refine ⟨ml_w M3 (ml_fl i) 3 (M (ml_fl j) 3), ?_, ⟨w_at, fun q h3 h8 => ?_, fun q hq => ?_, fun q hq => ?_, fun q hq => ?_, fun q hq => ?_, fun q hq => ?_, fun q hq => ?_, fun q h2 h4 => ?_, fun q hq => ?_⟩, fun k hk => ?_⟩
  · unfold fX2_copyFrom ml_lt
    rw [a1, bd_l, b1, bd_l]
    have e : fX0_copyEvents i j M2 = some (.inl 0, M3) := by
      unfold fX0_copyEvents
      rw [show ml_fuel - 9 + 8 + 1 = ml_fuel by unfold ml_fuel; omega] at c1
      exact c1
    rw [e, bd_l, j3]
  · rw [ml_w_ne (by omega), c4 _ (by omega), b5 _ (by omega), a2 q h3 h8]
  · rw [ml_w_ne (by omega), c4 _ (by omega), b5 _ (by omega), a3 q hq]
  · rw [ml_w_ne (by omega), c4 _ (by omega), b5 _ (by omega), (a4 q hq).1]
  · rw [ml_w_ne (by omega), c4 _ (by omega), b5 _ (by omega), (a4 q hq).2]
  · rw [ml_w_ne (by omega), c4 _ (by omega), b2 q hq, j1 5 (by decide)]
  · rw [ml_w_ne (by omega), ml_w_ne (by omega), ml_w_ne (by omega), ml_w_ne (by omega), ml_w_ne (by omega), c4 _ (by omega), c4 _ (by omega), c4 _ (by omega), c4 _ (by omega), c4 _ (by omega)]
    have e := b3 q hq
    rw [j1 6 (by decide), j1 7 (by decide), j1 8 (by decide), j1 9 (by decide), j1 10 (by decide)] at e
    exact e
  · rw [ml_w_ne (by omega), c4 _ (by omega), b4 q hq, j1 11 (by decide)]
  · rw [ml_w_ne (by omega), c3 q h2 h4, j2 12 (by decide)]
  · rw [ml_w_ne (by omega), ml_w_ne (by omega), (c2 q hq).1, (c2 q hq).2, j2 13 (by decide), j2 14 (by decide)]
    exact ⟨rfl, rfl⟩
  · rw [ml_w_ne (by omega), c4 k (by omega), b5 k (by omega), a5 k (by omega)]
/-- the reference's rows: row a goes to row b -/
def cpR (M : ml_M) (a b : Nat) : ml_M := fun p => if p = 12 then (fun q => if 80 * b ≤ q ∧ q < 80 * b + 80 then M 12 (80 * a + (q - 80 * b)) else M 12 q) else M p
theorem cpR_o {M : ml_M} {a b p : Nat} (h : p ≠ 12) : cpR M a b p = M p := if_neg h
theorem cpR_12 {M : ml_M} {a b q : Nat} : cpR M a b 12 q = if 80 * b ≤ q ∧ q < 80 * b + 80 then M 12 (80 * a + (q - 80 * b)) else M 12 q := rfl
theorem cpR_l {a b : Nat} {M : ml_M} (ha : a < 12) (hb : b < 12) (hab : a ≠ b) (a0 a1 : Int32) : ∀ (s t n : Nat) (Mt : ml_M), t + s = 80 → s < n → (∀ p, p ≠ 12 → Mt p = M p) → (∀ q, Mt 12 q = if 80 * b ≤ q ∧ q < 80 * b + t then M 12 (80 * a + (q - 80 * b)) else M 12 q) → fX7_copies_l a0 a1 n (nI a) (nI b) (nI t) Mt = some (.inl 0, cpR M a b) := by
  intro s
  induction s with
  | zero =>
    intro t n Mt ht hn hp hq
    obtain ⟨n, rfl⟩ : ∃ z, n = z + 1 := ⟨n - 1, by omega⟩
    have e : Mt = cpR M a b := by
      funext p
      by_cases h : p = 12
      · subst h
        funext q
        rw [hq, cpR_12, show t = 80 by omega]
      · rw [hp p h, cpR_o h]
    show fX7_copies_s0 a0 a1 (fX7_copies_l a0 a1 n) (nI a) (nI b) (nI t) Mt = _
    unfold fX7_copies_s0
    rw [if_pos (by rw [show t = 80 by omega]; decide), e]
  | succ s ih =>
    intro t n Mt ht hn hp hq
    obtain ⟨n, rfl⟩ : ∃ z, n = z + 1 := ⟨n - 1, by omega⟩
    have e1 : ∀ c, (80 : Int32) * nI c + nI t = nI (80 * c + t) := fun c => by
      have e : (80 : Int32) * nI c = nI (80 * c) := pk_mul 80 c
      rw [e, nI_add]
    show fX7_copies_s0 a0 a1 (fX7_copies_l a0 a1 n) (nI a) (nI b) (nI t) Mt = _
    unfold fX7_copies_s0 ml_lt
    rw [if_neg (fun z => by have := (nI_leI (a := 80) (b := t) (by decide) (by omega)).mp z; omega), e1, e1, if_pos (ok_nI (by omega) (by decide)), if_pos (ok_nI (by omega) (by decide)), nI_clamp (by omega), nI_clamp (by omega), nI_1]
    refine ih (t + 1) n _ (by omega) (by omega) (fun p h => by rw [ml_w_ne h]; exact hp p h) (fun q => ?_)
    by_cases h : q = 80 * b + t
    · subst h
      rw [w_at, if_pos ⟨by omega, by omega⟩, hq, if_neg (by omega), show 80 * b + t - 80 * b = t by omega]
    · rw [w_un h, hq]
      by_cases h2 : 80 * b ≤ q ∧ q < 80 * b + t
      · rw [if_pos h2, if_pos ⟨by omega, by omega⟩]
      · rw [if_neg h2, if_neg (by omega)]
theorem cp_m {a b : Nat} (ha : a < 12) (hb : b < 12) (hab : a ≠ b) (M : ml_M) : fX7_copies (nI a) (nI b) M = some (.inl 0, cpR M a b) :=
  cpR_l ha hb hab (nI a) (nI b) 80 0 ml_fuel M (by decide) (by unfold ml_fuel; omega) (fun _ _ => rfl) (fun q => by rw [if_neg (by omega)])
