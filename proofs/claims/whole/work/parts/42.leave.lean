/-! Minutes until a boat leaves: the class's serial number, the reference's mark. -/
def mk1 (s : Nat) : Nat → Int32 := fun t => if t = s then 1 else 0
theorem hs_l {L : List fb} {s : Nat} {M : ml_M} (h : bC M 1 L) (hL : L.length ≤ 8) (hs : s < 2 ^ 31) (ht : ∀ t ∈ tg L, t < 2 ^ 31) (a0 : Int32) : ∀ (B A : List fb) (n : Nat), L = A ++ B → B.length < n → fX1_hasSerial_l 1 a0 n (nI s) (nI A.length) M = some (.inl (if s ∈ tg B then 1 else 0), M) := by
  intro B
  induction B with
  | nil =>
    intro A n hA hn
    obtain ⟨n, rfl⟩ : ∃ z, n = z + 1 := ⟨n - 1, by simp at hn; omega⟩
    rw [List.append_nil] at hA
    subst hA
    show fX1_hasSerial_s0 1 a0 (fX1_hasSerial_l 1 a0 n) (nI s) (nI L.length) M = _
    unfold fX1_hasSerial_s0
    rw [if_pos (by rw [h.1]; exact Int32.le_refl _)]
    rfl
  | cons x B ih =>
    intro A n hA hn
    obtain ⟨n, rfl⟩ : ∃ z, n = z + 1 := ⟨n - 1, by simp at hn; omega⟩
    have hlen : L.length = A.length + (B.length + 1) := by rw [hA]; simp
    have hx := h.2 _ _ (getA hA)
    have hxt : x.2.2.2.2 < 2 ^ 31 := ht _ (by rw [hA]; simp [tg])
    have e9 : nI A.length + 1 = nI (A ++ [x]).length := by rw [nI_1]; simp
    show fX1_hasSerial_s0 1 a0 (fX1_hasSerial_l 1 a0 n) (nI s) (nI A.length) M = _
    unfold fX1_hasSerial_s0
    rw [if_neg (by rw [h.1]; exact fun z => by have := (nI_leI (by omega) (by omega)).mp z; omega), if_pos (ok_nI (by omega) (by decide)), nI_clamp (by omega), hx.2.2.2.2, e9, ih (A ++ [x]) n (by rw [hA]; simp) (by simp at hn; omega)]
    have em : (s ∈ tg (x :: B)) ↔ (s = x.2.2.2.2 ∨ s ∈ tg B) := by
      unfold tg
      rw [List.map_cons, List.mem_cons]
    by_cases c : x.2.2.2.2 = s
    · rw [if_pos (congrArg nI c), if_pos (em.mpr (Or.inl c.symm))]
    · rw [if_neg (fun z => c ((nI_eq hxt hs).mp z))]
      by_cases c2 : s ∈ tg B
      · rw [if_pos c2, if_pos (em.mpr (Or.inr c2))]
      · rw [if_neg c2, if_neg (fun z => by rcases em.mp z with z | z; exact c z.symm; exact c2 z)]
theorem hs_c {L : List fb} {s : Nat} {M : ml_M} (h : bC M 1 L) (hL : L.length ≤ 8) (hs : s < 2 ^ 31) (ht : ∀ t ∈ tg L, t < 2 ^ 31) : fX1_hasSerial 1 (nI s) M = some (.inl (if s ∈ tg L then 1 else 0), M) :=
  hs_l h hL hs ht (nI s) L [] ml_fuel rfl (by unfold ml_fuel; omega)
theorem im_l {L : List fb} {s : Nat} {M : ml_M} (h : bM M (mk1 s) L) (hL : L.length ≤ 8) : ∀ (B A : List fb) (n : Nat), L = A ++ B → B.length < n → fX7_isMarked_l n (nI A.length) M = some (.inl (if s ∈ tg B then 1 else 0), M) := by
  intro B
  induction B with
  | nil =>
    intro A n hA hn
    obtain ⟨n, rfl⟩ : ∃ z, n = z + 1 := ⟨n - 1, by simp at hn; omega⟩
    rw [List.append_nil] at hA
    subst hA
    show fX7_isMarked_s0 (fX7_isMarked_l n) (nI L.length) M = _
    unfold fX7_isMarked_s0
    rw [if_pos (by rw [h.1]; exact Int32.le_refl _)]
    rfl
  | cons x B ih =>
    intro A n hA hn
    obtain ⟨n, rfl⟩ : ∃ z, n = z + 1 := ⟨n - 1, by simp at hn; omega⟩
    have hlen : L.length = A.length + (B.length + 1) := by rw [hA]; simp
    have hx := h.2 _ _ (getA hA)
    have e9 : nI A.length + 1 = nI (A ++ [x]).length := by rw [nI_1]; simp
    have eb : fX7_b (nI A.length) 4 M = some (.inl (mk1 s x.2.2.2.2), M) := b_f (f := 4) (by omega) (by decide) _ _ (by rw [show 40 + 5 * A.length + 4 = 44 + 5 * A.length by omega]; exact hx.2.2.2.2)
    show fX7_isMarked_s0 (fX7_isMarked_l n) (nI A.length) M = _
    unfold fX7_isMarked_s0
    rw [if_neg (by rw [h.1]; exact fun z => by have := (nI_leI (by omega) (by omega)).mp z; omega), eb, bd_e, e9, ih (A ++ [x]) n (by rw [hA]; simp) (by simp at hn; omega)]
    have em : (s ∈ tg (x :: B)) ↔ (s = x.2.2.2.2 ∨ s ∈ tg B) := by
      unfold tg
      rw [List.map_cons, List.mem_cons]
    unfold mk1
    by_cases c : x.2.2.2.2 = s
    · rw [if_pos c, if_pos rfl, if_pos (em.mpr (Or.inl c.symm))]
    · rw [if_neg c, if_neg (by decide)]
      by_cases c2 : s ∈ tg B
      · rw [if_pos c2, if_pos (em.mpr (Or.inr c2))]
      · rw [if_neg c2, if_neg (fun z => by rcases em.mp z with z | z; exact c z.symm; exact c2 z)]
theorem im_c {L : List fb} {s : Nat} {M : ml_M} (h : bM M (mk1 s) L) (hL : L.length ≤ 8) : fX7_isMarked M = some (.inl (if s ∈ tg L then 1 else 0), M) :=
  im_l h hL L [] ml_fuel rfl (by unfold ml_fuel; omega)
theorem ml_fin (a0 x1 x2 x3 : Int32) (n : Nat) (M : ml_M) (h : 0 ≤ x2 ∨ 200 < x3) : fX7_minutesUntilLeaving_l a0 (n + 1) x1 x2 x3 M = some (.inl (if 0 ≤ x2 then x2 else 0), ml_w (cpR M 11 0) 11 0 (if 0 ≤ x2 then 0 else 2)) := by
  show fX7_minutesUntilLeaving_s0 a0 (fX7_minutesUntilLeaving_l a0 n) x1 x2 x3 M = _
  unfold fX7_minutesUntilLeaving_s0
  rw [jn_e]
  by_cases c : 0 ≤ x2
  · simp only [if_pos c, cpm2, bd_e, jn_e, lt_e]
  · have h3 : 200 < x3 := h.resolve_left c
    simp only [if_neg c, if_pos h3, cpm2, bd_e, jn_e, lt_e]
theorem ml_lv {s : Nat} (hs : s < 2 ^ 31) (a0 a9 y1 : Int32) : ∀ (r t m1 m2 : Nat) (Mc Mm : ml_M) (L : List fb), t + r = 201 → r + 2 < m1 → r + 2 < m2 → rQ Mc 1 Mm (mk1 s) L → (∀ t ∈ tg L, t < 2 ^ 31) → ∃ (Mc' Mm' : ml_M), fF 1 Mc Mc' ∧ fM Mm Mm' ∧ ((∃ f, fX6_minutesUntilLeaving_l a0 m1 y1 (nI s) (nI t) Mc = some (.inl (nI f), Mc') ∧ fX7_minutesUntilLeaving_l a9 m2 y1 (-1) (nI t) Mm = some (.inl (nI f), ml_w (cpR Mm' 11 0) 11 0 0)) ∨ (fX6_minutesUntilLeaving_l a0 m1 y1 (nI s) (nI t) Mc = some (.inr 4, Mc') ∧ fX7_minutesUntilLeaving_l a9 m2 y1 (-1) (nI t) Mm = some (.inl 0, ml_w (cpR Mm' 11 0) 11 0 2))) := by
  intro r
  induction r with
  | zero =>
    intro t m1 m2 Mc Mm L ht h1 h2 hQ hT
    have e : t = 201 := by omega
    subst e
    obtain ⟨m1, rfl⟩ : ∃ z, m1 = z + 1 := ⟨m1 - 1, by omega⟩
    obtain ⟨m2, rfl⟩ : ∃ z, m2 = z + 1 := ⟨m2 - 1, by omega⟩
    refine ⟨Mc, Mm, fF.rf, fM.rf, Or.inr ⟨?_, ?_⟩⟩
    · show fX6_minutesUntilLeaving_s0 a0 (fX6_minutesUntilLeaving_l a0 m1) y1 (nI s) (nI 201) Mc = _
      unfold fX6_minutesUntilLeaving_s0
      rw [if_pos (by decide)]
    · rw [ml_fin a9 y1 (-1) (nI 201) m2 Mm (Or.inr (by decide))]
      rfl
  | succ r ih =>
    intro t m1 m2 Mc Mm L ht h1 h2 hQ hT
    obtain ⟨m1, rfl⟩ : ∃ z, m1 = z + 1 := ⟨m1 - 1, by omega⟩
    obtain ⟨m2, rfl⟩ : ∃ z, m2 = z + 1 := ⟨m2 - 1, by omega⟩
    obtain ⟨C, R, L', gn, e1, e2, e3, e4, e5, e6⟩ := pm1 hQ
    have hT' : ∀ t ∈ tg L', t < 2 ^ 31 := fun t ht => hT t (e4.subset ht)
    obtain ⟨-, -, -, hC, hM, -, hL, -⟩ := id e3
    have p0 : ¬ (200 : Int32) < nI t := fun z => by have := (nI_ltI (a := 200) (by decide) (by omega)).mp z; omega
    have c1 : fX6_minutesUntilLeaving_l a0 (m1 + 1) y1 (nI s) (nI t) Mc = (if s ∈ tg L' then fX6_minutesUntilLeaving_l a0 m1 y1 (nI s) (nI (t + 1)) C else some (.inl (nI t), C)) := by
      show fX6_minutesUntilLeaving_s0 a0 (fX6_minutesUntilLeaving_l a0 m1) y1 (nI s) (nI t) Mc = _
      unfold fX6_minutesUntilLeaving_s0
      rw [if_neg p0, e1, bd_e, hs_c hC hL hs hT', bd_e, nI_1]
      by_cases c : s ∈ tg L'
      · rw [if_pos c, if_pos c, if_1]
      · rw [if_neg c, if_neg c, if_0]
    have c2 : fX7_minutesUntilLeaving_l a9 (m2 + 1) y1 (-1) (nI t) Mm = (if s ∈ tg L' then fX7_minutesUntilLeaving_l a9 m2 y1 (-1) (nI (t + 1)) R else fX7_minutesUntilLeaving_l a9 m2 y1 (nI t) (nI (t + 1)) R) := by
      show fX7_minutesUntilLeaving_s0 a9 (fX7_minutesUntilLeaving_l a9 m2) y1 (-1) (nI t) Mm = _
      unfold fX7_minutesUntilLeaving_s0
      have p1 : ¬ (0 : Int32) ≤ -1 := by decide
      rw [jn_e]
      simp only [if_neg p1, if_neg p0, e2, bd_e, im_c hM hL, jn_e, nI_1]
      by_cases c : s ∈ tg L'
      · simp only [if_pos c, if_1]
      · simp only [if_neg c, if_0, if_T]
    rw [c1, c2]
    by_cases c : s ∈ tg L'
    · rw [if_pos c, if_pos c]
      obtain ⟨C2, R2, f1, f2, f3⟩ := ih (t + 1) m1 m2 C R L' (by omega) (by omega) (by omega) e3 hT'
      exact ⟨C2, R2, e5.tr f1, e6.tr f2, f3⟩
    · rw [if_neg c, if_neg c]
      obtain ⟨m2, rfl⟩ : ∃ z, m2 = z + 1 := ⟨m2 - 1, by omega⟩
      refine ⟨C, R, e5, e6, Or.inl ⟨t, rfl, ?_⟩⟩
      rw [ml_fin a9 y1 (nI t) (nI (t + 1)) m2 R (Or.inl (nI_pos' (by omega))), if_pos (nI_pos' (by omega)), if_pos (nI_pos' (by omega))]
theorem nd_at {L : List fb} (h : (tg L).Nodup) {b c : Nat} {x y : fb} (hb : L[b]? = some x) (hc : L[c]? = some y) (e : y.2.2.2.2 = x.2.2.2.2) : c = b := by
  have e1 : (tg L)[b]? = some x.2.2.2.2 := by unfold tg; rw [List.getElem?_map, hb]; rfl
  have e2 : (tg L)[c]? = some x.2.2.2.2 := by unfold tg; rw [List.getElem?_map, hc, ← e]; rfl
  obtain ⟨i1, g1⟩ := List.getElem?_eq_some_iff.mp e1
  obtain ⟨i2, g2⟩ := List.getElem?_eq_some_iff.mp e2
  rcases Nat.lt_trichotomy c b with q | q | q
  · exact absurd (g2.trans g1.symm) (List.pairwise_iff_getElem.mp h c b i2 i1 q)
  · exact q
  · exact absurd (g1.trans g2.symm) (List.pairwise_iff_getElem.mp h b c i1 i2 q)
theorem bM.mark {M : ml_M} {L : List fb} {b : Nat} {x : fb} (h : bM M mk0 L) (hnd : (tg L).Nodup) (hb : L[b]? = some x) : bM (ml_w M 12 (40 + 5 * b + 4) 1) (mk1 x.2.2.2.2) L := by
  refine ⟨by rw [w_un (by omega)]; exact h.1, fun c y hc => ?_⟩
  obtain ⟨f1, f2, f3, f4, f5⟩ := h.2 c y hc
  refine ⟨by rw [w_un (by omega)]; exact f1, by rw [w_un (by omega)]; exact f2, by rw [w_un (by omega)]; exact f3, by rw [w_un (by omega)]; exact f4, ?_⟩
  unfold mk1
  by_cases e : y.2.2.2.2 = x.2.2.2.2
  · have ec := nd_at hnd hb hc e
    rw [if_pos e, ec, show 40 + 5 * b + 4 = 44 + 5 * b by omega, w_at]
  · have ne : c ≠ b := fun z => by
      subst z
      rw [hb] at hc
      cases hc
      exact e rfl
    rw [if_neg e, w_un (by omega), f5]
    rfl
theorem z_34 {n : Nat} (hn : n ≤ 1000000) (x1 x2 x3 : Int32) {M : ml_M} (hs : sI n M) : ∃ M9, lw_s34 x1 x2 x3 M M9 ∧ sI (n + 60) M9 := by
  obtain ⟨k, b, M1, M2, M9, a1, a2, a3, a4, a5⟩ := pr_g (cat := fun e => if e = 1 then 1 else if e = 4 then 2 else 0) (F := fX6_minutesUntilLeaving x1) (G := fX7_minutesUntilLeaving x1) hs (fun Mm h => by
    obtain ⟨L, a, hQ, ha, han, hnd, hlt⟩ := id h
    obtain ⟨hW, hE, hG, hC, hM, hok, hL, hR⟩ := id hQ
    rcases icase x1 (l := L.length) (by omega) with ⟨b, hb, rfl, hi⟩ | ⟨ho, hi⟩
    · obtain ⟨x, hx, hxm⟩ := b_at hb
      have hT : ∀ t ∈ tg L, t < 2 ^ 31 := fun t ht => by have := hlt t ht; omega
      have hxt : x.2.2.2.2 < 2 ^ 31 := hT _ (by unfold tg; exact List.mem_map.mpr ⟨x, hxm, rfl⟩)
      obtain ⟨C0, d1, d2, d3⟩ := cpF (i := 1) (j := 0) (by decide) M
      obtain ⟨S, hS⟩ : ∃ z, z = ml_w (cpR (ml_w Mm 11 0 0) 0 11) 12 (40 + 5 * b + 4) 1 := ⟨_, rfl⟩
      have c12 : ∀ q, q < 80 → (cpR (ml_w Mm 11 0 0) 0 11) 12 q = Mm 12 q := fun q hq => by rw [cpR_12, if_neg (by omega), t11]
      have s12 : ∀ q, q ≠ 40 + 5 * b + 4 → q < 80 → S 12 q = Mm 12 q := fun q hne hq => by rw [hS, w_un hne, c12 q hq]
      have hQ1 : rQ C0 1 S (mk1 x.2.2.2.2) L := by
        obtain ⟨⟨v, o, g, r, d, hW1⟩, hE1, hG1, hC1, hM1, hok1, hL1, hR1⟩ := hQ.cp d2
        refine ⟨⟨v, o, g, r, d, hW1.of rfl (fun _ _ _ => rfl) (fun q hq => s12 q (by omega) (by omega))⟩, hE1.of (fun _ _ _ => rfl) (s12 7 (by omega) (by omega)) (fun q _ _ => s12 q (by omega) (by omega)), fun j hj => by rw [s12 _ (by omega) (by omega)]; exact hG1 j hj, hC1, ?_, hok1, hL1, hR1⟩
        rw [hS]
        exact (show bM (cpR (ml_w Mm 11 0 0) 0 11) mk0 L from ⟨by rw [c12 6 (by decide)]; exact hM1.1, fun c y hc => by
          have hcl : c < L.length := (List.getElem?_eq_some_iff.mp hc).1
          rw [c12 _ (by omega), c12 _ (by omega), c12 _ (by omega), c12 _ (by omega), c12 _ (by omega)]
          exact hM1.2 c y hc⟩).mark hnd hx
      have back : ∀ {R : ml_M} {t : Int32}, fM S R → eqS Mm (ml_w (cpR R 11 0) 11 0 t) ∧ (ml_w (cpR R 11 0) 11 0 t) 181 = Mm 181 := fun hf => eq_back (fun p x y => by rw [hS, ml_w_ne y, cpR_o y, ml_w_ne x]) (fun q hq => by rw [hS, ml_w_ne (by decide), cpR_o (by decide), w_un hq]) (fun q x y => by rw [hS, w_un (by omega), cpR_12, if_neg (by omega), t11]) (fun q hq => by rw [hS, w_un (by omega), cpR_12, if_pos ⟨by omega, by omega⟩, t11]; exact congrArg (Mm 12) (by omega)) hf
      have ok8 : ml_ok (nI b) 8 := ok_nI (by omega) (by decide)
      have cb : (nI b).toNatClampNeg = b := nI_clamp (by omega)
      have c0 : fX6_minutesUntilLeaving (nI b) M = fX6_minutesUntilLeaving_l (nI b) ml_fuel (nI b) (nI x.2.2.2.2) 1 C0 := by
        unfold fX6_minutesUntilLeaving
        rw [nt_1 hb (by omega) hC.1, bd_e, if_pos ok8, cb, (hC.2 b x hx).2.2.2.2, lt_e, d1, bd_e]
      have m0 : fX7_minutesUntilLeaving (nI b) Mm = fX7_minutesUntilLeaving_l (nI b) ml_fuel (nI b) (-1) 1 S := by
        unfold fX7_minutesUntilLeaving
        have e4 : fX7_set (nI b) 4 1 (cpR (ml_w Mm 11 0 0) 0 11) = some (.inl 0, S) := by
          rw [hS]
          exact set_m (f := 4) (by omega) (by decide) 1 _
        rw [ib_1 hi hM.1, bd_e, fine1, bd_e, if_1, cpm1, bd_e, e4, bd_e]
      rw [c0, m0]
      obtain ⟨C1, R, f1, f2, f3⟩ := ml_lv hxt (nI b) (nI b) (nI b) 200 1 ml_fuel ml_fuel C0 S L (by omega) (by unfold ml_fuel; omega) (by unfold ml_fuel; omega) hQ1 hT
      rcases f3 with ⟨f, g1, g2⟩ | ⟨g1, g2⟩
      · obtain ⟨b1, b2⟩ := back (t := 0) f2
        exact Or.inl ⟨nI f, C1, _, g1, g2, w_at, fF.eqs d3 f1, b1, b2⟩
      · obtain ⟨b1, b2⟩ := back (t := 2) f2
        exact Or.inr ⟨4, C1, _, by decide, g1, g2, w_at, fF.eqs d3 f1, b1⟩
    · exact PR.same (e := 1) (by decide) (by simp only [fX6_minutesUntilLeaving, nt_0 ho hC.1, bd_x]) (by simp only [fX7_minutesUntilLeaving, ib_0 hi hM.1, bd_e, fine0, if_0, if_T]))
  exact ⟨M9, ⟨k, b, M1, M2, a1, a2, a3, a4⟩, a5⟩
