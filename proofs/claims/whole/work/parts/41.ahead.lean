/-! Calls that look ahead. -/
def PR (cat : Nat → Int32) (f g : Option ml_R) (M Mm : ml_M) : Prop := (∃ (r : Int32) (Mc' Mm' : ml_M), f = some (.inl r, Mc') ∧ g = some (.inl r, Mm') ∧ Mm' 11 0 = 0 ∧ eqS M Mc' ∧ eqS Mm Mm' ∧ Mm' 181 = Mm 181) ∨ (∃ (e : Nat) (Mc' Mm' : ml_M), cat e ≠ 0 ∧ f = some (.inr e, Mc') ∧ g = some (.inl 0, Mm') ∧ Mm' 11 0 = cat e ∧ eqS M Mc' ∧ eqS Mm Mm')
theorem fk.eqs {n : Nat} {M M' : ml_M} (h : fk n M 0 M) (e : eqS M M') (x : Int32) : fk n M 0 (ml_w M' 181 0 x) := h.ofm (fun q hq => by rw [ml_w_ne (by decide)]; exact e 12 q (by unfold Ds; omega))
theorem fk.eqs0 {n : Nat} {M M' : ml_M} (h : fk n M 0 M) (e : eqS M M') : fk n M 0 M' := h.ofm (fun q hq => e 12 q (by unfold Ds; omega))
theorem pr_g {n : Nat} {M : ml_M} {cat : Nat → Int32} {F G : ml_M → Option ml_R} (hs : sI n M) (h : ∀ Mm, fk n M 0 Mm → PR cat (F M) (G Mm) M Mm) : ∃ (k9 b9 : Int32) (M1 M2 M9 : ml_M), lw_wr lw_pi cat (F M) = some (.inl k9, M1) ∧ G M1 = some (.inl b9, M2) ∧ fX7_thrown M2 = some (.inl k9, M9) ∧ (k9 = 0 → M9 181 0 = b9) ∧ sI (n + 60) M9 := by
  rcases h M hs.1 with ⟨r, C, R, hf, hg, ht, e1, e2, e3⟩ | ⟨e, C, R, he, hf, hg, ht, e1, e2⟩
  · rcases h (ml_w C 181 0 r) (hs.1.eqs e1 r) with ⟨r', C', R', hf', hg', ht', e1', e2', e3'⟩ | ⟨e, C', R', he, hf', -⟩
    · rw [hf] at hf'
      have e9 := Option.some.inj hf'
      have er : r = r' := Sum.inl.inj (Prod.mk.inj e9).1
      subst er
      refine ⟨0, r, ml_w C 181 0 r, R', R', by rw [hf]; rfl, hg', by rw [th_m, ht'], fun _ => by rw [e3', w_at], (hs.scr ((e1.w (by unfold Ds; omega)).tr e2')).mono (Nat.le_add_right n 60)⟩
    · rw [hf] at hf'
      cases hf'
  · rcases h C (hs.1.eqs0 e1) with ⟨r', C', R', hf', -⟩ | ⟨e', C', R', he', hf', hg', ht', e1', e2'⟩
    · rw [hf] at hf'
      cases hf'
    · rw [hf] at hf'
      have e9 := Option.some.inj hf'
      have er : e = e' := Sum.inr.inj (Prod.mk.inj e9).1
      subst er
      refine ⟨cat e, 0, C, R', R', ?_, hg', by rw [th_m, ht'], fun z => absurd z he, (hs.scr (e1.tr e2')).mono (Nat.le_add_right n 60)⟩
      rw [hf]
      show (if cat e = 0 then none else some ((Sum.inl (cat e), C) : ml_R)) = _
      rw [if_neg he]
theorem PR.same {cat : Nat → Int32} {f g : Option ml_R} {M Mm : ml_M} {e : Nat} (he : cat e ≠ 0) (hf : f = some (.inr e, M)) (hg : g = some (.inl 0, ml_w Mm 11 0 (cat e))) : PR cat f g M Mm := Or.inr ⟨e, M, _, he, hf, hg, w_at, eqS.rf, eqS.thr⟩
/-- the reference has taken its row back -/
theorem eq_back {Mm S R : ml_M} {t : Int32} (h1 : ∀ p, p ≠ 11 → p ≠ 12 → S p = Mm p) (h2 : ∀ q, q ≠ 0 → S 11 q = Mm 11 q) (h3 : ∀ q, 80 ≤ q → q < 800 → S 12 q = Mm 12 q) (h4 : ∀ q, q < 80 → S 12 (880 + q) = Mm 12 q) (hf : fM S R) : eqS Mm (ml_w (cpR R 11 0) 11 0 t) ∧ (ml_w (cpR R 11 0) 11 0 t) 181 = Mm 181 := by
  refine ⟨fun p q hd => ?_, by rw [ml_w_ne (by decide), cpR_o (by decide), hf.1 181 (by decide) (by decide), h1 181 (by decide) (by decide)]⟩
  unfold Ds at hd
  by_cases h11 : p = 11
  · subst h11
    rw [w_un (by omega), cpR_o (by decide), hf.2.2 q (by omega), h2 q (by omega)]
  · rw [ml_w_ne h11]
    by_cases h12 : p = 12
    · subst h12
      rw [cpR_12]
      by_cases hq : 80 * 0 ≤ q ∧ q < 80 * 0 + 80
      · rw [if_pos hq, show 80 * 11 + (q - 80 * 0) = 880 + q by omega, hf.2.1 _ (by omega), h4 q (by omega)]
      · rw [if_neg hq, hf.2.1 q (by omega), h3 q (by omega) (by omega)]
    · rw [cpR_o h12, hf.1 p h11 h12, h1 p h11 h12]
theorem cpm1 (M : ml_M) : fX7_copies 0 11 M = some (.inl 0, cpR M 0 11) := cp_m (a := 0) (b := 11) (by decide) (by decide) (by decide) M
theorem cpm2 (M : ml_M) : fX7_copies 11 0 M = some (.inl 0, cpR M 11 0) := cp_m (a := 11) (b := 0) (by decide) (by decide) (by decide) M
theorem fF.eqs {M C C' : ml_M} (h : ∀ k, (k < ml_fl 1 ∨ ml_fl 1 + 15 ≤ k) → C k = M k) (hf : fF 1 C C') : eqS M C' := by
  intro p q hd
  unfold Ds at hd
  have e : ml_fl 1 = 31 := rfl
  rw [hf.1 p (by omega), h p (by omega)]
/-- the volume ahead -/
theorem va_l (a0 a1 x1 x2 : Int32) (tt : Nat) (h2 : x2 = nI tt) (htt : tt ≤ 200) : ∀ (t s n g : Nat) (M M' : ml_M), ticksN t M = some (g, M') → s + t ≤ tt → fX7_volumeAfter_l a0 a1 (n + t) x1 x2 (nI s) M = fX7_volumeAfter_l a0 a1 n x1 x2 (nI (s + t)) M' := by
  intro t
  induction t with
  | zero =>
    intro s n g M M' h hs
    unfold ticksN at h
    cases h
    rfl
  | succ t ih =>
    intro s n g M M' h hs
    unfold ticksN at h
    match hx : fX7_ticks M, h with
    | some (.inl r, M1), h =>
      dsimp only at h
      match hy : ticksN t M1, h with
      | some (g2, M2), h =>
        have e : M2 = M' := (Prod.mk.inj (Option.some.inj h)).2
        subst e
        rw [show s + (t + 1) = s + 1 + t by omega, ← ih (s + 1) n g2 M1 M2 hy (by omega)]
        show fX7_volumeAfter_s0 a0 a1 (fX7_volumeAfter_l a0 a1 (n + t)) x1 x2 (nI s) M = _
        unfold fX7_volumeAfter_s0
        rw [if_neg (by rw [h2]; exact fun z => by have := (nI_leI (by omega) (by omega)).mp z; omega), hx, bd_e, nI_1]
theorem z_36 {n : Nat} (x1 x2 x3 : Int32) {M : ml_M} (hs : sI n M) : ∃ M9, lw_s36 x1 x2 x3 M M9 ∧ sI (n + 60) M9 := by
  obtain ⟨k, b, M1, M2, M9, a1, a2, a3, a4, a5⟩ := pr_g (cat := fun e => if e = 1 then 1 else if e = 2 then 2 else 0) (F := fX6_volumeAfter x1 x2) (G := fX7_volumeAfter x1 x2) hs (fun Mm h => by
    rcases bcase x1 with ⟨k, hk, rfl⟩ | ho
    · have g0 : fX7_volumeAfter (nI k) x2 Mm = (if x2 < 0 then some (.inl 0, ml_w Mm 11 0 2) else if 200 < x2 then some (.inl 0, ml_w Mm 11 0 2) else ml_bd (fX7_copies 0 11 (ml_w Mm 11 0 0)) (fun r8 M9 => fX7_volumeAfter_l (nI k) x2 ml_fuel (nI k) x2 0 M9)) := by
        unfold fX7_volumeAfter
        rw [bs_m1 hk, bd_e, jn_e, if_1, in_m, bd_e]
        by_cases c1 : x2 < 0
        · rw [if_pos c1, if_pos c1, if_0]
          dsimp only
          rw [lt_e, w_at, if_neg (by decide)]
        · rw [if_neg c1, if_neg c1]
          by_cases c2 : 200 < x2
          · rw [if_pos c2, if_pos c2, if_0]
            dsimp only
            rw [lt_e, w_at, if_neg (by decide)]
          · rw [if_neg c2, if_neg c2, if_1]
            dsimp only
            rw [lt_e, w_at, if_pos rfl]
      have f0 : fX6_volumeAfter (nI k) x2 M = (if x2 < 0 then some (.inr 2, M) else if x2 ≤ 200 then ml_bd (fX2_copyFrom 1 0 M) (fun r3 M4 => ml_bd (fX2_passMinutes 1 x2 M4) (fun r5 M6 => if ml_ok (nI k) 5 then some (.inl (M6 (ml_fl 1 + 2) (nI k).toNatClampNeg), M6) else none)) else some (.inr 2, M)) := by
        unfold fX6_volumeAfter
        rw [nb_c hk, bd_e]
      rw [g0, f0]
      rcases rg x2 201 (by decide) with ⟨t, ht, rfl⟩ | c1 | ⟨c1, c2⟩
      · have p0 : ¬ nI t < 0 := nI_pos (by omega)
        have p1 : nI t ≤ 200 := (nI_leI (b := 200) (by omega) (by decide)).mpr (by omega)
        have p2 : ¬ (200 : Int32) < nI t := fun z => by
          have := (nI_ltI (a := 200) (by decide) (by omega)).mp z
          omega
        rw [if_neg p0, if_neg p0, if_pos p1, if_neg p2, cpm1, bd_e]
        obtain ⟨C0, d1, d2, d3⟩ := cpF (i := 1) (j := 0) (by decide) M
        obtain ⟨L, a, hQ, -⟩ := id h
        obtain ⟨S, hS⟩ : ∃ z, z = cpR (ml_w Mm 11 0 0) 0 11 := ⟨_, rfl⟩
        have hQ1 : rQ C0 1 S mk0 L := (hQ.cp d2).ofm (fun q hq => by rw [hS, cpR_12, if_neg (by omega), t11])
        obtain ⟨C1, R, L', gn, e1, e2, e3, e4, e5, e6, e7⟩ := pm_c (t := t) (by omega) hQ1
        obtain ⟨⟨v, o, g, r, d, hA, -⟩, -⟩ := e3
        have ok5 : ml_ok (nI k) 5 := ok_nI hk (by decide)
        have ck : (nI k).toNatClampNeg = k := nI_clamp (by omega)
        obtain ⟨b1, b2⟩ := eq_back (Mm := Mm) (S := S) (R := R) (t := 0) (fun p x y => by rw [hS, cpR_o y, ml_w_ne x]) (fun q hq => by rw [hS, cpR_o (by decide), w_un hq]) (fun q x y => by rw [hS, cpR_12, if_neg (by omega), t11]) (fun q hq => by rw [hS, cpR_12, if_pos ⟨by omega, by omega⟩, t11]; exact congrArg (Mm 12) (by omega)) e7
        have hR0 : R 11 0 = 0 := by rw [e7.2.2 0 (by decide), hS, cpR_o (by decide), w_at]
        have hw : ml_w (cpR R 11 0) 11 0 0 = cpR R 11 0 := by
          funext p
          by_cases hp : p = 11
          · subst hp
            funext q
            by_cases hq : q = 0
            · subst hq; rw [w_at, cpR_o (by decide), hR0]
            · rw [w_un hq]
          · rw [ml_w_ne hp]
        rw [hw] at b1 b2
        refine Or.inl ⟨nI (v k), C1, cpR R 11 0, ?_, ?_, by rw [cpR_o (by decide)]; exact hR0, fF.eqs d3 e6, b1, b2⟩
        · rw [d1, bd_e, e1, bd_e, if_pos ok5, ck, (hA.1 k hk).1]
        · rw [← hS]
          obtain ⟨i1, i2, i3⟩ := ix11 hk
          have e8 := va_l (nI k) (nI t) (nI k) (nI t) t rfl (by omega) t 0 (ml_fuel - t) gn S R e2 (by omega)
          rw [show ml_fuel - t + t = ml_fuel by unfold ml_fuel; omega, Nat.zero_add] at e8
          obtain ⟨z, hz⟩ : ∃ z, ml_fuel - t = z + 1 := ⟨ml_fuel - t - 1, by unfold ml_fuel; omega⟩
          rw [hz] at e8
          refine e8.trans ?_
          show fX7_volumeAfter_s0 (nI k) (nI t) (fX7_volumeAfter_l (nI k) (nI t) z) (nI k) (nI t) (nI t) R = _
          unfold fX7_volumeAfter_s0
          rw [if_pos (Int32.le_refl _), i1, if_pos i2, i3, lt_e, cpm2, bd_e, hA.2.1 k hk]
      · rw [if_pos c1, if_pos c1]
        exact PR.same (e := 2) (by decide) rfl rfl
      · obtain ⟨j, hj, rfl⟩ := nI_of c1
        have h5 := (nI_leI (a := 201) (by decide) hj).mp c2
        have p1 : ¬ nI j ≤ 200 := fun z => by
          have := (nI_leI (b := 200) hj (by decide)).mp z
          omega
        have p2 : (200 : Int32) < nI j := (nI_ltI (a := 200) (by decide) hj).mpr (by omega)
        rw [if_neg c1, if_neg c1, if_neg p1, if_pos p2]
        exact PR.same (e := 2) (by decide) rfl rfl
    · refine PR.same (e := 1) (by decide) (by simp only [fX6_volumeAfter, (ho M).1, bd_x]) ?_
      unfold fX7_volumeAfter
      rw [(ho Mm).2, bd_e, jn_e, if_0]
      dsimp only
      rw [lt_e, w_at, if_neg (by decide)]
      rfl)
  exact ⟨M9, ⟨k, b, M1, M2, a1, a2, a3, a4⟩, a5⟩
/-- minutes until two basins are equalized -/
theorem me_fin (a0 x1 x2 x3 : Int32) (n : Nat) (M : ml_M) (h : 0 ≤ x2 ∨ 200 < x3) : fX7_minutesUntilEqual_l a0 (n + 1) x1 x2 x3 M = some (.inl (if 0 ≤ x2 then x2 else 0), ml_w (cpR M 11 0) 11 0 (if 0 ≤ x2 then 0 else 2)) := by
  show fX7_minutesUntilEqual_s0 a0 (fX7_minutesUntilEqual_l a0 n) x1 x2 x3 M = _
  unfold fX7_minutesUntilEqual_s0
  rw [jn_e]
  by_cases c : 0 ≤ x2
  · simp only [if_pos c, cpm2, bd_e, jn_e, lt_e]
  · have h3 : 200 < x3 := h.resolve_left c
    simp only [if_neg c, if_pos h3, cpm2, bd_e, jn_e, lt_e]
theorem wq_q {i k : Nat} {Mc Mm : ml_M} {mk : Nat → Int32} {L : List fb} (h : rQ Mc i Mm mk L) (hk : k < 4) : wq (fun j => Mm 12 (11 + j)) k = wq (Mc (ml_fl i + 2)) k := by
  obtain ⟨⟨v, o, g, r, d, hA, -⟩, -⟩ := h
  exact wq_congr ((hA.2.1 k (by omega)).trans (hA.1 k (by omega)).1.symm) ((hA.2.1 (k + 1) (by omega)).trans (hA.1 (k + 1) (by omega)).1.symm)
theorem me_l {k : Nat} {mk : Nat → Int32} (hk : k < 4) (a0 : Int32) : ∀ (r t m1 m2 : Nat) (Mc Mm : ml_M) (L : List fb), t + r = 200 → r + 2 < m1 → r + 2 < m2 → rQ Mc 1 Mm mk L → wq (Mc (ml_fl 1 + 2)) k ≠ 0 → ∃ (Mc' Mm' : ml_M), fF 1 Mc Mc' ∧ fM Mm Mm' ∧ ((∃ f, fX6_minutesUntilEqual_l a0 m1 (nI k) (nI t) Mc = some (.inl (nI f), Mc') ∧ fX7_minutesUntilEqual_l a0 m2 (nI k) (-1) (nI (t + 1)) Mm = some (.inl (nI f), ml_w (cpR Mm' 11 0) 11 0 0)) ∨ (fX6_minutesUntilEqual_l a0 m1 (nI k) (nI t) Mc = some (.inr 4, Mc') ∧ fX7_minutesUntilEqual_l a0 m2 (nI k) (-1) (nI (t + 1)) Mm = some (.inl 0, ml_w (cpR Mm' 11 0) 11 0 2))) := by
  intro r
  induction r with
  | zero =>
    intro t m1 m2 Mc Mm L ht h1 h2 hQ hw
    have e : t = 200 := by omega
    subst e
    obtain ⟨m1, rfl⟩ : ∃ z, m1 = z + 2 := ⟨m1 - 2, by omega⟩
    obtain ⟨m2, rfl⟩ : ∃ z, m2 = z + 1 := ⟨m2 - 1, by omega⟩
    obtain ⟨C, R, L', gn, e1, e2, e3, e4, e5, e6⟩ := pm1 hQ
    refine ⟨C, Mm, e5, fM.rf, Or.inr ⟨?_, ?_⟩⟩
    · show fX6_minutesUntilEqual_s0 a0 (fX6_minutesUntilEqual_l a0 (m1 + 1)) (nI k) (nI 200) Mc = _
      unfold fX6_minutesUntilEqual_s0
      rw [if_neg (by decide), wq_c hk, bd_e, if_neg hw, e1, bd_e]
      show fX6_minutesUntilEqual_s0 a0 (fX6_minutesUntilEqual_l a0 m1) (nI k) (nI 200 + 1) C = _
      unfold fX6_minutesUntilEqual_s0
      rw [if_pos (by decide)]
    · rw [me_fin a0 (nI k) (-1) (nI (200 + 1)) m2 Mm (Or.inr (by decide))]
      rfl
  | succ r ih =>
    intro t m1 m2 Mc Mm L ht h1 h2 hQ hw
    obtain ⟨m1, rfl⟩ : ∃ z, m1 = z + 1 := ⟨m1 - 1, by omega⟩
    obtain ⟨m2, rfl⟩ : ∃ z, m2 = z + 1 := ⟨m2 - 1, by omega⟩
    obtain ⟨C, R, L', gn, e1, e2, e3, e4, e5, e6⟩ := pm1 hQ
    have c1 : fX6_minutesUntilEqual_l a0 (m1 + 1) (nI k) (nI t) Mc = fX6_minutesUntilEqual_l a0 m1 (nI k) (nI (t + 1)) C := by
      show fX6_minutesUntilEqual_s0 a0 (fX6_minutesUntilEqual_l a0 m1) (nI k) (nI t) Mc = _
      unfold fX6_minutesUntilEqual_s0
      rw [if_neg (show ¬ (200 : Int32) < nI t from fun z => by have := (nI_ltI (a := 200) (by decide) (by omega)).mp z; omega), wq_c hk, bd_e, if_neg hw, e1, bd_e, nI_1]
    have c2 : fX7_minutesUntilEqual_l a0 (m2 + 1) (nI k) (-1) (nI (t + 1)) Mm = (if wq (C (ml_fl 1 + 2)) k = 0 then fX7_minutesUntilEqual_l a0 m2 (nI k) (nI (t + 1)) (nI (t + 2)) R else fX7_minutesUntilEqual_l a0 m2 (nI k) (-1) (nI (t + 2)) R) := by
      show fX7_minutesUntilEqual_s0 a0 (fX7_minutesUntilEqual_l a0 m2) (nI k) (-1) (nI (t + 1)) Mm = _
      unfold fX7_minutesUntilEqual_s0
      have p1 : ¬ (0 : Int32) ≤ -1 := by decide
      have p2 : ¬ (200 : Int32) < nI (t + 1) := fun z => by have := (nI_ltI (a := 200) (by decide) (by omega)).mp z; omega
      rw [jn_e]
      simp only [if_neg p1, if_neg p2, e2, bd_e, wq_m hk, wq_q e3 hk, jn_e, nI_1]
    rw [c1, c2]
    by_cases h0 : wq (C (ml_fl 1 + 2)) k = 0
    · refine ⟨C, R, e5, e6, Or.inl ⟨t + 1, ?_, ?_⟩⟩
      · obtain ⟨m1, rfl⟩ : ∃ z, m1 = z + 1 := ⟨m1 - 1, by omega⟩
        show fX6_minutesUntilEqual_s0 a0 (fX6_minutesUntilEqual_l a0 m1) (nI k) (nI (t + 1)) C = _
        unfold fX6_minutesUntilEqual_s0
        rw [if_neg (show ¬ (200 : Int32) < nI (t + 1) from fun z => by have := (nI_ltI (a := 200) (by decide) (by omega)).mp z; omega), wq_c hk, bd_e, if_pos h0]
      · obtain ⟨m2, rfl⟩ : ∃ z, m2 = z + 1 := ⟨m2 - 1, by omega⟩
        rw [if_pos h0, me_fin a0 (nI k) (nI (t + 1)) (nI (t + 2)) m2 R (Or.inl (nI_pos' (by omega))), if_pos (nI_pos' (by omega)), if_pos (nI_pos' (by omega))]
    · rw [if_neg h0]
      obtain ⟨C2, R2, f1, f2, f3⟩ := ih (t + 1) m1 m2 C R L' (by omega) (by omega) (by omega) e3 h0
      exact ⟨C2, R2, e5.tr f1, e6.tr f2, f3⟩
theorem z_35 {n : Nat} (x1 x2 x3 : Int32) {M : ml_M} (hs : sI n M) : ∃ M9, lw_s35 x1 x2 x3 M M9 ∧ sI (n + 60) M9 := by
  obtain ⟨k, b, M1, M2, M9, a1, a2, a3, a4, a5⟩ := pr_g (cat := fun e => if e = 1 then 1 else if e = 4 then 2 else 0) (F := fX6_minutesUntilEqual x1) (G := fX7_minutesUntilEqual x1) hs (fun Mm h => by
    rcases gcase x1 with ⟨k, hk, rfl⟩ | ho
    · obtain ⟨C0, d1, d2, d3⟩ := cpF (i := 1) (j := 0) (by decide) M
      obtain ⟨L, a, hQ, -⟩ := id h
      obtain ⟨S, hS⟩ : ∃ z, z = cpR (ml_w Mm 11 0 0) 0 11 := ⟨_, rfl⟩
      have hQ1 : rQ C0 1 S mk0 L := (hQ.cp d2).ofm (fun q hq => by rw [hS, cpR_12, if_neg (by omega), t11])
      have ew : wq (M (ml_fl 0 + 2)) k = wq (C0 (ml_fl 1 + 2)) k := wq_congr (d2.2.2.1 k (by omega)).symm (d2.2.2.1 (k + 1) (by omega)).symm
      have back : ∀ {R : ml_M} {t : Int32}, fM S R → eqS Mm (ml_w (cpR R 11 0) 11 0 t) ∧ (ml_w (cpR R 11 0) 11 0 t) 181 = Mm 181 := fun hf => eq_back (fun p x y => by rw [hS, cpR_o y, ml_w_ne x]) (fun q hq => by rw [hS, cpR_o (by decide), w_un hq]) (fun q x y => by rw [hS, cpR_12, if_neg (by omega), t11]) (fun q hq => by rw [hS, cpR_12, if_pos ⟨by omega, by omega⟩, t11]; exact congrArg (Mm 12) (by omega)) hf
      have c0 : fX6_minutesUntilEqual (nI k) M = fX6_minutesUntilEqual_l (nI k) ml_fuel (nI k) 0 C0 := by
        unfold fX6_minutesUntilEqual
        rw [ng_c hk, bd_e, d1, bd_e]
      have m0 : fX7_minutesUntilEqual (nI k) Mm = (if wq (C0 (ml_fl 1 + 2)) k = 0 then fX7_minutesUntilEqual_l (nI k) ml_fuel (nI k) 0 1 S else fX7_minutesUntilEqual_l (nI k) ml_fuel (nI k) (-1) 1 S) := by
        unfold fX7_minutesUntilEqual
        rw [gt_m1 hk, bd_e, fine1, bd_e, if_1, wq_m hk, bd_e, jn_e, wqe h hk, ew]
        by_cases h0 : wq (C0 (ml_fl 1 + 2)) k = 0
        · rw [if_pos h0, if_pos h0]
          dsimp only
          rw [cpm1, bd_e, ← hS]
        · rw [if_neg h0, if_neg h0]
          dsimp only
          rw [cpm1, bd_e, ← hS]
      rw [c0, m0]
      obtain ⟨zf, hzf⟩ : ∃ z, ml_fuel = z + 1 := ⟨ml_fuel - 1, by unfold ml_fuel; omega⟩
      by_cases h0 : wq (C0 (ml_fl 1 + 2)) k = 0
      · rw [if_pos h0, hzf, me_fin (nI k) (nI k) 0 1 zf S (Or.inl (by decide))]
        obtain ⟨b1, b2⟩ := back (t := 0) (fM.rf (M := S))
        refine Or.inl ⟨0, C0, _, ?_, rfl, by rw [if_pos (by decide), w_at], fF.eqs d3 fF.rf, b1, b2⟩
        show fX6_minutesUntilEqual_s0 (nI k) (fX6_minutesUntilEqual_l (nI k) zf) (nI k) 0 C0 = _
        unfold fX6_minutesUntilEqual_s0
        rw [if_neg (by decide), wq_c hk, bd_e, if_pos h0]
      · rw [if_neg h0]
        obtain ⟨C1, R, f1, f2, f3⟩ := me_l hk (nI k) 200 0 ml_fuel ml_fuel C0 S L (by omega) (by unfold ml_fuel; omega) (by unfold ml_fuel; omega) hQ1 h0
        rcases f3 with ⟨f, g1, g2⟩ | ⟨g1, g2⟩
        · obtain ⟨b1, b2⟩ := back (t := 0) f2
          exact Or.inl ⟨nI f, C1, _, g1, g2, w_at, fF.eqs d3 f1, b1, b2⟩
        · obtain ⟨b1, b2⟩ := back (t := 2) f2
          exact Or.inr ⟨4, C1, _, by decide, g1, g2, w_at, fF.eqs d3 f1, b1⟩
    · exact PR.same (e := 1) (by decide) (by simp only [fX6_minutesUntilEqual, ng_x (ho M).1, bd_x]) (by simp only [fX7_minutesUntilEqual, (ho Mm).2, bd_e, fine0, if_0, if_T]))
  exact ⟨M9, ⟨k, b, M1, M2, a1, a2, a3, a4⟩, a5⟩
