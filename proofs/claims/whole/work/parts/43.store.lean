/-! Typing, positions, undo, save, restore. -/
theorem w_off {M : ml_M} {a j p q : Nat} {x : Int32} (h : ¬ (p = a ∧ q = j)) : ml_w M a j x p q = M p q := by
  by_cases ha : p = a
  · subst ha
    rw [w_un (fun z => h ⟨rfl, z⟩)]
  · rw [ml_w_ne ha]
theorem pr_e {n : Nat} {M : ml_M} {cat : Nat → Int32} {F G : ml_M → Option ml_R} (hs : sI n M) (h : ∀ Mm, eqS M Mm → PR cat (F M) (G Mm) M Mm) : ∃ (k9 b9 : Int32) (M1 M2 M9 : ml_M), lw_wr lw_pi cat (F M) = some (.inl k9, M1) ∧ G M1 = some (.inl b9, M2) ∧ fX7_thrown M2 = some (.inl k9, M9) ∧ (k9 = 0 → M9 181 0 = b9) ∧ sI (n + 60) M9 := by
  rcases h M eqS.rf with ⟨r, C, R, hf, hg, ht, e1, e2, e3⟩ | ⟨e, C, R, he, hf, hg, ht, e1, e2⟩
  · rcases h (ml_w C 181 0 r) (e1.w (by unfold Ds; omega)) with ⟨r', C', R', hf', hg', ht', e1', e2', e3'⟩ | ⟨e, C', R', he, hf', -⟩
    · rw [hf] at hf'
      have e9 := Option.some.inj hf'
      have er : r = r' := Sum.inl.inj (Prod.mk.inj e9).1
      subst er
      refine ⟨0, r, ml_w C 181 0 r, R', R', by rw [hf]; rfl, hg', by rw [th_m, ht'], fun _ => by rw [e3', w_at], (hs.scr ((e1.w (by unfold Ds; omega)).tr e2')).mono (Nat.le_add_right n 60)⟩
    · rw [hf] at hf'
      cases hf'
  · rcases h C e1 with ⟨r', C', R', hf', -⟩ | ⟨e', C', R', he', hf', hg', ht', e1', e2'⟩
    · rw [hf] at hf'
      cases hf'
    · rw [hf] at hf'
      have e9 := Option.some.inj hf'
      have er : e = e' := Sum.inr.inj (Prod.mk.inj e9).1
      subst er
      refine ⟨cat e, 0, C, R', R', ?_, hg', by rw [th_m, ht'], fun z => absurd z he, (hs.scr (e1.tr e2')).mono (Nat.le_add_right n 60)⟩
      rw [hf]
      show (if cat e = 0 then none else some ((Sum.inl (cat e), C) : ml_R)) = _
      rw [if_neg he]
theorem z_48 {n : Nat} (x1 x2 x3 : Int32) {M : ml_M} (hs : sI n M) : ∃ M9, lw_s48 x1 x2 x3 M M9 ∧ sI (n + 60) M9 := by
  obtain ⟨k, b, M1, M2, M9, a1, a2, a3, a4, a5⟩ := pr_e (cat := fun e => if e = 4 then 1 else 0) (F := fX6_errorPosition) (G := fX7_errorPosition) hs (fun Mm h => by
    have e : Mm 11 12 = M 0 7 := (h 11 12 (by unfold Ds; omega)).trans hs.2.2.2.2.1.1.symm
    by_cases c : M 0 7 = -1
    · exact PR.same (e := 4) (by decide) (by simp only [fX6_errorPosition, if_pos c]) (by simp only [fX7_errorPosition, e, if_pos c, jn_e, fine0, bd_e, if_0, if_T])
    · refine Or.inl ⟨M 0 7, M, ml_w Mm 11 0 0, by simp only [fX6_errorPosition, if_neg c], ?_, w_at, eqS.rf, eqS.thr, ml_w_ne (by decide)⟩
      have e2 : ml_w Mm 11 0 0 11 12 = M 0 7 := by rw [w_un (by decide), e]
      simp only [fX7_errorPosition, e, if_neg c, jn_e, fine1, bd_e, if_1, e2])
  exact ⟨M9, ⟨k, b, M1, M2, a1, a2, a3, a4⟩, a5⟩
theorem z_49 {n : Nat} (x1 x2 x3 : Int32) {M : ml_M} (hs : sI n M) : ∃ M9, lw_s49 x1 x2 x3 M M9 ∧ sI (n + 60) M9 := by
  obtain ⟨k, b, M1, M2, M9, a1, a2, a3, a4, a5⟩ := pr_e (cat := fun e => if e = 4 then 1 else 0) (F := fX6_failedCommand) (G := fX7_failedCommand) hs (fun Mm h => by
    have e : Mm 11 13 = M 0 8 := (h 11 13 (by unfold Ds; omega)).trans hs.2.2.2.2.1.2.symm
    by_cases c : M 0 8 = -1
    · exact PR.same (e := 4) (by decide) (by simp only [fX6_failedCommand, if_pos c]) (by simp only [fX7_failedCommand, e, if_pos c, jn_e, fine0, bd_e, if_0, if_T])
    · refine Or.inl ⟨M 0 8, M, ml_w Mm 11 0 0, by simp only [fX6_failedCommand, if_neg c], ?_, w_at, eqS.rf, eqS.thr, ml_w_ne (by decide)⟩
      have e2 : ml_w Mm 11 0 0 11 13 = M 0 8 := by rw [w_un (by decide), e]
      simp only [fX7_failedCommand, e, if_neg c, jn_e, fine1, bd_e, if_1, e2])
  exact ⟨M9, ⟨k, b, M1, M2, a1, a2, a3, a4⟩, a5⟩
/-- a character is typed -/
theorem z_46 {n : Nat} (x1 x2 x3 : Int32) {M : ml_M} (hs : sI n M) : ∃ M9, lw_s46 x1 x2 x3 M M9 ∧ sI (n + 60) M9 := by
  obtain ⟨l, l60, t1, t2, t3⟩ := id hs.2.2.2.1
  obtain ⟨a, ha⟩ : ∃ a, a = lw_ic x1 := ⟨_, rfl⟩
  have bad : ∀ (e : Nat), (fun e => if e = 2 then 1 else if e = 3 then 2 else 0 : Nat → Int32) e ≠ 0 → fX6_type a M = some (.inr e, M) → fX7_type a M = some (.inl 0, ml_w M 11 0 ((fun e => if e = 2 then 1 else if e = 3 then 2 else 0 : Nat → Int32) e)) → ∃ M9, lw_s46 x1 x2 x3 M M9 ∧ sI (n + 60) M9 := by
    intro e he hf hg
    refine ⟨_, ⟨(fun e => if e = 2 then 1 else if e = 3 then 2 else 0 : Nat → Int32) e, 0, M, _, ?_, by rw [← ha]; exact hg, by rw [th_m, w_at], fun z => absurd z he⟩, (hs.scr eqS.thr).mono (Nat.le_add_right n 60)⟩
    rw [← ha]
    unfold fL_type
    rw [hf]
    show (if (fun e => if e = 2 then 1 else if e = 3 then 2 else 0 : Nat → Int32) e = 0 then none else some ((Sum.inl ((fun e => if e = 2 then 1 else if e = 3 then 2 else 0 : Nat → Int32) e), M) : ml_R)) = _
    rw [if_neg he]
  by_cases c1 : a < 32
  · refine bad 2 (by decide) (by unfold fX6_type; rw [if_pos c1]) ?_
    unfold fX7_type
    rw [in_m, if_pos c1, bd_e, jn_e, if_0]
    dsimp only
    rw [lt_e, w_at, if_neg (by decide)]
    rfl
  by_cases c2 : a ≤ 126
  · have c3 : ¬ 126 < a := Int32.not_lt.mpr c2
    by_cases c4 : l < 60
    · -- the character goes in
      have c5 : nI l < 60 := (nI_ltI (b := 60) (by omega) (by decide)).mpr c4
      have c6 : ¬ nI l = 60 := fun z => by have := (nI_eq (b := 60) (by omega) (by decide)).mp z; omega
      have a0 : ¬ a < 0 := fun z => c1 (by
        rw [Int32.lt_iff_toInt_lt] at z ⊢
        have e0 : (0 : Int32).toInt = 0 := by decide
        have e1 : (32 : Int32).toInt = 32 := by decide
        omega)
      obtain ⟨c, hc, hca⟩ := nI_of a0
      have c32 : 32 ≤ c := by
        rcases Nat.lt_or_ge c 32 with q | q
        · exact absurd (by rw [hca]; exact (nI_ltI (b := 32) hc (by decide)).mpr q) c1
        · exact q
      have c126 : c ≤ 126 := by rw [hca] at c2; exact (nI_leI (b := 126) hc (by decide)).mp c2
      have ok6 : ml_ok (nI l) 60 := ok_nI c4 (by decide)
      have cl : (nI l).toNatClampNeg = l := nI_clamp (by omega)
      have nc : vp_nar .char a = nI c := by rw [hca]; exact nar_c c (by omega)
      have hf : fX6_type a M = some (.inl (nI (l + 1)), ml_w (ml_w M 4 l (nI c)) 3 1 (nI (l + 1))) := by
        have e3 : ml_w M 4 l (nI c) 3 1 = nI l := by rw [ml_w_ne (by decide)]; exact t1
        simp only [fX6_type, if_neg c1, if_pos c2, t1, if_pos c5, if_pos ok6, cl, nc, lt_e, e3, nI_1, w_at]
      obtain ⟨M1, hM1⟩ : ∃ z, z = ml_w (ml_w (ml_w M 4 l (nI c)) 3 1 (nI (l + 1))) 181 0 (nI (l + 1)) := ⟨_, rfl⟩
      have m119 : M1 11 9 = nI l := by rw [hM1, ml_w_ne (by decide), ml_w_ne (by decide), ml_w_ne (by decide)]; exact t2
      have hg : fX7_type a M1 = some (.inl (nI (l + 1)), ml_w (ml_w (ml_w M1 11 0 0) 14 l (nI c)) 11 9 (nI (l + 1))) := by
        have q1 : ml_w M1 11 0 0 11 0 = 0 := w_at
        have q2 : ml_w M1 11 0 0 11 9 = nI l := by rw [w_un (by decide)]; exact m119
        have q3 : ml_w (ml_w M1 11 0 0) 14 l (nI c) 11 9 = nI l := by rw [ml_w_ne (by decide)]; exact q2
        simp only [fX7_type, in_m, if_neg c1, if_neg c3, bd_e, jn_e, if_1, m119, if_neg c6, lt_e, q1, if_0, if_T, q2, if_pos ok6, cl, nc, q3, nI_1, w_at]
      obtain ⟨M9, hM9⟩ : ∃ z, z = ml_w (ml_w (ml_w M1 11 0 0) 14 l (nI c)) 11 9 (nI (l + 1)) := ⟨_, rfl⟩
      have k9 : ∀ p q, ¬ (p = 4 ∧ q = l) → ¬ (p = 14 ∧ q = l) → ¬ (p = 181 ∧ q = 0) → ¬ (p = 3 ∧ q = 1) → ¬ (p = 11 ∧ q = 0) → ¬ (p = 11 ∧ q = 9) → M9 p q = M p q := fun p q h1 h2 h3 h4 h5 h6 => by rw [hM9, hM1, w_off h6, w_off h2, w_off h5, w_off h3, w_off h4, w_off h1]
      refine ⟨M9, ⟨0, nI (l + 1), M1, M9, ?_, by rw [← ha, hg, hM9], by rw [th_m, hM9, w_un (by decide), ml_w_ne (by decide), w_at], fun _ => by rw [hM9, ml_w_ne (by decide), ml_w_ne (by decide), ml_w_ne (by decide), hM1, w_at]⟩, sI.mono (n := n) ⟨hs.1.of (fun p q hp => k9 p q (by omega) (by omega) (by omega) (by omega) (by omega) (by omega)), hs.2.1.of (fun p q hp => k9 p q (by omega) (by omega) (by omega) (by omega) (by omega) (by omega)), hs.2.2.1.of (fun p q hp => k9 p q (by omega) (by omega) (by omega) (by omega) (by omega) (by omega)), ⟨l + 1, by omega, ?_, ?_, fun j hj => ?_⟩, hs.2.2.2.2.1.of (fun p q hp => k9 p q (by omega) (by omega) (by omega) (by omega) (by omega) (by omega)), hs.2.2.2.2.2.of (fun p q hp => k9 p q (by omega) (by omega) (by omega) (by omega) (by omega) (by omega))⟩ (Nat.le_add_right n 60)⟩
      · rw [← ha]
        unfold fL_type
        rw [hf, hM1]
        rfl
      · rw [hM9, hM1, w_off (by omega), w_off (by omega), w_off (by omega), w_off (by omega), w_at]
      · rw [hM9, w_at]
      · by_cases hj2 : j = l
        · subst hj2
          refine ⟨c, c32, c126, ?_, ?_⟩
          · rw [hM9, hM1, w_off (by omega), w_off (by omega), w_off (by omega), w_off (by omega), w_off (by omega), w_at]
          · rw [hM9, w_off (by omega), w_at]
        · rw [k9 4 j (by omega) (by omega) (by omega) (by omega) (by omega) (by omega), k9 14 j (by omega) (by omega) (by omega) (by omega) (by omega) (by omega)]
          exact t3 j (by omega)
    · have e60 : l = 60 := by omega
      subst e60
      refine bad 3 (by decide) ?_ ?_
      · unfold fX6_type
        rw [if_neg c1, if_pos c2, t1, if_neg (by decide)]
      · unfold fX7_type
        rw [in_m, if_neg c1, if_neg c3, bd_e, jn_e, if_1, t2, if_pos (by decide)]
        dsimp only
        rw [lt_e, w_at, if_neg (by decide)]
        rfl
  · have c3 : 126 < a := Int32.not_le.mp c2
    refine bad 2 (by decide) (by unfold fX6_type; rw [if_neg c1, if_neg c2]) ?_
    unfold fX7_type
    rw [in_m, if_neg c1, if_pos c3, bd_e, jn_e, if_0]
    dsimp only
    rw [lt_e, w_at, if_neg (by decide)]
    rfl
/-- the snapshot is made -/
theorem z_51 {n : Nat} (x1 x2 x3 : Int32) {M : ml_M} (hs : sI n M) : ∃ M9, lw_s51 x1 x2 x3 M M9 ∧ sI (n + 60) M9 := by
  obtain ⟨L, hL, hC, hM, hok⟩ := rB8 hs.1
  obtain ⟨C0, d1, d2, d3⟩ := cpF (i := 2) (j := 0) (by decide) M
  have f2 : ml_fl 2 = 46 := rfl
  have d4 : ∀ k, (k < 46 ∨ 61 ≤ k) → C0 k = M k := fun k hk => d3 k (by omega)
  obtain ⟨M1, hM1⟩ : ∃ z, z = ml_w C0 0 3 1 := ⟨_, rfl⟩
  have m1 : M1 12 = M 12 := by rw [hM1, ml_w_ne (by decide), d4 12 (by omega)]
  have e9 : ∀ N : ml_M, fX7_copies 0 9 N = some (.inl 0, cpR N 0 9) := fun N => cp_m (a := 0) (b := 9) (by decide) (by decide) (by decide) N
  obtain ⟨M9, hM9⟩ : ∃ z, z = cpR (ml_w (ml_w M1 11 0 0) 11 3 1) 0 9 := ⟨_, rfl⟩
  have k9 : ∀ p q, (p < 46 ∨ 61 ≤ p) → ¬ (p = 0 ∧ q = 3) → ¬ (p = 11 ∧ (q = 0 ∨ q = 3)) → ¬ (p = 12 ∧ 720 ≤ q ∧ q < 800) → M9 p q = M p q := by
    intro p q h1 h2 h3 h4
    rw [hM9]
    by_cases h12 : p = 12
    · subst h12
      rw [cpR_12, if_neg (by omega), ml_w_ne (by decide), ml_w_ne (by decide), m1]
    · rw [cpR_o h12, w_off (by omega), w_off (by omega), hM1, w_off h2, d4 p h1]
  refine ⟨M9, ⟨nI L.length, M1, ?_, ?_⟩, sI.mono (n := n) ⟨hs.1.of (fun p q hp => k9 p q (by omega) (by omega) (by omega) (by omega)), hs.2.1.of (fun p q hp => k9 p q (by omega) (by omega) (by omega) (by omega)), ⟨1, by decide, ?_, ?_, fun _ => ?_⟩, hs.2.2.2.1.of (fun p q hp => k9 p q (by omega) (by omega) (by omega) (by omega)), hs.2.2.2.2.1.of (fun p q hp => k9 p q (by omega) (by omega) (by omega) (by omega)), hs.2.2.2.2.2.of (fun p q hp => k9 p q (by omega) (by omega) (by omega) (by omega))⟩ (Nat.le_add_right n 60)⟩
  · unfold fX6_save
    have e5 : M1 (ml_fl 0 + 5) 0 = nI L.length := by rw [hM1, w_off (by unfold ml_fl; omega), d4 _ (by unfold ml_fl; omega)]; exact hC.1
    rw [d1, bd_e, lt_e, ← hM1, e5]
  · unfold fX7_save
    have e6 : cpR (ml_w (ml_w M1 11 0 0) 11 3 1) 0 9 12 6 = nI L.length := by rw [cpR_12, if_neg (by omega), ml_w_ne (by decide), ml_w_ne (by decide), m1]; exact hM.1
    rw [lt_e, lt_e, e9, bd_e, e6, hM9]
  · rw [hM9, cpR_o (by decide), ml_w_ne (by decide), ml_w_ne (by decide), hM1, w_at]
    rfl
  · rw [hM9, cpR_o (by decide), w_at]
    rfl
  · have a1 : fk n C0 2 M := hs.1.cp d2
    refine (a1.ofc (fun o ho => ?_)).ofm (fun q hq => ?_)
    · rw [hM9, cpR_o (by omega), ml_w_ne (by omega), ml_w_ne (by omega), hM1, ml_w_ne (by omega)]
    · rw [row_12, hM9, cpR_12, if_pos ⟨by omega, by omega⟩, ml_w_ne (by decide), ml_w_ne (by decide), m1]
      exact congrArg (M 12) (by omega)
/-- back to the snapshot -/
theorem z_52 {n : Nat} (x1 x2 x3 : Int32) {M : ml_M} (hs : sI n M) : ∃ M9, lw_s52 x1 x2 x3 M M9 ∧ sI (n + 60) M9 := by
  obtain ⟨b, hb1, s1, s2, s3⟩ := id hs.2.2.1
  obtain ⟨h, nx, hh, hn, h1, h2, h3, hold⟩ := id hs.2.1
  rcases (show b = 0 ∨ b = 1 by omega) with rfl | rfl
  · refine ⟨ml_w M 11 0 1, ⟨1, 0, M, ml_w M 11 0 1, ?_, ?_, by rw [th_m, w_at], fun z => absurd z (by decide)⟩, (hs.scr eqS.thr).mono (Nat.le_add_right n 60)⟩
    · unfold fL_restore fX6_restore
      rw [s1]
      rfl
    · unfold fX7_restore
      rw [s2]
      have e : fX7_isFine (nI 0) M = some (.inl 0, ml_w M 11 0 1) := fine0 M
      rw [e, bd_e, if_0]
  · have hk := s3 rfl
    obtain ⟨L, hL, hC, hM, hok⟩ : ∃ L : List fb, L.length ≤ 8 ∧ bC M 2 L ∧ bM (row 9 M) mk0 L ∧ (∀ x ∈ L, fb_ok x) := by
      obtain ⟨L, a, ⟨-, -, -, hC, hM, hok, hL, -⟩, -⟩ := id hk
      exact ⟨L, hL, hC, hM, fun x hx => (hok x hx).1⟩
    obtain ⟨C0, d1, d2, d3⟩ := cpF (i := 0) (j := 2) (by decide) M
    have f0 : ml_fl 0 = 16 := rfl
    have d4 : ∀ k, (k < 16 ∨ 31 ≤ k) → C0 k = M k := fun k hk => d3 k (by omega)
    obtain ⟨M1, hM1⟩ : ∃ z, z = ml_w (ml_w C0 1 2 0) 181 0 (nI L.length) := ⟨_, rfl⟩
    have m1 : M1 12 = M 12 := by rw [hM1, ml_w_ne (by decide), ml_w_ne (by decide), d4 12 (by omega)]
    have e9 : ∀ N : ml_M, fX7_copies 9 0 N = some (.inl 0, cpR N 9 0) := fun N => cp_m (a := 9) (b := 0) (by decide) (by decide) (by decide) N
    obtain ⟨M9, hM9⟩ : ∃ z, z = ml_w (cpR (ml_w M1 11 0 0) 9 0) 11 2 0 := ⟨_, rfl⟩
    have k9 : ∀ p q, (p < 16 ∨ 31 ≤ p) → ¬ (p = 1 ∧ q = 2) → ¬ (p = 181 ∧ q = 0) → ¬ (p = 11 ∧ (q = 0 ∨ q = 2)) → ¬ (p = 12 ∧ q < 80) → M9 p q = M p q := by
      intro p q h1 h2 h3 h4 h5
      rw [hM9, w_off (by omega)]
      by_cases h12 : p = 12
      · subst h12
        rw [cpR_12, if_neg (by omega), ml_w_ne (by decide), m1]
      · rw [cpR_o h12, w_off (by omega), hM1, w_off h3, w_off h2, d4 p h1]
    refine ⟨M9, ⟨0, nI L.length, M1, M9, ?_, ?_, ?_, fun _ => ?_⟩, sI.mono (n := n) ⟨?_, ⟨0, nx, by decide, hn, ?_, ?_, ?_, fun k hk1 hk2 => by omega⟩, hs.2.2.1.of (fun p q hp => k9 p q (by omega) (by omega) (by omega) (by omega) (by omega)), hs.2.2.2.1.of (fun p q hp => k9 p q (by omega) (by omega) (by omega) (by omega) (by omega)), hs.2.2.2.2.1.of (fun p q hp => k9 p q (by omega) (by omega) (by omega) (by omega) (by omega)), hs.2.2.2.2.2.of (fun p q hp => k9 p q (by omega) (by omega) (by omega) (by omega) (by omega))⟩ (Nat.le_add_right n 60)⟩
    · unfold fL_restore fX6_restore
      have e5 : ml_w C0 1 2 0 (ml_fl 0 + 5) 0 = nI L.length := by
        rw [w_off (by unfold ml_fl; omega), d2.2.2.2.2.2.1 0 (by decide)]
        exact hC.1
      rw [s1, if_neg (by decide), d1, bd_e, lt_e, e5, hM1]
      rfl
    · unfold fX7_restore
      have e11 : M1 11 3 = 1 := by rw [hM1, ml_w_ne (by decide), ml_w_ne (by decide), d4 11 (by omega)]; exact s2
      have e6 : ml_w (cpR (ml_w M1 11 0 0) 9 0) 11 2 0 12 6 = nI L.length := by
        rw [ml_w_ne (by decide), cpR_12, if_pos ⟨by omega, by omega⟩, ml_w_ne (by decide), m1]
        exact hM.1
      rw [e11, fine1, bd_e, if_1, e9, bd_e, lt_e, e6, hM9]
    · rw [th_m, hM9, w_off (by omega), cpR_o (by decide), w_at]
    · rw [hM9, w_off (by omega), cpR_o (by decide), w_off (by omega), hM1, w_at]
    · have a1 : fk n C0 0 (row 9 M) := fk.cp hk d2
      refine (a1.ofc (fun o ho => ?_)).ofm (fun q hq => ?_)
      · rw [hM9, ml_w_ne (by omega), cpR_o (by omega), ml_w_ne (by omega), hM1, ml_w_ne (by omega), ml_w_ne (by omega)]
      · rw [row_12, hM9, ml_w_ne (by decide), cpR_12, if_pos ⟨by omega, by omega⟩, ml_w_ne (by decide), m1]
        exact congrArg (M 12) (by omega)
    · rw [k9 1 1 (by omega) (by omega) (by omega) (by omega) (by omega)]
      exact h1
    · rw [hM9, w_off (by omega), cpR_o (by decide), w_off (by omega), hM1, w_off (by omega), w_at]
      rfl
    · rw [hM9, w_at]
      rfl
/-- the latest change is taken back -/
theorem z_50 {n : Nat} (x1 x2 x3 : Int32) {M : ml_M} (hs : sI n M) : ∃ M9, lw_s50 x1 x2 x3 M M9 ∧ sI (n + 60) M9 := by
  obtain ⟨h, nx, hh, hn, h1, h2, h3, hold⟩ := id hs.2.1
  by_cases hz : h = 0
  · subst hz
    refine ⟨ml_w M 11 0 1, ⟨1, 0, M, ml_w M 11 0 1, ?_, ?_, by rw [th_m, w_at], fun z => absurd z (by decide)⟩, (hs.scr eqS.thr).mono (Nat.le_add_right n 60)⟩
    · unfold fL_undo fX6_undo
      rw [h2]
      rfl
    · unfold fX7_undo
      rw [h3, jn_e, if_pos (by decide)]
      dsimp only
      rw [fine0, bd_e, if_0]
  · obtain ⟨s, hsl⟩ : ∃ s, s = (nx + 7) % 8 := ⟨_, rfl⟩
    have hs8 : s < 8 := by omega
    have hk := hold h (by omega) (Nat.le_refl _)
    rw [Nat.sub_self, Nat.sub_zero, ← hsl] at hk
    obtain ⟨C0, d1, d2, d3⟩ := cpF (i := 0) (j := 3 + s) (by omega) (ml_w M 1 1 (nI s))
    have f0 : ml_fl 0 = 16 := rfl
    have d4 : ∀ k, (k < 16 ∨ 31 ≤ k) → C0 k = ml_w M 1 1 (nI s) k := fun k hk => d3 k (by omega)
    obtain ⟨M1, hM1⟩ : ∃ z, z = ml_w (ml_w C0 1 2 (nI (h - 1))) 181 0 (nI (h - 1)) := ⟨_, rfl⟩
    have m1 : M1 12 = M 12 := by rw [hM1, ml_w_ne (by decide), ml_w_ne (by decide), d4 12 (by omega), ml_w_ne (by decide)]
    have m11 : M1 11 = M 11 := by rw [hM1, ml_w_ne (by decide), ml_w_ne (by decide), d4 11 (by omega), ml_w_ne (by decide)]
    obtain ⟨M9, hM9⟩ : ∃ z, z = ml_w (cpR (ml_w M1 11 0 0) h 0) 11 2 (nI (h - 1)) := ⟨_, rfl⟩
    have k9 : ∀ p q, (p < 16 ∨ 31 ≤ p) → ¬ (p = 1 ∧ (q = 1 ∨ q = 2)) → ¬ (p = 181 ∧ q = 0) → ¬ (p = 11 ∧ (q = 0 ∨ q = 2)) → ¬ (p = 12 ∧ q < 80) → M9 p q = M p q := by
      intro p q h1 h2 h3 h4 h5
      rw [hM9, w_off (by omega)]
      by_cases h12 : p = 12
      · subst h12
        rw [cpR_12, if_neg (by omega), ml_w_ne (by decide), m1]
      · rw [cpR_o h12, w_off (by omega), hM1, w_off h3, w_off (by omega), d4 p h1, w_off (by omega)]
    have eh : nI h - 1 = nI (h - 1) := pk_sub (b := 1) (by omega)
    refine ⟨M9, ⟨0, nI (h - 1), M1, M9, ?_, ?_, ?_, fun _ => ?_⟩, sI.mono (n := n) ⟨?_, ⟨h - 1, s, by omega, hs8, ?_, ?_, ?_, fun k hk1 hk2 => ?_⟩, hs.2.2.1.of (fun p q hp => k9 p q (by omega) (by omega) (by omega) (by omega) (by omega)), hs.2.2.2.1.of (fun p q hp => k9 p q (by omega) (by omega) (by omega) (by omega) (by omega)), hs.2.2.2.2.1.of (fun p q hp => k9 p q (by omega) (by omega) (by omega) (by omega) (by omega)), hs.2.2.2.2.2.of (fun p q hp => k9 p q (by omega) (by omega) (by omega) (by omega) (by omega))⟩ (Nat.le_add_right n 60)⟩
    · unfold fL_undo fX6_undo fX3_popInto
      have e8 : nI nx + 8 - 1 = nI (nx + 7) := by
        have : nI nx + 8 = nI (nx + 8) := nI_add nx 8
        rw [this]
        exact pk_sub (a := nx + 8) (b := 1) (by omega)
      have e7 : nI (nx + 7) - nI (nx + 7) / 8 * 8 = nI s := by rw [hsl]; exact pk_rem (d := 8) (by omega) (by decide) (by decide)
      have c12 : C0 1 2 = nI h := by rw [d4 1 (by omega), w_un (by decide)]; exact h2
      rw [h2, if_neg (nI_ne0 (by omega) (by omega)), h1, e8, e7, lt_e, w_at, if_pos (ok_nI hs8 (by decide)), nI_clamp (by omega), d1, bd_e, lt_e, c12, eh, bd_e, w_at, hM1]
      rfl
    · unfold fX7_undo
      have e0 : ¬ nI h ≤ 0 := nI_nle (by omega) (by omega)
      rw [m11, h3, jn_e, if_neg e0]
      dsimp only
      have q2 : ml_w M1 11 0 0 11 2 = nI h := by rw [w_un (by decide), m11]; exact h3
      have ec : fX7_copies (nI h) 0 (ml_w M1 11 0 0) = some (.inl 0, cpR (ml_w M1 11 0 0) h 0) := cp_m (a := h) (b := 0) (by omega) (by decide) hz _
      rw [fine1, bd_e, if_1, q2, ec, bd_e, lt_e, cpR_o (by decide), q2, eh, w_at, hM9]
    · rw [th_m, hM9, w_off (by omega), cpR_o (by decide), w_at]
    · rw [hM9, w_off (by omega), cpR_o (by decide), w_off (by omega), hM1, w_at]
    · have a0 : fk n (ml_w M 1 1 (nI s)) (3 + s) (row h M) := fk.ofc hk (fun o ho => ml_w_ne (by unfold ml_fl; omega))
      have a1 : fk n C0 0 (row h M) := a0.cp d2
      refine (a1.ofc (fun o ho => ?_)).ofm (fun q hq => ?_)
      · rw [hM9, ml_w_ne (by omega), cpR_o (by omega), ml_w_ne (by omega), hM1, ml_w_ne (by omega), ml_w_ne (by omega)]
      · rw [row_12, hM9, ml_w_ne (by decide), cpR_12, if_pos ⟨by omega, by omega⟩, ml_w_ne (by decide), m1]
        exact congrArg (M 12) (by omega)
    · rw [hM9, w_off (by omega), cpR_o (by decide), w_off (by omega), hM1, w_off (by omega), w_off (by omega), d4 1 (by omega), w_at]
    · rw [hM9, w_off (by omega), cpR_o (by decide), w_off (by omega), hM1, w_off (by omega), w_at]
    · rw [hM9, w_at]
    · have e : (s + 7 - (h - 1 - k)) % 8 = (nx + 7 - (h - k)) % 8 := by omega
      rw [e]
      have hkk := hold k hk1 (by omega)
      have hlt : (nx + 7 - (h - k)) % 8 < 8 := Nat.mod_lt _ (by decide)
      refine fkr.of hkk (fun o ho => ?_) (fun q hq => ?_)
      · exact funext (fun q => k9 _ q (by unfold ml_fl; omega) (by unfold ml_fl; omega) (by unfold ml_fl; omega) (by unfold ml_fl; omega) (by unfold ml_fl; omega))
      · exact k9 12 _ (by omega) (by omega) (by omega) (by omega) (by omega)
