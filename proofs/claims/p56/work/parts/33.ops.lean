/-! The seven changes: fault and answer, on a flight and on the row. -/
theorem wl_l {i : Nat} {mk : Nat → Int32} (a0 : Int32) : ∀ (t : Nat) (L : List fb) (Mc Mm : ml_M) (s g n : Nat), rQ Mc i Mm mk L → Mm 11 4 = nI g → s + t ≤ 200 → t < n → ∃ (Mc' Mm' : ml_M) (L' : List fb) (gn : Nat), (∀ b0 m x2, fX2_passMinutes_l i b0 (m + 6 * t) 0 (nI (s + t)) (nI x2) (nI s) 0 Mc = fX2_passMinutes_l i b0 m 0 (nI (s + t)) (nI (x2 + gn)) (nI (s + t)) 0 Mc') ∧ fX7_waits_l a0 n (nI (s + t)) (nI s) Mm = some (.inl 0, Mm') ∧ Mm' 11 4 = nI (g + gn) ∧ rQ Mc' i Mm' mk L' ∧ (tg L').Sublist (tg L) ∧ fF i Mc Mc' ∧ oM Mm Mm' := by
  intro t
  induction t with
  | zero =>
    intro L Mc Mm s g n h hg hs hn
    obtain ⟨n, rfl⟩ : ∃ z, n = z + 1 := ⟨n - 1, by omega⟩
    refine ⟨Mc, Mm, L, 0, fun b0 m x2 => rfl, ?_, hg, h, List.Sublist.refl _, fF.rf, oM.rf⟩
    show fX7_waits_s0 a0 (fX7_waits_l a0 n) (nI s) (nI s) Mm = _
    unfold fX7_waits_s0
    rw [if_pos (Int32.le_refl _)]
  | succ t ih =>
    intro L Mc Mm s g n h hg hs hn
    obtain ⟨n, rfl⟩ : ∃ z, n = z + 1 := ⟨n - 1, by omega⟩
    obtain ⟨C1, R1, L1, g1, a1, a2, a3, a4, a5, a6, a7⟩ := minute h
    obtain ⟨C2, R2, L2, g2, b1, b2, b3, b4, b5, b6, b7⟩ := ih L1 C1 (ml_w R1 11 4 (nI (g + g1))) (s + 1) (g + g1) n (a3.ofm (fun q hq => by rw [ml_w_ne (by decide)])) w_at (by omega) (by omega)
    rw [show s + 1 + t = s + (t + 1) by omega] at b1 b2
    refine ⟨C2, R2, L2, g1 + g2, fun b0 m x2 => ?_, ?_, by rw [b3]; exact congrArg nI (by omega), b4, b5.trans a5, a6.tr b6, a7.oM.tr (oM.rf.w4.tr b7)⟩
    · rw [show m + 6 * (t + 1) = (m + 6 * t) + 6 by omega, a1 b0 _ _ x2 s (by omega) (by omega), b1 b0 m (x2 + g1), show x2 + g1 + g2 = x2 + (g1 + g2) by omega]
    · rw [← b2]
      show fX7_waits_s0 a0 (fX7_waits_l a0 n) (nI (s + (t + 1))) (nI s) Mm = _
      unfold fX7_waits_s0 ml_lt
      rw [if_neg (fun z => by have := (nI_leI (by omega) (by omega)).mp z; omega), a2, bd_l, hg, nI_add, nI_1]
theorem fo_w {i : Nat} {a b : Int32} {M : ml_M} : fX2_faultOf i 119 a b M = (if a < 1 then some (.inl 2, M) else if a ≤ 200 then some (.inl 0, M) else some (.inl 2, M)) := rfl
theorem ac_w {i : Nat} {a b c : Int32} {M : ml_M} : fX2_act i 119 a b c M = ml_bd (fX2_passMinutes i a M) (fun r M25 => some (.inl r, M25)) := rfl
theorem nlt_of {a : Int32} (h : ¬ a < 1) : ¬ a < 0 := fun z => h (by
  rw [Int32.lt_iff_toInt_lt] at z ⊢
  have e0 : (0 : Int32).toInt = 0 := by decide
  have e1 : (1 : Int32).toInt = 1 := by decide
  omega)
theorem op_w {n i : Nat} {Mc Mm : ml_M} (a b c : Int32) (h : fk n Mc i Mm) : opR (fun c => c = 0 ∨ c = 2) n i Mc Mm (fX2_faultOf i 119 a b Mc) (fX2_act i 119 a b c Mc) (fX7_waits a Mm) := by
  obtain ⟨L, ad, hQ, ha, han, hnd, hlt⟩ := id h
  unfold fX7_waits
  rw [in_m, bd_l, fo_w, ac_w]
  by_cases h1 : a < 1
  · refine ⟨2, Mm, Or.inr rfl, by decide, by rw [if_pos h1]; rfl, ?_, Or.inl ⟨by decide, rfl⟩⟩
    rw [if_pos h1, if_pos rfl]
    rfl
  obtain ⟨t, ht, rfl⟩ := nI_of (nlt_of h1)
  rw [if_neg h1, if_neg h1]
  have ht1 : 1 ≤ t := by
    rcases Nat.eq_zero_or_pos t with h0 | h0
    · exact absurd ((nI_ltI (b := 1) ht (by decide)).mpr (by omega)) h1
    · exact h0
  by_cases h2 : t ≤ 200
  · have k1 : nI t ≤ 200 := (nI_leI (b := 200) ht (by decide)).mpr h2
    have k2 : ¬ (200 : Int32) < nI t := fun z => by
      have := (nI_ltI (a := 200) (by decide) ht).mp z
      omega
    obtain ⟨C, R, L', gn, e1, e2, e3, e4, e5, e6, e7⟩ := wl_l (nI t) t L Mc (ml_w Mm 11 4 0) 0 0 ml_fuel (hQ.ofm (fun q hq => by rw [ml_w_ne (by decide)])) w_at (by omega) (by unfold ml_fuel; omega)
    rw [Nat.zero_add] at e2 e3
    refine ⟨0, R, Or.inl rfl, by decide, by rw [if_pos k1]; rfl, ?_, Or.inr ⟨rfl, oM.rf.w4.tr e7, C, ?_, ⟨L', ad, e4, by rw [e6.2 1 (by decide)]; exact ha, han, List.Pairwise.sublist e5 hnd, fun t ht => hlt t (e5.subset ht)⟩, e6.1⟩⟩
    · rw [if_neg k2, if_neg (by decide), lt_l]
      exact e2
    · have e : fX2_passMinutes i (nI t) Mc = some (.inl (nI gn), C) := by
        unfold fX2_passMinutes
        have e9 := e1 (nI t) (ml_fuel - 6 * t) 0
        rw [Nat.zero_add, Nat.zero_add, show ml_fuel - 6 * t + 6 * t = ml_fuel by unfold ml_fuel; omega] at e9
        refine e9.trans ?_
        obtain ⟨z, hz⟩ : ∃ z, ml_fuel - 6 * t = z + 1 := ⟨ml_fuel - 6 * t - 1, by unfold ml_fuel; omega⟩
        rw [hz]
        show fX2_passMinutes_s0 i (nI t) (fX2_passMinutes_l i (nI t) z) (nI t) (nI gn) (nI t) 0 C = _
        unfold fX2_passMinutes_s0
        rw [if_pos (Int32.le_refl _)]
      rw [e, bd_l, e3]
  · have k1 : ¬ nI t ≤ 200 := fun z => h2 ((nI_leI (b := 200) ht (by decide)).mp z)
    have k2 : (200 : Int32) < nI t := (nI_ltI (a := 200) (by decide) ht).mpr (by omega)
    refine ⟨2, Mm, Or.inr rfl, by decide, by rw [if_neg k1]; rfl, ?_, Or.inl ⟨by decide, rfl⟩⟩
    rw [if_pos k2, if_pos rfl]
    rfl
/-- rain and drain -/
theorem fo_r {i : Nat} {a b : Int32} {M : ml_M} : fX2_faultOf i 114 a b M = (if a < 0 then some (.inl 2, M) else if a ≤ 9 then some (.inl 0, M) else some (.inl 2, M)) := rfl
theorem fo_d {i : Nat} {a b : Int32} {M : ml_M} : fX2_faultOf i 100 a b M = (if a < 0 then some (.inl 2, M) else if a ≤ 9 then some (.inl 0, M) else some (.inl 2, M)) := rfl
theorem ac_r {i : Nat} {a b c : Int32} {M : ml_M} : fX2_act i 114 a b c M = some (.inl (M (ml_fl i + 1) 3), ml_w M (ml_fl i + 1) 3 a) := rfl
theorem ac_d {i : Nat} {a b c : Int32} {M : ml_M} : fX2_act i 100 a b c M = some (.inl (M (ml_fl i + 1) 4), ml_w M (ml_fl i + 1) 4 a) := rfl
theorem we_m {w : Nat} (hw : w < 80) {a : Int32} {M : ml_M} : fX7_weather (nI w) a M = if a < 0 then some (.inl 2, M) else if 9 < a then some (.inl 2, M) else some (.inl 0, ml_w (ml_w M 11 4 (M 12 w)) 12 w a) := by
  unfold fX7_weather ml_lt
  rw [in_m, bd_l]
  by_cases h1 : a < 0
  · rw [if_pos h1, if_pos h1, if_pos rfl]
  · rw [if_neg h1, if_neg h1]
    by_cases h2 : 9 < a
    · rw [if_pos h2, if_pos h2, if_pos rfl]
    · rw [if_neg h2, if_neg h2, if_neg (by decide), if_pos (ok_nI (by omega) (by decide))]
      dsimp only
      rw [if_pos (ok_nI (by omega) (by decide)), nI_clamp (by omega)]
theorem fk.wat {n : Nat} {Mc Mc' Mm Mm' : ml_M} {i : Nat} (h : fk n Mc i Mm) (hA : ∀ v o g r d, rA Mc i Mm v o g r d → ∃ v o g r d, rA Mc' i Mm' v o g r d) (k0 : Mc' (ml_fl i) = Mc (ml_fl i)) (k1 : ∀ q, 5 ≤ q → Mc' (ml_fl i + 1) q = Mc (ml_fl i + 1) q) (k2 : Mc' (ml_fl i + 2) = Mc (ml_fl i + 2)) (kb : ∀ o, 5 ≤ o → o < 15 → Mc' (ml_fl i + o) = Mc (ml_fl i + o)) (km : ∀ q, (q = 0 ∨ 3 ≤ q ∧ q < 16 ∨ 24 ≤ q) → Mm' 12 q = Mm 12 q) : fk n Mc' i Mm' := by
  obtain ⟨L, a, h1, h2, h3⟩ := h
  obtain ⟨v, o, g, r, d, hW⟩ := h1.1
  exact ⟨L, a, h1.wat (hA v o g r d hW.1) k0 k1 k2 kb km, by rw [kb 5 (by decide) (by decide)]; exact h2, h3⟩
theorem op_r {n i : Nat} {Mc Mm : ml_M} (a b c : Int32) (h : fk n Mc i Mm) : opR (fun c => c = 0 ∨ c = 2) n i Mc Mm (fX2_faultOf i 114 a b Mc) (fX2_act i 114 a b c Mc) (fX7_weather 1 a Mm) := by
  rw [show (1 : Int32) = nI 1 from rfl, we_m (by decide), fo_r, ac_r]
  rcases rg a 10 (by decide) with ⟨k, hk, rfl⟩ | h1 | ⟨h1, h9⟩
  · have p0 : ¬ nI k < 0 := nI_pos (by omega)
    have p1 : nI k ≤ 9 := (nI_leI (b := 9) (by omega) (by decide)).mpr (by omega)
    have p2 : ¬ (9 : Int32) < nI k := fun z => by
      have := (nI_ltI (a := 9) (by decide) (by omega)).mp z
      omega
    rw [if_neg p0, if_pos p1, if_neg p0, if_neg p2]
    obtain ⟨L, ad, hQ, -⟩ := id h
    obtain ⟨v, o, g, r, d, hA, -⟩ := hQ.1
    have e : Mc (ml_fl i + 1) 3 = Mm 12 1 := hA.2.2.2.2.1.1.trans hA.2.2.2.2.1.2.2.symm
    refine ⟨0, _, Or.inl rfl, by decide, rfl, rfl, Or.inr ⟨rfl, oM.rf.w4.w (by decide), ml_w Mc (ml_fl i + 1) 3 (nI k), ?_, h.wat (fun v o g r d hA => ?_) ?_ (fun q hq => ?_) ?_ (fun o h5 h15 => ?_) (fun q hq => ?_), fun k2 hk2 => ml_w_ne (by omega)⟩⟩
    · rw [ml_w_ne (by decide), w_at, e]
    · obtain ⟨hv, hV, hO, hG, ⟨hr1, hr9, hr2⟩, ⟨hd1, hd9, hd2⟩⟩ := hA
      refine ⟨v, o, g, k, d, by rw [ml_w_ne (by omega)]; exact hv, fun j hj => by rw [w_un (by omega), ml_w_ne (by decide)]; exact hV j hj, fun j hj => by rw [ml_w_ne (by omega), w_un (by omega), ml_w_ne (by decide)]; exact hO j hj, fun j hj => by rw [ml_w_ne (by omega), w_un (by omega), ml_w_ne (by decide)]; exact hG j hj, ⟨w_at, by omega, w_at⟩, ⟨by rw [w_un (by decide)]; exact hd1, hd9, by rw [w_un (by decide), ml_w_ne (by decide)]; exact hd2⟩⟩
    · exact ml_w_ne (by omega)
    · exact w_un (by omega)
    · exact ml_w_ne (by omega)
    · exact ml_w_ne (by omega)
    · rw [w_un (by omega), ml_w_ne (by decide)]
  · exact ⟨2, Mm, Or.inr rfl, by decide, by rw [if_pos h1]; rfl, by rw [if_pos h1]; rfl, Or.inl ⟨by decide, rfl⟩⟩
  · obtain ⟨j, hj, rfl⟩ := nI_of h1
    have h5 := (nI_leI (a := 10) (by decide) hj).mp h9
    have p1 : ¬ nI j ≤ 9 := fun z => by
      have := (nI_leI (b := 9) hj (by decide)).mp z
      omega
    have p2 : (9 : Int32) < nI j := (nI_ltI (a := 9) (by decide) hj).mpr (by omega)
    exact ⟨2, Mm, Or.inr rfl, by decide, by rw [if_neg h1, if_neg p1]; rfl, by rw [if_neg h1, if_pos p2]; rfl, Or.inl ⟨by decide, rfl⟩⟩
theorem op_d {n i : Nat} {Mc Mm : ml_M} (a b c : Int32) (h : fk n Mc i Mm) : opR (fun c => c = 0 ∨ c = 2) n i Mc Mm (fX2_faultOf i 100 a b Mc) (fX2_act i 100 a b c Mc) (fX7_weather 2 a Mm) := by
  rw [show (2 : Int32) = nI 2 from rfl, we_m (by decide), fo_d, ac_d]
  rcases rg a 10 (by decide) with ⟨k, hk, rfl⟩ | h1 | ⟨h1, h9⟩
  · have p0 : ¬ nI k < 0 := nI_pos (by omega)
    have p1 : nI k ≤ 9 := (nI_leI (b := 9) (by omega) (by decide)).mpr (by omega)
    have p2 : ¬ (9 : Int32) < nI k := fun z => by
      have := (nI_ltI (a := 9) (by decide) (by omega)).mp z
      omega
    rw [if_neg p0, if_pos p1, if_neg p0, if_neg p2]
    obtain ⟨L, ad, hQ, -⟩ := id h
    obtain ⟨v, o, g, r, d, hA, -⟩ := hQ.1
    have e : Mc (ml_fl i + 1) 4 = Mm 12 2 := hA.2.2.2.2.2.1.trans hA.2.2.2.2.2.2.2.symm
    refine ⟨0, _, Or.inl rfl, by decide, rfl, rfl, Or.inr ⟨rfl, oM.rf.w4.w (by decide), ml_w Mc (ml_fl i + 1) 4 (nI k), ?_, h.wat (fun v o g r d hA => ?_) ?_ (fun q hq => ?_) ?_ (fun o h5 h15 => ?_) (fun q hq => ?_), fun k2 hk2 => ml_w_ne (by omega)⟩⟩
    · rw [ml_w_ne (by decide), w_at, e]
    · obtain ⟨hv, hV, hO, hG, ⟨hr1, hr9, hr2⟩, ⟨hd1, hd9, hd2⟩⟩ := hA
      refine ⟨v, o, g, r, k, by rw [ml_w_ne (by omega)]; exact hv, fun j hj => by rw [w_un (by omega), ml_w_ne (by decide)]; exact hV j hj, fun j hj => by rw [ml_w_ne (by omega), w_un (by omega), ml_w_ne (by decide)]; exact hO j hj, fun j hj => by rw [ml_w_ne (by omega), w_un (by omega), ml_w_ne (by decide)]; exact hG j hj, ⟨by rw [w_un (by decide)]; exact hr1, hr9, by rw [w_un (by decide), ml_w_ne (by decide)]; exact hr2⟩, ⟨w_at, by omega, w_at⟩⟩
    · exact ml_w_ne (by omega)
    · exact w_un (by omega)
    · exact ml_w_ne (by omega)
    · exact ml_w_ne (by omega)
    · rw [w_un (by omega), ml_w_ne (by decide)]
  · exact ⟨2, Mm, Or.inr rfl, by decide, by rw [if_pos h1]; rfl, by rw [if_pos h1]; rfl, Or.inl ⟨by decide, rfl⟩⟩
  · obtain ⟨j, hj, rfl⟩ := nI_of h1
    have h5 := (nI_leI (a := 10) (by decide) hj).mp h9
    have p1 : ¬ nI j ≤ 9 := fun z => by
      have := (nI_leI (b := 9) hj (by decide)).mp z
      omega
    have p2 : (9 : Int32) < nI j := (nI_ltI (a := 9) (by decide) hj).mpr (by omega)
    exact ⟨2, Mm, Or.inr rfl, by decide, by rw [if_neg h1, if_neg p1]; rfl, by rw [if_neg h1, if_pos p2]; rfl, Or.inl ⟨by decide, rfl⟩⟩
/-- the valve -/
theorem fo_v {i : Nat} {a b : Int32} {M : ml_M} : fX2_faultOf i 118 a b M = ml_bd (fX2_faultOfValve i a b M) (fun r19 M20 => some (.inl r19, M20)) := rfl
theorem ac_v {i : Nat} {a b c : Int32} {M : ml_M} : fX2_act i 118 a b c M = ml_bd (fX2_turnValve i a b M) (fun r22 M23 => some (.inl r22, M23)) := rfl
theorem op_v {n i : Nat} {Mc Mm : ml_M} (a b c : Int32) (h : fk n Mc i Mm) : opR (fun c => c = 0 ∨ c = 1 ∨ c = 2) n i Mc Mm (fX2_faultOf i 118 a b Mc) (fX2_act i 118 a b c Mc) (fX7_turns a b Mm) := by
  rw [fo_v, ac_v]
  unfold fX2_faultOfValve fX7_turns
  rcases gcase a with ⟨k, hk, rfl⟩ | hg
  · rw [gt_c1 hk, gt_m1 hk, bd_l, bd_l, if_neg (by decide), if_neg (by decide), in_m, bd_l]
    unfold ml_jn
    dsimp only
    rcases rg b 4 (by decide) with ⟨s, hs, rfl⟩ | h1 | ⟨h1, h9⟩
    · have p0 : ¬ nI s < 0 := nI_pos (by omega)
      have p1 : nI s ≤ 3 := (nI_leI (b := 3) (by omega) (by decide)).mpr (by omega)
      have p2 : ¬ (3 : Int32) < nI s := fun z => by
        have := (nI_ltI (a := 3) (by decide) (by omega)).mp z
        omega
      have e1 : (16 : Int32) + nI k = nI (16 + k) := nIl 16 k
      obtain ⟨L, ad, hQ, -⟩ := id h
      obtain ⟨v, o, g, r, d, hA, -⟩ := hQ.1
      have e : Mc (ml_fl i + 3) k = Mm 12 (16 + k) := (hA.2.2.1 k hk).1.trans (hA.2.2.1 k hk).2.2.symm
      have ok4 : ml_ok (nI k) 4 := ok_nI hk (by decide)
      have ok9 : ml_ok (nI (16 + k)) 960 := ok_nI (by omega) (by decide)
      rw [if_neg p0, if_pos p1, if_neg p0, if_neg p2, if_neg (show ¬ (1 : Int32) = 0 by decide), e1, if_pos ok9]
      unfold fX2_turnValve
      have cl1 : (nI k).toNatClampNeg = k := nI_clamp (by omega)
      have cl2 : (nI (16 + k)).toNatClampNeg = 16 + k := nI_clamp (by omega)
      simp only [lt_e, if_pos ok4, if_pos ok9, cl1, cl2, bd_e]
      refine ⟨0, _, Or.inl rfl, by decide, rfl, rfl, Or.inr ⟨rfl, oM.rf.w4.w (by omega), ml_w Mc (ml_fl i + 3) k (nI s), ?_, h.wat (fun v o g r d hA => ?_) ?_ (fun q hq => ?_) ?_ (fun o h5 h15 => ?_) (fun q hq => ?_), fun k2 hk2 => ml_w_ne (by omega)⟩⟩
      · rw [ml_w_ne (by decide), w_at, ← e]
      · obtain ⟨hv, hV, hO, hG, ⟨hr1, hr9, hr2⟩, ⟨hd1, hd9, hd2⟩⟩ := hA
        refine ⟨v, fun j => if j = k then s else o j, g, r, d, by rw [ml_w_ne (by omega)]; exact hv, fun j hj => by rw [w_un (by omega), ml_w_ne (by decide)]; exact hV j hj, fun j hj => ?_, fun j hj => by rw [ml_w_ne (by omega), w_un (by omega), ml_w_ne (by decide)]; exact hG j hj, ⟨by rw [ml_w_ne (by omega)]; exact hr1, hr9, by rw [w_un (by omega), ml_w_ne (by decide)]; exact hr2⟩, ⟨by rw [ml_w_ne (by omega)]; exact hd1, hd9, by rw [w_un (by omega), ml_w_ne (by decide)]; exact hd2⟩⟩
        dsimp only
        by_cases hjk : j = k
        · subst hjk
          rw [w_at, w_at, if_pos rfl]
          exact ⟨rfl, by omega, rfl⟩
        · rw [w_un hjk, w_un (by omega), if_neg hjk, ml_w_ne (by decide)]
          exact hO j hj
      · exact ml_w_ne (by omega)
      · rw [ml_w_ne (by omega)]
      · exact ml_w_ne (by omega)
      · exact ml_w_ne (by omega)
      · rw [w_un (by omega), ml_w_ne (by decide)]
    · exact ⟨2, Mm, Or.inr (Or.inr rfl), by decide, by rw [if_pos h1]; rfl, by rw [if_pos h1, if_pos rfl]; rfl, Or.inl ⟨by decide, rfl⟩⟩
    · obtain ⟨j, hj, rfl⟩ := nI_of h1
      have h5 := (nI_leI (a := 4) (by decide) hj).mp h9
      have p1 : ¬ nI j ≤ 3 := fun z => by
        have := (nI_leI (b := 3) hj (by decide)).mp z
        omega
      have p2 : (3 : Int32) < nI j := (nI_ltI (a := 3) (by decide) hj).mpr (by omega)
      exact ⟨2, Mm, Or.inr (Or.inr rfl), by decide, by rw [if_neg h1, if_neg p1]; rfl, by rw [if_neg h1, if_pos p2, if_pos rfl]; rfl, Or.inl ⟨by decide, rfl⟩⟩
  · rw [(hg Mc).1, (hg Mm).2, bd_l, bd_l, if_pos rfl, if_pos rfl]
    exact ⟨1, Mm, Or.inr (Or.inl rfl), by decide, rfl, rfl, Or.inl ⟨by decide, rfl⟩⟩
/-- the open gates' count -/
theorem og_c {i : Nat} {M : ml_M} {g : Nat → Nat} (hG : ∀ j, j < 4 → M (ml_fl i + 4) j = nI (g j) ∧ g j ≤ 1) : fX5_openGateCount i M = some (.inl (nI (g 0 + g 1 + g 2 + g 3)), M) := by
  have st : ∀ a c n, a < 4 → fX5_openGateCount_l i (n + 1) (nI c) (nI a) M = fX5_openGateCount_l i n (nI (c + g a)) (nI (a + 1)) M := by
    intro a c n ha
    show fX5_openGateCount_s0 i (fX5_openGateCount_l i n) (nI c) (nI a) M = _
    unfold fX5_openGateCount_s0 ml_jn
    rw [if_neg (fun z => by have := (nI_leI (a := 4) (b := a) (by decide) (by omega)).mp z; omega), if_pos (ok_nI ha (by decide)), nI_clamp (by omega), (hG a ha).1]
    dsimp only
    rcases (show g a = 0 ∨ g a = 1 by have := (hG a ha).2; omega) with h | h <;> rw [h]
    · rw [if_pos (show nI 0 = 0 from rfl), nI_1]
      exact congrArg (fun z => fX5_openGateCount_l i n z (nI (a + 1)) M) (nI_add c 0)
    · rw [if_neg (show ¬ nI 1 = 0 by decide), nI_1, nI_1]
  unfold fX5_openGateCount
  obtain ⟨z, hz⟩ : ∃ z, ml_fuel = z + 5 := ⟨ml_fuel - 5, by unfold ml_fuel; omega⟩
  rw [hz]
  refine (st 0 0 (z + 4) (by decide)).trans ((st 1 _ (z + 3) (by decide)).trans ((st 2 _ (z + 2) (by decide)).trans ((st 3 _ (z + 1) (by decide)).trans ?_)))
  show fX5_openGateCount_s0 i (fX5_openGateCount_l i z) _ (nI 4) M = _
  unfold fX5_openGateCount_s0
  rw [if_pos (by decide), Nat.zero_add]
theorem fo_o {i : Nat} {a b : Int32} {M : ml_M} : fX2_faultOf i 111 a b M = ml_bd (fX2_faultOfOpening i a M) (fun r9 M10 => some (.inl r9, M10)) := rfl
theorem ac_o {i : Nat} {a b c : Int32} {M : ml_M} : fX2_act i 111 a b c M = ml_bd (fX2_moveGate i a 1 M) (fun r13 M14 => some (.inl r13, M14)) := rfl
theorem fo_s {i : Nat} {a b : Int32} {M : ml_M} : fX2_faultOf i 115 a b M = ml_bd (fX2_faultOfShutting i a M) (fun r16 M17 => some (.inl r16, M17)) := rfl
theorem ac_s {i : Nat} {a b c : Int32} {M : ml_M} : fX2_act i 115 a b c M = ml_bd (fX2_moveGate i a 0 M) (fun r19 M20 => some (.inl r19, M20)) := rfl
/-- a gate moves on both sides -/
theorem mg {n i k w : Nat} {Mc Mm : ml_M} (hk : k < 4) (hw : w ≤ 1) (h : fk n Mc i Mm) : ∃ (r : Int32) (Mc' : ml_M), fX2_moveGate i (nI k) (nI w) Mc = some (.inl r, Mc') ∧ (ml_w Mm 12 (20 + k) (nI w)) 12 20 + (ml_w Mm 12 (20 + k) (nI w)) 12 21 + (ml_w Mm 12 (20 + k) (nI w)) 12 22 + (ml_w Mm 12 (20 + k) (nI w)) 12 23 = r ∧ fk n Mc' i (ml_w Mm 12 (20 + k) (nI w)) ∧ ∀ q, (q < ml_fl i ∨ ml_fl i + 15 ≤ q) → Mc' q = Mc q := by
  obtain ⟨L, ad, hQ, -⟩ := id h
  obtain ⟨v, o, g, r, d, hA, -⟩ := hQ.1
  have hG := hA.2.2.2.1
  have hG' : ∀ j, j < 4 → (ml_w Mc (ml_fl i + 4) k (nI w)) (ml_fl i + 4) j = nI ((fun j => if j = k then w else g j) j) ∧ (fun j => if j = k then w else g j) j ≤ 1 ∧ (ml_w Mm 12 (20 + k) (nI w)) 12 (20 + j) = nI ((fun j => if j = k then w else g j) j) := by
    intro j hj
    dsimp only
    by_cases hjk : j = k
    · subst hjk
      rw [w_at, w_at, if_pos rfl]
      exact ⟨rfl, hw, rfl⟩
    · rw [w_un hjk, w_un (by omega), if_neg hjk]
      exact hG j hj
  obtain ⟨g', hg'⟩ : ∃ z : Nat → Nat, z = fun j => if j = k then w else g j := ⟨_, rfl⟩
  rw [← hg'] at hG'
  refine ⟨nI (g' 0 + g' 1 + g' 2 + g' 3), ml_w Mc (ml_fl i + 4) k (nI w), ?_, ?_, h.wat (fun v o g0 r d hA => ?_) ?_ (fun q hq => ?_) ?_ (fun o h5 h15 => ?_) (fun q hq => ?_), fun k2 hk2 => ml_w_ne (by omega)⟩
  · unfold fX2_moveGate ml_lt
    rw [if_pos (ok_nI hk (by decide)), nI_clamp (by omega), nar_b hw]
    dsimp only
    rw [og_c (g := g') (fun j hj => ⟨(hG' j hj).1, (hG' j hj).2.1⟩), bd_l]
  · have q0 := (hG' 0 (by decide)).2.2
    have q1 := (hG' 1 (by decide)).2.2
    have q2 := (hG' 2 (by decide)).2.2
    have q3 := (hG' 3 (by decide)).2.2
    rw [show 20 + 0 = 20 from rfl] at q0
    rw [show 20 + 1 = 21 from rfl] at q1
    rw [show 20 + 2 = 22 from rfl] at q2
    rw [show 20 + 3 = 23 from rfl] at q3
    rw [q0, q1, q2, q3, nI_add, nI_add, nI_add]
  · obtain ⟨hv, hV, hO, hG9, ⟨hr1, hr9, hr2⟩, ⟨hd1, hd9, hd2⟩⟩ := hA
    exact ⟨v, o, g', r, d, by rw [ml_w_ne (by omega)]; exact hv, fun j hj => by rw [w_un (by omega)]; exact hV j hj, fun j hj => by rw [ml_w_ne (by omega), w_un (by omega)]; exact hO j hj, hG', ⟨by rw [ml_w_ne (by omega)]; exact hr1, hr9, by rw [w_un (by omega)]; exact hr2⟩, ⟨by rw [ml_w_ne (by omega)]; exact hd1, hd9, by rw [w_un (by omega)]; exact hd2⟩⟩
  · exact ml_w_ne (by omega)
  · rw [ml_w_ne (by omega)]
  · exact ml_w_ne (by omega)
  · exact ml_w_ne (by omega)
  · rw [w_un (by omega)]
theorem wq_congr {V W : Nat → Int32} {a : Nat} (h1 : V a = W a) (h2 : V (a + 1) = W (a + 1)) : wq V a = wq W a := by
  unfold wq wd
  rw [h1, h2]
theorem op_o {n i : Nat} {Mc Mm : ml_M} (a b c : Int32) (h : fk n Mc i Mm) : opR (fun c => c = 0 ∨ c = 1 ∨ c = 3 ∨ c = 4) n i Mc Mm (fX2_faultOf i 111 a b Mc) (fX2_act i 111 a b c Mc) (fX7_opens a Mm) := by
  rw [fo_o, ac_o]
  unfold fX2_faultOfOpening fX7_opens
  rcases gcase a with ⟨k, hk, rfl⟩ | hg
  · obtain ⟨L, ad, hQ, -⟩ := id h
    obtain ⟨v, o, g, r, d, hA, -⟩ := hQ.1
    obtain ⟨g1, g2, g3⟩ := hA.2.2.2.1 k hk
    have e1 : (20 : Int32) + nI k = nI (20 + k) := nIl 20 k
    have ok4 : ml_ok (nI k) 4 := ok_nI hk (by decide)
    have ok9 : ml_ok (nI (20 + k)) 960 := ok_nI (by omega) (by decide)
    have cl1 : (nI k).toNatClampNeg = k := nI_clamp (by omega)
    have cl2 : (nI (20 + k)).toNatClampNeg = 20 + k := nI_clamp (by omega)
    simp only [gt_c1 hk, gt_m1 hk, bd_e, lt_e, jn_e, if_1, if_pos ok4, e1, if_pos ok9, cl1, cl2, g1, g3, wq_c hk, wq_m hk]
    have ew : wq (fun j => Mm 12 (11 + j)) k = wq (Mc (ml_fl i + 2)) k := wq_congr ((hA.2.1 k (by omega)).trans (hA.1 k (by omega)).1.symm) ((hA.2.1 (k + 1) (by omega)).trans (hA.1 (k + 1) (by omega)).1.symm)
    rw [ew]
    rcases (show g k = 0 ∨ g k = 1 by omega) with h0 | h0 <;> rw [h0]
    · rw [if_pos (show nI 0 = 0 from rfl), if_neg (show ¬ nI 0 = 1 by decide)]
      by_cases hq : wq (Mc (ml_fl i + 2)) k = 0
      · rw [if_pos hq, if_pos hq]
        obtain ⟨r9, Mc', m1, m2, m3, m4⟩ := mg (w := 1) hk (by decide) h
        have m1' : fX2_moveGate i (nI k) 1 Mc = some (.inl r9, Mc') := m1
        rw [m1', bd_l]
        refine ⟨0, ml_w (ml_w Mm 12 (20 + k) 1) 11 4 r9, Or.inl rfl, by decide, rfl, ?_, Or.inr ⟨rfl, (oM.rf.w (by omega)).w4, Mc', by rw [w_at, bd_l], m3.ofm (fun q hq => by rw [ml_w_ne (by decide)]; rfl), m4⟩⟩
        unfold fX7_openGates
        rw [bd_l]
        have m2' : ml_w Mm 12 (20 + k) 1 12 20 + ml_w Mm 12 (20 + k) 1 12 21 + ml_w Mm 12 (20 + k) 1 12 22 + ml_w Mm 12 (20 + k) 1 12 23 = r9 := m2
        rw [m2']
        rfl
      · rw [if_neg hq, if_neg hq]
        exact ⟨4, Mm, Or.inr (Or.inr (Or.inr rfl)), by decide, rfl, rfl, Or.inl ⟨by decide, rfl⟩⟩
    · rw [if_neg (show ¬ nI 1 = 0 by decide), if_pos (show nI 1 = 1 from rfl)]
      exact ⟨3, Mm, Or.inr (Or.inr (Or.inl rfl)), by decide, rfl, rfl, Or.inl ⟨by decide, rfl⟩⟩
  · rw [(hg Mc).1, (hg Mm).2, bd_l, bd_l, if_pos rfl, if_pos rfl]
    exact ⟨1, Mm, Or.inr (Or.inl rfl), by decide, rfl, rfl, Or.inl ⟨by decide, rfl⟩⟩
theorem op_sh {n i : Nat} {Mc Mm : ml_M} (a b c : Int32) (h : fk n Mc i Mm) : opR (fun c => c = 0 ∨ c = 1 ∨ c = 3) n i Mc Mm (fX2_faultOf i 115 a b Mc) (fX2_act i 115 a b c Mc) (fX7_shuts a Mm) := by
  rw [fo_s, ac_s]
  unfold fX2_faultOfShutting fX7_shuts
  rcases gcase a with ⟨k, hk, rfl⟩ | hg
  · obtain ⟨L, ad, hQ, -⟩ := id h
    obtain ⟨v, o, g, r, d, hA, -⟩ := hQ.1
    obtain ⟨g1, g2, g3⟩ := hA.2.2.2.1 k hk
    have e1 : (20 : Int32) + nI k = nI (20 + k) := nIl 20 k
    have ok4 : ml_ok (nI k) 4 := ok_nI hk (by decide)
    have ok9 : ml_ok (nI (20 + k)) 960 := ok_nI (by omega) (by decide)
    have cl1 : (nI k).toNatClampNeg = k := nI_clamp (by omega)
    have cl2 : (nI (20 + k)).toNatClampNeg = 20 + k := nI_clamp (by omega)
    simp only [gt_c1 hk, gt_m1 hk, bd_e, lt_e, jn_e, if_1, if_pos ok4, e1, if_pos ok9, cl1, cl2, g1, g3]
    rcases (show g k = 0 ∨ g k = 1 by omega) with h0 | h0 <;> rw [h0]
    · rw [if_pos (show nI 0 = 0 from rfl), if_pos (show nI 0 = 0 from rfl)]
      exact ⟨3, Mm, Or.inr (Or.inr rfl), by decide, rfl, rfl, Or.inl ⟨by decide, rfl⟩⟩
    · rw [if_neg (show ¬ nI 1 = 0 by decide), if_neg (show ¬ nI 1 = 0 by decide)]
      obtain ⟨r9, Mc', m1, m2, m3, m4⟩ := mg (w := 0) hk (by decide) h
      have m1' : fX2_moveGate i (nI k) 0 Mc = some (.inl r9, Mc') := m1
      rw [m1', bd_l]
      refine ⟨0, ml_w (ml_w Mm 12 (20 + k) 0) 11 4 r9, Or.inl rfl, by decide, rfl, ?_, Or.inr ⟨rfl, (oM.rf.w (by omega)).w4, Mc', by rw [w_at, bd_l], m3.ofm (fun q hq => by rw [ml_w_ne (by decide)]; rfl), m4⟩⟩
      unfold fX7_openGates
      rw [bd_l]
      have m2' : ml_w Mm 12 (20 + k) 0 12 20 + ml_w Mm 12 (20 + k) 0 12 21 + ml_w Mm 12 (20 + k) 0 12 22 + ml_w Mm 12 (20 + k) 0 12 23 = r9 := m2
      rw [m2']
      rfl
  · rw [(hg Mc).1, (hg Mm).2, bd_l, bd_l, if_pos rfl, if_pos rfl]
    exact ⟨1, Mm, Or.inr (Or.inl rfl), by decide, rfl, rfl, Or.inl ⟨by decide, rfl⟩⟩
