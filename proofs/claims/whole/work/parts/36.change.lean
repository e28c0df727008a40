/-! A change: begin, act, end, on both sides. -/
theorem rf_0 (M : ml_M) : fX6_refuse (nI 0) M = some (.inl 0, M) := rfl
theorem rf_x {c : Nat} (h0 : c ≠ 0) (h4 : c ≤ 4) (M : ml_M) : fX6_refuse (nI c) M = some (.inr (if c = 4 then 5 else c), M) := by
  rcases (show c = 1 ∨ c = 2 ∨ c = 3 ∨ c = 4 by omega) with rfl | rfl | rfl | rfl <;> rfl
def cF (kind a b third : Int32) (M : ml_M) : Option ml_R := ml_bd (fX6_beginChange kind a b M) (fun _ M2 => ml_bd (fX2_act 0 kind a b third M2) (fun r M4 => some (.inl r, M4)))
def rF (g : ml_M → Option ml_R) (w1 w2 w3 w4 : Int32) (M : ml_M) : Option ml_R := ml_bd (fX7_begins M) (fun _ M2 => ml_bd (g M2) (fun r M4 => ml_bd (fX7_ends r w1 w2 w3 w4 M4) (fun r5 M6 => some (.inl r5, M6))))
/-- the state behind a refused change -/
theorem sI_back {n : Nat} {M : ml_M} (h : sI n M) (t : Int32) : sI n (cpR (ml_w (cpR M 0 10) 11 0 t) 10 0) := by
  refine h.scr (fun p q hd => ?_)
  by_cases hp : p = 12
  · subst hp
    unfold Ds at hd
    rw [cpR_12]
    by_cases hq : 80 * 0 ≤ q ∧ q < 80 * 0 + 80
    · rw [if_pos hq, ml_w_ne (by decide), cpR_12, if_pos ⟨by omega, by omega⟩]
      exact congrArg (M 12) (by omega)
    · rw [if_neg hq, ml_w_ne (by decide), cpR_12, if_neg (by omega)]
  · rw [cpR_o hp]
    by_cases h11 : p = 11
    · subst h11
      unfold Ds at hd
      rw [w_un (by omega), cpR_o hp]
    · rw [ml_w_ne h11, cpR_o hp]
/-- the state behind a change: M ahead of it, M6 with the history pushed, M1 the class's end, R the row's, M9 the end -/
theorem sI_done {n h nx : Nat} {M M6 M1 R M9 : ml_M} {x : Int32} (hs : sI n M) (hh : h ≤ 8) (hn : nx < 8) (h1 : M 1 1 = nI nx) (h2 : M 1 2 = nI h) (hold : ∀ k, 1 ≤ k → k ≤ h → fkr n (3 + (nx + 7 - (h - k)) % 8) k M) (p1 : eqF M 0 M6 (3 + nx)) (p2 : M6 1 1 = nI ((nx + 1) % 8)) (p3 : M6 1 2 = nI (if h < 8 then h + 1 else 8)) (p4 : ∀ k, k ≠ 1 → (k < ml_fl (3 + nx) ∨ ml_fl (3 + nx) + 15 ≤ k) → M6 k = M k) (c1 : fk (n + 60) M1 0 R) (c2 : ∀ k, (k < ml_fl 0 ∨ ml_fl 0 + 15 ≤ k) → M1 k = M6 k) (r1 : oM (cpR (ml_w M1 181 0 x) 0 10) R) (e2 : M9 11 2 = nI (if h < 8 then h + 1 else 8)) (e3 : ∀ q, q ≠ 0 → q ≠ 2 → M9 11 q = R 11 q) (e4 : ∀ p, p ≠ 11 → p ≠ 12 → M9 p = R p) (e5 : ∀ q, q < 80 → M9 12 q = R 12 q) (e6 : ∀ q, q < 80 → M9 12 (80 * (if h < 8 then h + 1 else 8) + q) = R 12 (800 + q)) (e7 : ∀ k q, 1 ≤ k → k < (if h < 8 then h + 1 else 8) → q < 80 → M9 12 (80 * k + q) = R 12 (80 * (if h < 8 then k else k + 1) + q)) (e8 : ∀ q, 720 ≤ q → M9 12 q = R 12 q) : sI (n + 60) M9 := by
  obtain ⟨g1, g2, g3, g4, g5, g6⟩ := hs
  have f0 : ml_fl 0 = 16 := rfl
  have fx : ml_fl (3 + nx) = 61 + 15 * nx := by unfold ml_fl; omega
  -- cells of the class
  have kc : ∀ p, p ≠ 11 → p ≠ 12 → p ≠ 181 → M9 p = M1 p := fun p a b c => by rw [e4 p a b, r1.1 p a b, cpR_o b, ml_w_ne c]
  have kc2 : ∀ p, p ≠ 1 → p ≠ 11 → p ≠ 12 → p ≠ 181 → (p < 16 ∨ 31 ≤ p) → (p < 61 + 15 * nx ∨ 76 + 15 * nx ≤ p) → M9 p = M p := fun p z a b c d e => by rw [kc p a b c, c2 p (by omega), p4 p z (by omega)]
  have km : ∀ q, q ≠ 0 → q ≠ 2 → q ≠ 4 → q ≠ 5 → M9 11 q = M 11 q := fun q a b c d => by rw [e3 q a b, r1.2.2 q d c, cpR_o (by decide), ml_w_ne (by decide), c2 11 (by omega), p4 11 (by decide) (by omega)]
  have kr : ∀ q, 80 ≤ q → R 12 q = cpR M 0 10 12 q := fun q hq => by
    rw [r1.2.1 q hq, cpR_12, cpR_12, ml_w_ne (by decide), c2 12 (by omega), p4 12 (by decide) (by omega)]
  refine ⟨c1.ofm (fun q hq => e5 q hq) |>.ofc (fun o ho => kc _ (by omega) (by omega) (by omega)), ⟨if h < 8 then h + 1 else 8, (nx + 1) % 8, by split <;> omega, by omega, ?_, ?_, e2, fun k k1 k2 => ?_⟩, (g3.mono (Nat.le_add_right n 60)).of (fun p q hp => ?_), g4.of (fun p q hp => ?_), g5.of (fun p q hp => ?_), g6.of (fun p q hp => ?_)⟩
  · rw [kc 1 (by decide) (by decide) (by decide), c2 1 (by omega)]; exact p2
  · rw [kc 1 (by decide) (by decide) (by decide), c2 1 (by omega)]; exact p3
  · by_cases hk : k = (if h < 8 then h + 1 else 8)
    · have e : 3 + ((nx + 1) % 8 + 7 - ((if h < 8 then h + 1 else 8) - k)) % 8 = 3 + nx := by omega
      rw [e]
      have a1 : fk n M6 (3 + nx) M := g1.cp p1
      refine ((a1.mono (Nat.le_add_right n 60)).ofc (fun o ho => ?_)).ofm (fun q hq => ?_)
      · rw [kc _ (by omega) (by omega) (by omega), c2 _ (by omega)]
      · rw [row_12, hk, e6 q hq, kr _ (by omega), cpR_12, if_pos ⟨by omega, by omega⟩]
        exact congrArg (M 12) (by omega)
    · have hk2 : k < (if h < 8 then h + 1 else 8) := by omega
      obtain ⟨k0, hk0⟩ : ∃ z, z = (if h < 8 then k else k + 1) := ⟨_, rfl⟩
      have hk3 : 1 ≤ k0 ∧ k0 ≤ h := by rw [hk0]; split at hk2 <;> split <;> omega
      have e : 3 + ((nx + 1) % 8 + 7 - ((if h < 8 then h + 1 else 8) - k)) % 8 = 3 + (nx + 7 - (h - k0)) % 8 := by
        rw [hk0]
        split at hk2 <;> split <;> omega
      have hk4 : h - k0 ≤ 6 := by rw [hk0]; split at hk2 <;> split <;> omega
      have ne : (nx + 7 - (h - k0)) % 8 ≠ nx := by omega
      rw [e]
      obtain ⟨s, hsl⟩ : ∃ z, z = (nx + 7 - (h - k0)) % 8 := ⟨_, rfl⟩
      have hs8 : s < 8 := by omega
      have old := hold k0 hk3.1 hk3.2
      rw [← hsl] at ne old ⊢
      refine (old.mono (Nat.le_add_right n 60)).of (fun o ho => ?_) (fun q hq => ?_)
      · have : ml_fl (3 + s) = 61 + 15 * s := by unfold ml_fl; omega
        exact kc2 _ (by omega) (by omega) (by omega) (by omega) (by omega) (by omega)
      · rw [e7 k q k1 hk2 hq, ← hk0, kr _ (by omega), cpR_12, if_neg (by omega)]
  · rcases hp with ⟨rfl, rfl⟩ | ⟨rfl, rfl⟩ | hp | ⟨rfl, hp⟩
    · rw [kc2 0 (by decide) (by decide) (by decide) (by decide) (by omega) (by omega)]
    · rw [km 3 (by decide) (by decide) (by decide) (by decide)]
    · rw [kc2 p (by omega) (by omega) (by omega) (by omega) (by omega) (by omega)]
    · rw [e8 q hp.1, kr q (by omega), cpR_12, if_neg (by omega)]
  · rcases hp with ⟨rfl, rfl⟩ | ⟨rfl, rfl⟩ | rfl | rfl
    · rw [kc2 3 (by decide) (by decide) (by decide) (by decide) (by omega) (by omega)]
    · rw [km 9 (by decide) (by decide) (by decide) (by decide)]
    · rw [kc2 4 (by decide) (by decide) (by decide) (by decide) (by omega) (by omega)]
    · rw [kc2 14 (by decide) (by decide) (by decide) (by decide) (by omega) (by omega)]
  · rcases hp with ⟨rfl, rfl⟩ | ⟨rfl, rfl⟩ | ⟨rfl, rfl⟩ | ⟨rfl, rfl⟩
    · rw [kc2 0 (by decide) (by decide) (by decide) (by decide) (by omega) (by omega)]
    · rw [kc2 0 (by decide) (by decide) (by decide) (by decide) (by omega) (by omega)]
    · rw [km 12 (by decide) (by decide) (by decide) (by decide)]
    · rw [km 13 (by decide) (by decide) (by decide) (by decide)]
  · rcases hp with ⟨rfl, rfl⟩ | ⟨rfl, rfl⟩ | ⟨rfl, rfl⟩ | rfl | rfl
    · rw [kc2 9 (by decide) (by decide) (by decide) (by decide) (by omega) (by omega)]
    · rw [kc2 9 (by decide) (by decide) (by decide) (by decide) (by omega) (by omega)]
    · rw [km 7 (by decide) (by decide) (by decide) (by decide)]
    · rw [kc2 10 (by decide) (by decide) (by decide) (by decide) (by omega) (by omega)]
    · rw [kc2 13 (by decide) (by decide) (by decide) (by decide) (by omega) (by omega)]
theorem nI_inj4 {a b : Nat} (ha : a ≤ 4) (hb : b ≤ 4) (h : nI a = nI b) : a = b := (nI_eq (by omega) (by omega)).mp h
/-- a change, whole -/
theorem change {P : Nat → Prop} {n : Nat} {M : ml_M} (kind a b third w1 w2 w3 w4 : Int32) (g : ml_M → Option ml_R) (hop : ∀ Mc Mm, fk n Mc 0 Mm → opR P (n + 60) 0 Mc Mm (fX2_faultOf 0 kind a b Mc) (fX2_act 0 kind a b third Mc) (g Mm)) (hw : ∀ c, P c → c ≠ 0 → thr c w1 w2 w3 w4 ≠ 0) (hs : sI n M) : ∃ M9, sI (n + 60) M9 ∧ ((∃ c, P c ∧ c ≠ 0 ∧ c ≤ 4 ∧ cF kind a b third M = some (.inr (if c = 4 then 5 else c), M) ∧ rF g w1 w2 w3 w4 M = some (.inl 0, M9) ∧ M9 11 0 = thr c w1 w2 w3 w4) ∨ (∃ r M1, cF kind a b third M = some (.inl r, M1) ∧ rF g w1 w2 w3 w4 (ml_w M1 181 0 r) = some (.inl r, M9) ∧ M9 11 0 = 0 ∧ M9 181 0 = r)) := by
  obtain ⟨c, R0, hP, h4, hf, hg, hc⟩ := hop M (cpR M 0 10) (hs.1.ofm (fun q hq => by rw [cpR_12, if_neg (by omega)]))
  rcases hc with ⟨hc, hR⟩ | ⟨hc, -, -⟩
  · subst hR
    refine ⟨_, (sI_back hs (thr c w1 w2 w3 w4)).mono (Nat.le_add_right n 60), Or.inl ⟨c, hP, hc, h4, ?_, ?_, ?_⟩⟩
    · unfold cF fX6_beginChange
      rw [hf, bd_l, rf_x hc h4]
      rfl
    · unfold rF
      rw [bg_m, bd_l, hg, bd_l, en_f h4 (hw c hP hc), bd_l]
    · rw [cpR_o (by decide), w_at]
  · subst hc
    obtain ⟨h, nx, hh, hn, h1, h2, h3, hold⟩ := hs.2.1
    obtain ⟨M6, p0, p1, p2, p3, p4⟩ := push_c hh hn h1 h2
    have hk6 : fk n M6 0 M := hs.1.ofc (fun o ho => p4 _ (by unfold ml_fl; omega) (by unfold ml_fl; omega))
    obtain ⟨c', R', hP', h4', hf', hg', hc'⟩ := hop M6 (cpR M 0 10) (hk6.ofm (fun q hq => by rw [cpR_12, if_neg (by omega)]))
    have ec : c' = 0 := by
      rw [hg] at hg'
      have := Option.some.inj hg'
      have e2 : nI 0 = nI c' := Sum.inl.inj (Prod.mk.inj this).1
      exact (nI_inj4 (by decide) h4' e2).symm
    subst ec
    rcases hc' with ⟨hc', -⟩ | ⟨-, -, M1, ha1, hk1, hfr1⟩
    · exact absurd rfl hc'
    obtain ⟨r, hr⟩ : ∃ z, z = R' 11 4 := ⟨_, rfl⟩
    rw [← hr] at ha1
    obtain ⟨c'', R, hP'', h4'', hf'', hg'', hc''⟩ := hop M6 (cpR (ml_w M1 181 0 r) 0 10) (hk6.ofm (fun q hq => by rw [cpR_12, if_neg (by omega), ml_w_ne (by decide), hfr1 12 (by unfold ml_fl; omega), p4 12 (by decide) (by unfold ml_fl; omega)]))
    have ec : c'' = 0 := by
      rw [hf'] at hf''
      have := Option.some.inj hf''
      have e2 : nI 0 = nI c'' := Sum.inl.inj (Prod.mk.inj this).1
      exact (nI_inj4 (by decide) h4'' e2).symm
    subst ec
    rcases hc'' with ⟨hc'', -⟩ | ⟨-, hoM, M1', ha1', hk1', hfr1'⟩
    · exact absurd rfl hc''
    rw [ha1] at ha1'
    have e9 := Option.some.inj ha1'
    have er : r = R 11 4 := Sum.inl.inj (Prod.mk.inj e9).1
    have eM : M1 = M1' := (Prod.mk.inj e9).2
    subst eM
    have hR2 : R 11 2 = nI h := by rw [hoM.2.2 2 (by decide) (by decide), cpR_o (by decide), ml_w_ne (by decide), hfr1 11 (by unfold ml_fl; omega), p4 11 (by decide) (by unfold ml_fl; omega)]; exact h3
    obtain ⟨M9, z1, z2, z3, z4, z5, z6, z7, z8, z9⟩ := en_0 hh w1 w2 w3 w4 R hR2
    refine ⟨M9, sI_done hs hh hn h1 h2 hold p1 p2 p3 p4 hk1' hfr1 hoM z3 z4 z5 z6 z7 z8 z9, Or.inr ⟨r, M1, ?_, ?_, z2, ?_⟩⟩
    · unfold cF fX6_beginChange
      rw [hf, bd_l, rf_0, bd_l, p0, bd_l, bd_l, ha1, bd_l]
    · unfold rF
      have hg2 : g (cpR (ml_w M1 181 0 r) 0 10) = some (.inl 0, R) := hg''
      rw [bg_m, bd_l, hg2, bd_l, z1, bd_l, er]
    · rw [z5 181 (by decide) (by decide), hoM.1 181 (by decide) (by decide), cpR_o (by decide), w_at]
theorem th_m (M : ml_M) : fX7_thrown M = some (.inl (M 11 0), M) := rfl
/-- a change as a step of the law: a wrapper, the reference, what it threw -/
theorem chg {P : Nat → Prop} {n : Nat} {M : ml_M} (kind a b third w1 w2 w3 w4 : Int32) (g : ml_M → Option ml_R) (cat : Nat → Int32) (F G : ml_M → Option ml_R) (hF : ∀ M, F M = lw_wr lw_pi cat (cF kind a b third M)) (hG : ∀ M, G M = rF g w1 w2 w3 w4 M) (hop : ∀ Mc Mm, fk n Mc 0 Mm → opR P (n + 60) 0 Mc Mm (fX2_faultOf 0 kind a b Mc) (fX2_act 0 kind a b third Mc) (g Mm)) (hw : ∀ c, P c → c ≠ 0 → c ≤ 4 → thr c w1 w2 w3 w4 ≠ 0 ∧ cat (if c = 4 then 5 else c) = thr c w1 w2 w3 w4) (hP4 : ∀ c, P c → c ≤ 4) (hs : sI n M) : ∃ (k9 b9 : Int32) (M1 M2 M9 : ml_M), F M = some (.inl k9, M1) ∧ G M1 = some (.inl b9, M2) ∧ fX7_thrown M2 = some (.inl k9, M9) ∧ (k9 = 0 → M9 181 0 = b9) ∧ sI (n + 60) M9 := by
  obtain ⟨M9, h9, hc⟩ := change kind a b third w1 w2 w3 w4 g hop (fun c hc h0 => (hw c hc h0 (hP4 c hc)).1) hs
  rcases hc with ⟨c, hP, h0, h4, hcf, hrf, ht⟩ | ⟨r, M1, hcf, hrf, ht, h181⟩
  · obtain ⟨w, wc⟩ := hw c hP h0 h4
    refine ⟨thr c w1 w2 w3 w4, 0, M, M9, M9, ?_, by rw [hG, hrf], by rw [th_m, ht], fun z => absurd z w, h9⟩
    rw [hF, hcf]
    show (if cat (if c = 4 then 5 else c) = 0 then none else some ((Sum.inl (cat (if c = 4 then 5 else c)), M) : ml_R)) = _
    rw [wc, if_neg w]
  · refine ⟨0, r, ml_w M1 181 0 r, M9, M9, ?_, by rw [hG, hrf], by rw [th_m, ht], fun _ => h181, h9⟩
    rw [hF, hcf]
    rfl
theorem opR.mono {P : Nat → Prop} {n n' i : Nat} {Mc Mm : ml_M} {f a g : Option ml_R} (h : opR P n i Mc Mm f a g) (hn : n ≤ n') : opR P n' i Mc Mm f a g := by
  obtain ⟨c, Mm', h1, h2, h3, h4, h5⟩ := h
  refine ⟨c, Mm', h1, h2, h3, h4, ?_⟩
  rcases h5 with h5 | ⟨h5, h6, M', h7, h8, h9⟩
  · exact Or.inl h5
  · exact Or.inr ⟨h5, h6, M', h7, h8.mono hn, h9⟩
theorem z_0 {n : Nat} (x1 x2 x3 : Int32) {M : ml_M} (hs : sI n M) : ∃ M9, lw_s0 x1 x2 x3 M M9 ∧ sI (n + 60) M9 := by
  obtain ⟨w, hw, hz⟩ : ∃ w, w ≤ 1 ∧ (if lw_bz x3 = 0 then (0 : Int32) else 1) = nI w := by
    by_cases h : lw_bz x3 = 0
    · exact ⟨0, by decide, by rw [if_pos h]; rfl⟩
    · exact ⟨1, by decide, by rw [if_neg h]; rfl⟩
  have hF : ∀ M, fL_addBoat (lw_ic x1) x2 (lw_bz x3) M = lw_wr lw_pi (fun e => if e = 2 then 1 else if e = 3 then 2 else 0) (cF 98 (lw_ic x1) x2 (nI w) M) := fun M => by
    unfold fL_addBoat fX6_addBoat cF ml_jn
    rw [← hz]
    by_cases h : lw_bz x3 = 0
    · simp only [if_pos h]
    · simp only [if_neg h]
  have hG : ∀ M, fX7_addBoat (lw_ic x1) x2 (lw_bz x3) M = rF (fun M => fX7_adds (cn (lw_ic x1)) x2 (nI w) M) 0 1 2 0 M := fun M => by
    unfold fX7_addBoat rF ml_jn
    rw [← hz]
    congr 1
    funext _ M2
    rw [cof_m, bd_l]
    by_cases h : lw_bz x3 = 0
    · simp only [if_pos h]
    · simp only [if_neg h]
  obtain ⟨k, b, M1, M2, M9, a1, a2, a3, a4, a5⟩ := chg (P := fun c => c = 0 ∨ c = 2 ∨ c = 3) 98 (lw_ic x1) x2 (nI w) 0 1 2 0 (fun M => fX7_adds (cn (lw_ic x1)) x2 (nI w) M) (fun e => if e = 2 then 1 else if e = 3 then 2 else 0) (fun M => fL_addBoat (lw_ic x1) x2 (lw_bz x3) M) (fun M => fX7_addBoat (lw_ic x1) x2 (lw_bz x3) M) hF hG (fun Mc Mm h => (op_b (lw_ic x1) x2 hw h).mono (by omega)) (fun c hc h0 h4 => by rcases (show c = 2 ∨ c = 3 by omega) with rfl | rfl <;> exact ⟨by decide, rfl⟩) (fun c hc => by omega) hs
  exact ⟨M9, ⟨k, b, M1, M2, a1, a2, a3, a4⟩, a5⟩
theorem z_1 {n : Nat} (x1 x2 x3 : Int32) {M : ml_M} (hs : sI n M) : ∃ M9, lw_s1 x1 x2 x3 M M9 ∧ sI (n + 60) M9 := by
  obtain ⟨k, b, M1, M2, M9, a1, a2, a3, a4, a5⟩ := chg (P := fun c => c = 0 ∨ c = 1 ∨ c = 2) 118 x1 x2 0 1 2 0 0 (fun M => fX7_turns x1 x2 M) (fun e => if e = 1 then 1 else if e = 2 then 2 else 0) (fun M => fL_setValve x1 x2 M) (fun M => fX7_setValve x1 x2 M) (fun M => rfl) (fun M => rfl) (fun Mc Mm h => (op_v x1 x2 0 h).mono (Nat.le_add_right n 60)) (fun c hc h0 h4 => by rcases (show c = 1 ∨ c = 2 by omega) with rfl | rfl <;> exact ⟨by decide, rfl⟩) (fun c hc => by omega) hs
  exact ⟨M9, ⟨k, b, M1, M2, a1, a2, a3, a4⟩, a5⟩
theorem z_2 {n : Nat} (x1 x2 x3 : Int32) {M : ml_M} (hs : sI n M) : ∃ M9, lw_s2 x1 x2 x3 M M9 ∧ sI (n + 60) M9 := by
  obtain ⟨k, b, M1, M2, M9, a1, a2, a3, a4, a5⟩ := chg (P := fun c => c = 0 ∨ c = 1 ∨ c = 3 ∨ c = 4) 111 x1 0 0 1 0 2 3 (fun M => fX7_opens x1 M) (fun e => if e = 1 then 1 else if e = 3 then 2 else if e = 5 then 3 else 0) (fun M => fL_openGate x1 M) (fun M => fX7_openGate x1 M) (fun M => rfl) (fun M => rfl) (fun Mc Mm h => (op_o x1 0 0 h).mono (Nat.le_add_right n 60)) (fun c hc h0 h4 => by rcases (show c = 1 ∨ c = 3 ∨ c = 4 by omega) with rfl | rfl | rfl <;> exact ⟨by decide, rfl⟩) (fun c hc => by omega) hs
  exact ⟨M9, ⟨k, b, M1, M2, a1, a2, a3, a4⟩, a5⟩
theorem z_3 {n : Nat} (x1 x2 x3 : Int32) {M : ml_M} (hs : sI n M) : ∃ M9, lw_s3 x1 x2 x3 M M9 ∧ sI (n + 60) M9 := by
  obtain ⟨k, b, M1, M2, M9, a1, a2, a3, a4, a5⟩ := chg (P := fun c => c = 0 ∨ c = 1 ∨ c = 3) 115 x1 0 0 1 0 2 0 (fun M => fX7_shuts x1 M) (fun e => if e = 1 then 1 else if e = 3 then 2 else 0) (fun M => fL_shutGate x1 M) (fun M => fX7_shutGate x1 M) (fun M => rfl) (fun M => rfl) (fun Mc Mm h => (op_sh x1 0 0 h).mono (Nat.le_add_right n 60)) (fun c hc h0 h4 => by rcases (show c = 1 ∨ c = 3 by omega) with rfl | rfl <;> exact ⟨by decide, rfl⟩) (fun c hc => by omega) hs
  exact ⟨M9, ⟨k, b, M1, M2, a1, a2, a3, a4⟩, a5⟩
theorem z_4 {n : Nat} (x1 x2 x3 : Int32) {M : ml_M} (hs : sI n M) : ∃ M9, lw_s4 x1 x2 x3 M M9 ∧ sI (n + 60) M9 := by
  obtain ⟨k, b, M1, M2, M9, a1, a2, a3, a4, a5⟩ := chg (P := fun c => c = 0 ∨ c = 2) 114 x1 0 0 0 1 0 0 (fun M => fX7_weather 1 x1 M) (fun e => if e = 2 then 1 else 0) (fun M => fL_setRain x1 M) (fun M => fX7_setRain x1 M) (fun M => rfl) (fun M => rfl) (fun Mc Mm h => (op_r x1 0 0 h).mono (Nat.le_add_right n 60)) (fun c hc h0 h4 => by rcases (show c = 2 by omega) with rfl; exact ⟨by decide, rfl⟩) (fun c hc => by omega) hs
  exact ⟨M9, ⟨k, b, M1, M2, a1, a2, a3, a4⟩, a5⟩
theorem z_5 {n : Nat} (x1 x2 x3 : Int32) {M : ml_M} (hs : sI n M) : ∃ M9, lw_s5 x1 x2 x3 M M9 ∧ sI (n + 60) M9 := by
  obtain ⟨k, b, M1, M2, M9, a1, a2, a3, a4, a5⟩ := chg (P := fun c => c = 0 ∨ c = 2) 100 x1 0 0 0 1 0 0 (fun M => fX7_weather 2 x1 M) (fun e => if e = 2 then 1 else 0) (fun M => fL_setDrain x1 M) (fun M => fX7_setDrain x1 M) (fun M => rfl) (fun M => rfl) (fun Mc Mm h => (op_d x1 0 0 h).mono (Nat.le_add_right n 60)) (fun c hc h0 h4 => by rcases (show c = 2 by omega) with rfl; exact ⟨by decide, rfl⟩) (fun c hc => by omega) hs
  exact ⟨M9, ⟨k, b, M1, M2, a1, a2, a3, a4⟩, a5⟩
theorem z_6 {n : Nat} (x1 x2 x3 : Int32) {M : ml_M} (hs : sI n M) : ∃ M9, lw_s6 x1 x2 x3 M M9 ∧ sI (n + 60) M9 := by
  obtain ⟨k, b, M1, M2, M9, a1, a2, a3, a4, a5⟩ := chg (P := fun c => c = 0 ∨ c = 2) 119 x1 0 0 0 1 0 0 (fun M => fX7_waits x1 M) (fun e => if e = 2 then 1 else 0) (fun M => fL_advance x1 M) (fun M => fX7_advance x1 M) (fun M => rfl) (fun M => rfl) (fun Mc Mm h => (op_w x1 0 0 h).mono (Nat.le_add_right n 60)) (fun c hc h0 h4 => by rcases (show c = 2 by omega) with rfl; exact ⟨by decide, rfl⟩) (fun c hc => by omega) hs
  exact ⟨M9, ⟨k, b, M1, M2, a1, a2, a3, a4⟩, a5⟩
