/-! A minute on both sides. -/
def rQ (Mc : ml_M) (i : Nat) (Mm : ml_M) (mk : Nat → Int32) (L : List fb) : Prop := (∃ v o g r d, rW Mc i Mm v o g r d) ∧ rE Mc i Mm ∧ rG Mc i Mm ∧ bC Mc i L ∧ bM Mm mk L ∧ (∀ x ∈ L, fb_ok x ∧ fa x = false) ∧ L.length ≤ 8 ∧ rR L
theorem nf_self {L : List fb} (h : ∀ x ∈ L, fb_ok x ∧ fa x = false) : nf L = L := List.filter_eq_self.mpr (fun x hx => by simp [(h x hx).2])
/-- outside a flight nothing changes, but for its fleet's first number -/
def fF (i : Nat) (M M' : ml_M) : Prop := (∀ k, (k < ml_fl i ∨ ml_fl i + 15 ≤ k) → M' k = M k) ∧ ∀ j, j ≠ 0 → M' (ml_fl i + 5) j = M (ml_fl i + 5) j
theorem fF.rf {i : Nat} {M : ml_M} : fF i M M := ⟨fun _ _ => rfl, fun _ _ => rfl⟩
theorem fF.tr {i : Nat} {M M1 M2 : ml_M} (h : fF i M M1) (h2 : fF i M1 M2) : fF i M M2 := ⟨fun k a => (h2.1 k a).trans (h.1 k a), fun q a => (h2.2 q a).trans (h.2 q a)⟩
theorem fC.F {i : Nat} {M M' : ml_M} (h : fC i M M') : fF i M M' := ⟨fun k hk => h k (by omega), fun j _ => by rw [h _ (Or.inr (Or.inr rfl))]⟩
theorem rR_nf {L : List fb} (hok : ∀ x ∈ L, fb_ok x) (h : rR L) : rR (nf L) := fun j h1 h3 => by
  rw [cnt_nf hok (by omega) (by omega)]
  exact h j h1 h3
theorem minute {i : Nat} {Mc Mm : ml_M} {mk : Nat → Int32} {L : List fb} (h : rQ Mc i Mm mk L) : ∃ (Mc' Mm' : ml_M) (L' : List fb) (gn : Nat), (∀ a0 n x1 x2 x3, x3 < x1 → x1 < 1000 → fX2_passMinutes_l i a0 (n + 6) 0 (nI x1) (nI x2) (nI x3) 0 Mc = fX2_passMinutes_l i a0 n 0 (nI x1) (nI (x2 + gn)) (nI (x3 + 1)) 0 Mc') ∧ fX7_ticks Mm = some (.inl (nI gn), Mm') ∧ rQ Mc' i Mm' mk L' ∧ gn + L'.length = L.length ∧ (tg L').Sublist (tg L) ∧ fF i Mc Mc' ∧ fM Mm Mm' := by
  obtain ⟨⟨v, o, g, r, d, hA, hB, hS⟩, hE, hG, hC, hM, hok, hL, hR⟩ := h
  -- the clock
  obtain ⟨C0, hC0⟩ : ∃ z, z = ml_w Mc (ml_fl i) 3 (Mc (ml_fl i) 3 + 1) := ⟨_, rfl⟩
  obtain ⟨R0, hR0⟩ : ∃ z, z = ml_w Mm 12 0 (Mm 12 0 + 1) := ⟨_, rfl⟩
  have c0o : ∀ k, k ≠ ml_fl i → C0 k = Mc k := fun k hk => by rw [hC0, ml_w_ne hk]
  have r0o : ∀ q, q ≠ 0 → R0 12 q = Mm 12 q := fun q hq => by rw [hR0, w_un hq]
  have A0 : rA C0 i R0 v o g r d := by
    obtain ⟨a1, a2, a3, a4, a5, a6⟩ := hA
    refine ⟨by rw [c0o _ (by omega)]; exact a1, fun j hj => by rw [r0o _ (by omega)]; exact a2 j hj, fun j hj => by rw [c0o _ (by omega), r0o _ (by omega)]; exact a3 j hj, fun j hj => by rw [c0o _ (by omega), r0o _ (by omega)]; exact a4 j hj, by rw [c0o _ (by omega), r0o _ (by omega)]; exact a5, by rw [c0o _ (by omega), r0o _ (by omega)]; exact a6⟩
  have B0 : rB C0 i R0 := by
    obtain ⟨a1, a2, a3, a4⟩ := hB
    refine ⟨by rw [c0o _ (by omega), r0o _ (by omega)]; exact a1, by rw [c0o _ (by omega), r0o _ (by omega)]; exact a2, by rw [c0o _ (by omega), r0o _ (by omega)]; exact a3, ?_⟩
    rw [hC0, hR0, w_at, w_at, a4]
  have E0 : rE C0 i R0 := rE.of hE (fun o2 a b => c0o _ (by omega)) (r0o _ (by omega)) (fun q a b => r0o _ (by omega))
  have S0 : rS C0 i := by
    unfold rS at hS ⊢
    rw [c0o _ (by omega), c0o _ (by omega)]
    exact hS
  obtain ⟨C1, R1, v1, w1, w2, A1, B1, E1, S1, k1, m1⟩ := weather A0 B0 E0 S0
  obtain ⟨C2, R2, v2, f1, f2, A2, B2, E2, S2, k2, m2⟩ := flow4 A1 B1 E1 S1
  obtain ⟨R3, hR3⟩ : ∃ z, z = ml_w R2 11 5 0 := ⟨_, rfl⟩
  have kk := k1.tr k2
  have mm := m1.tr m2
  have r3o : ∀ q, R3 12 q = R2 12 q := fun q => by rw [hR3, ml_w_ne (by decide)]
  have hn := nf_self hok
  have T3 : rT C2 i R3 mk v2 o g r d L 0 := by
    refine ⟨⟨rW.of ⟨A2, B2, S2⟩ rfl (fun _ _ _ => rfl) (fun q _ => r3o q), rE.of E2 (fun _ _ _ => rfl) (r3o _) (fun q _ _ => r3o q), fun j hj => ?_, hC.of (fun o2 a b => ?_), ?_, fun x hx => (hok x hx).1, hL, by decide, ?_⟩, hR⟩
    · rw [r3o, mm.1 _ (by omega), r0o _ (by omega), kk.1 11 (by decide) (by decide), c0o _ (by omega)]
      exact hG j hj
    · rw [kk.1 o2 a (by omega), c0o _ (by omega)]
    · rw [hn]
      exact hM.of (by rw [r3o, mm.1 _ (by omega), r0o _ (by omega)]) (fun q hq => by rw [r3o, mm.1 _ (by omega), r0o _ (by omega)])
    · rw [hR3, w_at]
      rfl
  obtain ⟨zf, hzf⟩ : ∃ z, ml_fuel = z + 5 := ⟨ml_fuel - 5, by unfold ml_fuel; omega⟩
  obtain ⟨C4, R4, L4, p4, g4, s1, s2, T4, s3, s4, s5, s6⟩ := sweep3 T3 (n2 := zf) (by unfold ml_fuel at hzf; omega)
  obtain ⟨⟨hW4, hE4, hG4, hC4, hM4, hok4, hL4, -, -⟩, hR4⟩ := T4
  obtain ⟨C5, u1, u2, u3, u4⟩ := ra_c hok4 hL4 hC4
  have hlen : L4.length = L.length := by
    have := congrArg List.length s4
    simpa [tg] using this
  have hnl := nf_len L4
  have hgn : g4 = L4.length - (nf L4).length := by rw [hn] at s3; omega
  refine ⟨C5, R4, nf L4, g4, fun a0 n x1 x2 x3 hx3 hx1 => ?_, ?_, ⟨⟨v2, o, g, r, d, hW4.of (u3 _ (by omega)) (fun k a b => u3 _ (by omega)) (fun _ _ => rfl)⟩, rE.of hE4 (fun o2 a b => u3 _ (by omega)) rfl (fun _ _ _ => rfl), fun j hj => by rw [u3 _ (by omega)]; exact hG4 j hj, u2, hM4, fun x hx => ⟨nf_ok hok4 x hx, by have := (List.mem_filter.mp hx).2; simpa using this⟩, by omega, rR_nf hok4 hR4⟩, ?_, ?_, ⟨fun k hk => ?_, fun j hj => ?_⟩, ?_⟩
  · show fX2_passMinutes_s0 i a0 (fX2_passMinutes_l i a0 (n + 5)) (nI x1) (nI x2) (nI x3) 0 Mc = _
    unfold fX2_passMinutes_s0 ml_lt
    rw [if_neg (fun z => by have := (nI_leI (by omega) (by omega)).mp z; omega), ← hC0]
    dsimp only
    rw [w1, bd_l, f1 a0 (n + 1)]
    show fX2_passMinutes_s1 i a0 (fX2_passMinutes_l i a0 n) (nI x1) (nI x2) (nI x3) 4 C2 = _
    unfold fX2_passMinutes_s1
    rw [if_pos (Int32.le_refl _), s1, bd_l, u1, bd_l, nI_add, nI_1, ← hgn]
  · unfold fX7_ticks ml_lt
    rw [← hR0]
    dsimp only
    rw [w2, bd_l]
    have e1 : fX7_ticks_l (zf + 5) 0 0 0 0 R1 = fX7_ticks_l (zf + 1) 0 0 4 0 R2 := f2 (zf + 1) 0
    rw [hzf]
    refine e1.trans ?_
    show fX7_ticks_s0 (fX7_ticks_l zf) 0 4 0 R2 = _
    unfold fX7_ticks_s0 ml_lt
    rw [if_pos (Int32.le_refl _), ← hR3]
    exact s2
  · rw [hn] at s3; omega
  · rw [← s4]
    exact List.Sublist.map _ List.filter_sublist
  · rw [u3 k (by omega), s5 k (by omega), kk.2 k (by omega), c0o k (by omega)]
  · rw [u4 j hj, s5 _ (by omega), kk.2 _ (by omega), c0o _ (by omega)]
  · refine fM.tr ?_ s6
    refine ⟨fun k a b => ?_, fun q a => ?_, fun q a => ?_⟩
    · rw [hR3, ml_w_ne a, mm.2 k b, hR0, ml_w_ne b]
    · rw [r3o, mm.1 _ (by omega), r0o _ (by omega)]
    · rw [hR3, w_un a, mm.2 11 (by decide), hR0, ml_w_ne (by decide)]
/-- minutes: the class's loop, the reference's one tick after the other -/
def ticksN : Nat → ml_M → Option (Nat × ml_M)
  | 0, M => some (0, M)
  | n + 1, M => match fX7_ticks M with
    | some (.inl r, M1) => (ticksN n M1).map (fun q => (r.toNatClampNeg + q.1, q.2))
    | _ => none
theorem minutes {i : Nat} {mk : Nat → Int32} : ∀ (t : Nat) (L : List fb) (Mc Mm : ml_M), rQ Mc i Mm mk L → ∃ (Mc' Mm' : ml_M) (L' : List fb) (gn : Nat), (∀ a0 n x1 x2 x3, x3 + t ≤ x1 → x1 < 1000 → fX2_passMinutes_l i a0 (n + 6 * t) 0 (nI x1) (nI x2) (nI x3) 0 Mc = fX2_passMinutes_l i a0 n 0 (nI x1) (nI (x2 + gn)) (nI (x3 + t)) 0 Mc') ∧ ticksN t Mm = some (gn, Mm') ∧ rQ Mc' i Mm' mk L' ∧ gn + L'.length = L.length ∧ (tg L').Sublist (tg L) ∧ fF i Mc Mc' ∧ fM Mm Mm' := by
  intro t
  induction t with
  | zero =>
    intro L Mc Mm h
    exact ⟨Mc, Mm, L, 0, fun a0 n x1 x2 x3 _ _ => rfl, rfl, h, by omega, List.Sublist.refl _, fF.rf, fM.rf⟩
  | succ t ih =>
    intro L Mc Mm h
    obtain ⟨C1, R1, L1, g1, a1, a2, a3, a4, a5, a6, a7⟩ := minute h
    obtain ⟨C2, R2, L2, g2, b1, b2, b3, b4, b5, b6, b7⟩ := ih L1 C1 R1 a3
    have hL : L.length ≤ 8 := h.2.2.2.2.2.2.1
    refine ⟨C2, R2, L2, g1 + g2, fun a0 n x1 x2 x3 hx hx1 => ?_, ?_, b3, by omega, b5.trans a5, a6.tr b6, a7.tr b7⟩
    · rw [show n + 6 * (t + 1) = (n + 6 * t) + 6 by omega, a1 a0 _ x1 x2 x3 (by omega) hx1, b1 a0 n x1 (x2 + g1) (x3 + 1) (by omega) hx1, show x2 + g1 + g2 = x2 + (g1 + g2) by omega, show x3 + 1 + t = x3 + (t + 1) by omega]
    · unfold ticksN
      rw [a2]
      dsimp only
      rw [b2]
      show some ((nI g1).toNatClampNeg + g2, R2) = _
      rw [nI_clamp (by omega)]
theorem pm_c {i t : Nat} {mk : Nat → Int32} {L : List fb} {Mc Mm : ml_M} (ht : t ≤ 200) (h : rQ Mc i Mm mk L) : ∃ (Mc' Mm' : ml_M) (L' : List fb) (gn : Nat), fX2_passMinutes i (nI t) Mc = some (.inl (nI gn), Mc') ∧ ticksN t Mm = some (gn, Mm') ∧ rQ Mc' i Mm' mk L' ∧ gn + L'.length = L.length ∧ (tg L').Sublist (tg L) ∧ fF i Mc Mc' ∧ fM Mm Mm' := by
  obtain ⟨C2, R2, L2, g2, b1, b2, b3, b4, b5, b6, b7⟩ := minutes t L Mc Mm h
  refine ⟨C2, R2, L2, g2, ?_, b2, b3, b4, b5, b6, b7⟩
  unfold fX2_passMinutes
  have e1 := b1 (nI t) (ml_fuel - 6 * t) t 0 0 (by omega) (by omega)
  rw [show ml_fuel - 6 * t + 6 * t = ml_fuel by unfold ml_fuel; omega] at e1
  refine e1.trans ?_
  obtain ⟨z, hz⟩ : ∃ z, ml_fuel - 6 * t = z + 1 := ⟨ml_fuel - 6 * t - 1, by unfold ml_fuel; omega⟩
  rw [hz]
  show fX2_passMinutes_s0 i (nI t) (fX2_passMinutes_l i (nI t) z) (nI t) (nI (0 + g2)) (nI (0 + t)) 0 C2 = _
  unfold fX2_passMinutes_s0
  rw [Nat.zero_add, Nat.zero_add, if_pos (Int32.le_refl _)]
