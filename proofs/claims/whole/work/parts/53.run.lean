/-! runScript, whole. -/
theorem eqF.of {M N M' N' : ml_M} {i j : Nat} (h : eqF M j M' i) (h1 : ∀ o, o < 15 → N (ml_fl j + o) = M (ml_fl j + o)) (h2 : ∀ o, o < 15 → N' (ml_fl i + o) = M' (ml_fl i + o)) : eqF N j N' i := by
  unfold eqF
  rw [show N (ml_fl j) = M (ml_fl j) from h1 0 (by decide), show N' (ml_fl i) = M' (ml_fl i) from h2 0 (by decide), h1 1 (by decide), h1 2 (by decide), h1 3 (by decide), h1 4 (by decide), h1 5 (by decide), h1 6 (by decide), h1 7 (by decide), h1 8 (by decide), h1 9 (by decide), h1 10 (by decide), h1 11 (by decide), h1 12 (by decide), h1 13 (by decide), h1 14 (by decide), h2 1 (by decide), h2 2 (by decide), h2 3 (by decide), h2 4 (by decide), h2 5 (by decide), h2 6 (by decide), h2 7 (by decide), h2 8 (by decide), h2 9 (by decide), h2 10 (by decide), h2 11 (by decide), h2 12 (by decide), h2 13 (by decide), h2 14 (by decide)]
  exact h
theorem run {n h nx : Nat} {M Mm : ml_M} (hs : sI n M) (hh : h ≤ 8) (hn : nx < 8) (h1 : M 1 1 = nI nx) (h2 : M 1 2 = nI h) (hm : ∀ a, 11 ≤ a → a ≤ 15 → Mm a = M a) : (∃ C p R, fX6_runScript M = some (.inr 2, C) ∧ fX7_runScript Mm = some (.inl 0, R) ∧ C 0 7 = nI p ∧ C 3 1 = 0 ∧ (∀ a b, ¬ (a = 0 ∧ b = 7) → a ≠ 3 → ¬ (5 ≤ a ∧ a ≤ 8) → C a b = M a b) ∧ R 11 0 = 1 ∧ R 11 12 = nI p ∧ R 11 9 = 0 ∧ (∀ a b, ¬ (a = 11 ∧ (b = 0 ∨ b = 9 ∨ b = 10 ∨ b = 11 ∨ b = 12 ∨ b = 15)) → a ≠ 15 → R a b = Mm a b)) ∨ (∃ C i R, fX6_runScript M = some (.inr 3, C) ∧ fX7_runScript Mm = some (.inl 0, R) ∧ C 0 8 = nI i ∧ C 3 1 = 0 ∧ (∀ a b, ¬ (a = 0 ∧ b = 8) → a ≠ 3 → ¬ (5 ≤ a ∧ a ≤ 8) → ¬ (31 ≤ a ∧ a < 46) → C a b = M a b) ∧ R 11 0 = 2 ∧ R 11 13 = nI i ∧ R 11 9 = 0 ∧ (∀ a b, ¬ (a = 11 ∧ (b = 0 ∨ b = 4 ∨ b = 5 ∨ b = 9 ∨ b = 10 ∨ b = 11 ∨ b = 13 ∨ b = 15)) → a ≠ 15 → ¬ (a = 12 ∧ 800 ≤ b) → R a b = Mm a b)) ∨ (∃ K C1 M6 M7 R1, K ≤ 60 ∧ fX6_runScript M = some (.inl (nI K), M7) ∧ fX7_runScript Mm = ml_bd (fX7_ends 0 0 0 2 0 R1) (fun r15 M16 => some (.inl r15, M16)) ∧ C1 3 1 = 0 ∧ (∀ a b, a ≠ 3 → ¬ (5 ≤ a ∧ a ≤ 8) → ¬ (31 ≤ a ∧ a < 46) → C1 a b = M a b) ∧ eqF C1 0 M6 (3 + nx) ∧ M6 1 1 = nI ((nx + 1) % 8) ∧ M6 1 2 = nI (if h < 8 then h + 1 else 8) ∧ (∀ k, k ≠ 1 → (k < ml_fl (3 + nx) ∨ ml_fl (3 + nx) + 15 ≤ k) → M6 k = C1 k) ∧ eqF M6 1 M7 0 ∧ (∀ k, (k < ml_fl 0 ∨ ml_fl 0 + 15 ≤ k) → M7 k = M6 k) ∧ fk (n + 60) C1 1 R1 ∧ R1 11 9 = 0 ∧ R1 11 4 = nI K ∧ (∀ a b, ¬ (a = 11 ∧ (b = 4 ∨ b = 5 ∨ b = 9 ∨ b = 10 ∨ b = 11 ∨ b = 15)) → a ≠ 15 → a ≠ 12 → R1 a b = Mm a b) ∧ (∀ q, 80 ≤ q → R1 12 q = cpR Mm 0 10 12 q)) := by
  obtain ⟨l, l60, t1, t2, t3⟩ := id hs.2.2.2.1
  obtain ⟨t, ht⟩ : ∃ t : Nat → Nat, t = fun j => (M 4 j).toNatClampNeg := ⟨_, rfl⟩
  have tj : ∀ j, j < l → 32 ≤ t j ∧ t j ≤ 126 ∧ M 4 j = nI (t j) ∧ M 14 j = nI (t j) := fun j hj => by
    obtain ⟨c, c1, c2, c3, c4⟩ := t3 j hj
    have e : t j = c := by
      rw [ht]
      show (M 4 j).toNatClampNeg = c
      rw [c3]
      exact nI_clamp (by omega)
    rw [e]
    exact ⟨c1, c2, c3, c4⟩
  have hT : tX l t := ⟨l60, fun j hj => ⟨(tj j hj).1, (tj j hj).2.1⟩⟩
  have hX : cX l t M := ⟨t1, fun j hj => (tj j hj).2.2.1⟩
  have hY : mX l t Mm := ⟨by rw [hm 11 (by decide) (by decide)]; exact t2, fun j hj => by rw [hm 14 (by decide) (by decide)]; exact (tj j hj).2.2.2⟩
  obtain ⟨C0, R0, ok, a1, a2, f1, f2, f3, f4⟩ := pa_c hT hX hY
  have fl1 : ml_fl 1 = 31 := rfl
  have fl0 : ml_fl 0 = 16 := rfl
  have g1 : fX7_runScript Mm = (if R0 11 11 < 0 then ml_bd (fX7_begins (ml_w R0 11 9 0)) (fun r4 M5 => fX7_runScript_l ml_fuel 0 M5) else ml_lt (ml_w (ml_w R0 11 9 0) 11 12 (R0 11 11)) (fun M6 => ml_lt (ml_w M6 11 0 1) (fun M7 => some (.inl 0, M7)))) := by
    unfold fX7_runScript
    rw [a2, bd_e, lt_e, w_un (show 11 ≠ 9 by decide)]
  have g0 : fX6_runScript M = (if b2 ok = 0 then ml_lt (ml_w (ml_w C0 3 1 0) 0 7 (C0 3 2)) (fun M6 => some (.inr 2, M6)) else ml_bd (fX2_copyFrom 1 0 (ml_w C0 3 1 0)) (fun r4 M5 => fX6_runScript_l ml_fuel (b2 ok) 0 M5)) := by
    unfold fX6_runScript
    rw [a1, bd_e, lt_e, w_un (show 2 ≠ 1 by decide)]
  cases ok with
  | false =>
    obtain ⟨p, p60, e1, e2⟩ := f4 rfl
    rw [b2_f, if_0, lt_e, e1] at g0
    rw [e2, if_neg (nI_pos (by omega)), lt_e, lt_e] at g1
    exact Or.inl ⟨_, p, _, g0, g1, w_at, by rw [w_off (by omega), w_at], fun a b x y z => by rw [w_off (by omega), w_off (by omega)]; exact f1 a b (by omega) z, w_at, by rw [w_off (by omega), w_at], by rw [w_off (by omega), w_off (by omega), w_at], fun a b x y => by rw [w_off (by omega), w_off (by omega), w_off (by omega)]; exact f2 a b (by omega) y⟩
  | true =>
    obtain ⟨K, hK, e1, e2, e3, e4⟩ := f3 rfl
    obtain ⟨C, d1, d2, d3⟩ := cpF (i := 1) (j := 0) (by decide) (ml_w C0 3 1 0)
    rw [b2_t, if_1, d1, bd_e] at g0
    rw [e3, if_pos (show (-1 : Int32) < 0 by decide), bg_m, bd_e] at g1
    obtain ⟨N, hN⟩ : ∃ z, z = cpR (ml_w R0 11 9 0) 0 10 := ⟨_, rfl⟩
    rw [← hN] at g1
    have d4 : ∀ k, (k < 31 ∨ 46 ≤ k) → C k = ml_w C0 3 1 0 k := fun k hk => d3 k (by omega)
    have m12 : ∀ q, q < 80 → N 12 q = M 12 q := fun q hq => by
      rw [hN, cpR_12, if_neg (by omega), w_off (by omega), f2 12 q (by omega) (by decide), hm 12 (by decide) (by decide)]
    have hk1 : fk n C 1 N := by
      have a0 : fk n (ml_w C0 3 1 0) 0 M := hs.1.ofc (fun o ho => funext (fun q => by rw [w_off (by unfold ml_fl; omega)]; exact f1 _ q (by unfold ml_fl; omega) (by unfold ml_fl; omega)))
      exact (a0.cp d2).ofm m12
    have hR : ∀ i, i < K → cR C N i := fun i hi => (e4 i hi).of (fun a x y => by rw [d4 a (by omega), ml_w_ne (by omega)]) (fun b x y => by rw [hN, cpR_o (by decide), ml_w_ne (by decide)])
    obtain ⟨C1, R1, q1, q2, q3⟩ := ex_l hK 1 K 0 n ml_fuel ml_fuel C N (by omega) (by unfold ml_fuel; omega) (by unfold ml_fuel; omega) hk1 (by rw [d4 3 (by omega), w_un (by decide)]; exact e1) (by rw [hN, cpR_o (by decide), w_un (by decide)]; exact e2) hR
    have cfr : ∀ a b, a ≠ 3 → ¬ (5 ≤ a ∧ a ≤ 8) → ¬ (31 ≤ a ∧ a < 46) → C1 a b = M a b := fun a b x y z => by
      rw [q1 a (by omega), d4 a (by omega), ml_w_ne x]
      exact f1 a b (by omega) y
    have c31 : C1 3 1 = 0 := by rw [q1 3 (by omega), d4 3 (by omega), w_at]
    have c34 : C1 3 4 = nI K := by rw [q1 3 (by omega), d4 3 (by omega), w_un (by decide)]; exact e1
    have N11 : ∀ b, b ≠ 9 → b ≠ 10 → b ≠ 11 → b ≠ 15 → N 11 b = Mm 11 b := fun b x y z w => by rw [hN, cpR_o (by decide), w_un x]; exact f2 11 b (by omega) (by decide)
    have No : ∀ a b, a ≠ 11 → a ≠ 12 → a ≠ 15 → N a b = Mm a b := fun a b x y z => by rw [hN, cpR_o y, ml_w_ne x]; exact f2 a b (by omega) z
    have R15 : R1 11 15 = nI K := by rw [q2.2.2 15 (by decide) (by decide), hN, cpR_o (by decide), w_un (by decide)]; exact e2
    have R9 : R1 11 9 = 0 := by rw [q2.2.2 9 (by decide) (by decide), hN, cpR_o (by decide), w_at]
    have R12 : ∀ q, 80 ≤ q → R1 12 q = cpR Mm 0 10 12 q := fun q hq => by
      rw [q2.2.1 q hq, hN, cpR_12, cpR_12]
      by_cases c : 80 * 10 ≤ q ∧ q < 80 * 10 + 80
      · rw [if_pos c, if_pos c, ml_w_ne (by decide)]
        exact f2 12 _ (by omega) (by decide)
      · rw [if_neg c, if_neg c, ml_w_ne (by decide)]
        exact f2 12 _ (by omega) (by decide)
    rcases q3 with ⟨x, y, z⟩ | ⟨i, hi, x, y⟩
    · -- all commands are done
      refine Or.inr (Or.inr ?_)
      obtain ⟨M6, p0, p1, p2, p3, p4⟩ := push_c (M := C1) hh hn (by rw [cfr 1 1 (by omega) (by omega) (by omega)]; exact h1) (by rw [cfr 1 2 (by omega) (by omega) (by omega)]; exact h2)
      obtain ⟨M7, s1, s2, s3⟩ := cpF (i := 0) (j := 1) (by decide) M6
      have k34 : M7 3 4 = nI K := by rw [s3 3 (by omega), p4 3 (by decide) (by unfold ml_fl; omega)]; exact c34
      refine ⟨K, C1, M6, M7, ml_w R1 11 4 (nI K), hK, ?_, ?_, c31, cfr, p1, p2, p3, p4, s2, s3, (z.mono (by omega)).ofm (fun q hq => by rw [ml_w_ne (by decide)]), by rw [w_off (by omega)]; exact R9, w_at, fun a b u v w => ?_, fun q hq => by rw [ml_w_ne (by decide)]; exact R12 q hq⟩
      · rw [g0]
        have x' : fX6_runScript_l ml_fuel 1 0 C = eC C1 := x
        rw [x']
        unfold eC
        rw [p0, bd_e, s1, bd_e, k34]
      · rw [g1]
        have y' : fX7_runScript_l ml_fuel 0 N = eM (nI K) R1 := y
        rw [y', eM_ok R15]
      · rw [w_off (by omega)]
        by_cases h11 : a = 11
        · subst h11
          rw [q2.2.2 b (by omega) (by omega), N11 b (by omega) (by omega) (by omega) (by omega)]
        · rw [q2.1 a h11 w, No a b h11 w v]
    · -- a command fails
      refine Or.inr (Or.inl ⟨ml_w C1 0 8 (nI i), i, cpR (ml_w (ml_w (ml_w R1 11 13 (nI i)) 11 4 (nI K)) 11 0 2) 10 0, ?_, ?_, w_at, by rw [w_off (by omega)]; exact c31, fun a b u v w s => by rw [w_off u]; exact cfr a b v w s, ?_, ?_, ?_, fun a b u v w => ?_⟩)
      · rw [g0]
        exact x
      · rw [g1]
        have y' : fX7_runScript_l ml_fuel 0 N = eM (nI i) R1 := y
        rw [y', eM_no hK hi R15]
      · rw [cpR_o (by decide), w_at]
      · rw [cpR_o (by decide), w_off (by omega), w_off (by omega), w_at]
      · rw [cpR_o (by decide), w_off (by omega), w_off (by omega), w_off (by omega)]
        exact R9
      · by_cases h12 : a = 12
        · subst h12
          rw [cpR_12]
          by_cases c : 80 * 0 ≤ b ∧ b < 80 * 0 + 80
          · rw [if_pos c, ml_w_ne (by decide), ml_w_ne (by decide), ml_w_ne (by decide), R12 _ (by omega), cpR_12, if_pos ⟨by omega, by omega⟩]
            exact congrArg (Mm 12) (by omega)
          · rw [if_neg c, ml_w_ne (by decide), ml_w_ne (by decide), ml_w_ne (by decide), R12 _ (by omega), cpR_12, if_neg (by omega)]
        · rw [cpR_o h12, w_off (by omega), w_off (by omega), w_off (by omega)]
          by_cases h11 : a = 11
          · subst h11
            rw [q2.2.2 b (by omega) (by omega), N11 b (by omega) (by omega) (by omega) (by omega)]
          · rw [q2.1 a h11 h12, No a b h11 h12 v]
/-- a memory with the reader's cells of another -/
def Vm (R X : ml_M) : ml_M := fun a b => if a = 15 ∨ (a = 11 ∧ (b = 9 ∨ b = 10 ∨ b = 11 ∨ b = 15)) then R a b else X a b
theorem Vm_o {R X : ml_M} {a : Nat} (h : a ≠ 15) (h2 : a ≠ 11) : Vm R X a = X a := funext (fun b => if_neg (by omega))
theorem Vm_n {R X : ml_M} {a b : Nat} (h : ¬ (a = 15 ∨ (a = 11 ∧ (b = 9 ∨ b = 10 ∨ b = 11 ∨ b = 15)))) : Vm R X a b = X a b := if_neg h
theorem Vm_y {R X : ml_M} {a b : Nat} (h : a = 15 ∨ (a = 11 ∧ (b = 9 ∨ b = 10 ∨ b = 11 ∨ b = 15))) : Vm R X a b = R a b := if_pos h
theorem z_47 {n : Nat} (x1 x2 x3 : Int32) {M : ml_M} (hs : sI n M) : ∃ M9, lw_s47 x1 x2 x3 M M9 ∧ sI (n + 60) M9 := by
  obtain ⟨h, nx, hh, hn, h1, h2, h3, hold⟩ := id hs.2.1
  have fl0 : ml_fl 0 = 16 := rfl
  have fx : ml_fl (3 + nx) = 61 + 15 * nx := by unfold ml_fl; omega
  rcases run (Mm := M) hs hh hn h1 h2 (fun _ _ _ => rfl) with ⟨C, p, R, r1, -, c07, c31, cf, -⟩ | ⟨C, i, R, r1, -, c08, c31, cf, -⟩ | ⟨K, C1, M6, M7, R1, hK, r1, -, c31, cf, p1, p2, p3, p4, s2, s3, -⟩
  · rcases run (Mm := C) hs hh hn h1 h2 (fun a x y => funext (fun b => cf a b (by omega) (by omega) (by omega))) with ⟨C', p', R', r1', r2', c07', -, -, t0, t12, t9, tf⟩ | ⟨C', i, R', r1', -⟩ | ⟨K, C1, M6, M7, R1, hK, r1', -⟩
    · rw [r1] at r1'
      have eC := (Prod.mk.inj (Option.some.inj r1')).2
      subst eC
      have kf : ∀ a b, ¬ (a = 0 ∧ b = 7) → a ≠ 3 → ¬ (5 ≤ a ∧ a ≤ 8) → ¬ (a = 11 ∧ (b = 0 ∨ b = 9 ∨ b = 10 ∨ b = 11 ∨ b = 12 ∨ b = 15)) → a ≠ 15 → R' a b = M a b := fun a b u v w x y => by rw [tf a b x y, cf a b u v w]
      refine ⟨R', ⟨1, 0, C, R', ?_, r2', by rw [th_m, t0], fun z => absurd z (by decide)⟩, sI.mono (n := n) ⟨hs.1.of (fun p q hp => kf p q (by omega) (by omega) (by omega) (by omega) (by omega)), hs.2.1.of (fun p q hp => kf p q (by omega) (by omega) (by omega) (by omega) (by omega)), hs.2.2.1.of (fun p q hp => kf p q (by omega) (by omega) (by omega) (by omega) (by omega)), ⟨0, by decide, by rw [tf 3 1 (by omega) (by omega), c31]; rfl, by rw [t9]; rfl, fun j hj => by omega⟩, ⟨?_, ?_⟩, hs.2.2.2.2.2.of (fun p q hp => kf p q (by omega) (by omega) (by omega) (by omega) (by omega))⟩ (Nat.le_add_right n 60)⟩
      · unfold fL_runScript
        rw [r1]
        rfl
      · rw [tf 0 7 (by omega) (by omega), c07', t12]
      · rw [kf 0 8 (by omega) (by omega) (by omega) (by omega) (by omega), kf 11 13 (by omega) (by omega) (by omega) (by omega) (by omega)]
        exact hs.2.2.2.2.1.2
    · rw [r1] at r1'
      have := Sum.inr.inj (Prod.mk.inj (Option.some.inj r1')).1
      omega
    · rw [r1] at r1'
      cases r1'
  · rcases run (Mm := C) hs hh hn h1 h2 (fun a x y => funext (fun b => cf a b (by omega) (by omega) (by omega) (by omega))) with ⟨C', p', R', r1', -⟩ | ⟨C', i', R', r1', r2', c08', -, -, t0, t13, t9, tf⟩ | ⟨K, C1, M6, M7, R1, hK, r1', -⟩
    · rw [r1] at r1'
      have := Sum.inr.inj (Prod.mk.inj (Option.some.inj r1')).1
      omega
    · rw [r1] at r1'
      have eC := (Prod.mk.inj (Option.some.inj r1')).2
      subst eC
      have kf : ∀ a b, ¬ (a = 0 ∧ b = 8) → a ≠ 3 → ¬ (5 ≤ a ∧ a ≤ 8) → ¬ (31 ≤ a ∧ a < 46) → ¬ (a = 11 ∧ (b = 0 ∨ b = 4 ∨ b = 5 ∨ b = 9 ∨ b = 10 ∨ b = 11 ∨ b = 13 ∨ b = 15)) → a ≠ 15 → ¬ (a = 12 ∧ 800 ≤ b) → R' a b = M a b := fun a b u v w x y z s => by rw [tf a b y z s, cf a b u v w x]
      refine ⟨R', ⟨2, 0, C, R', ?_, r2', by rw [th_m, t0], fun z => absurd z (by decide)⟩, sI.mono (n := n) ⟨hs.1.of (fun p q hp => kf p q (by omega) (by omega) (by omega) (by omega) (by omega) (by omega) (by omega)), hs.2.1.of (fun p q hp => kf p q (by omega) (by omega) (by omega) (by omega) (by omega) (by omega) (by omega)), hs.2.2.1.of (fun p q hp => kf p q (by omega) (by omega) (by omega) (by omega) (by omega) (by omega) (by omega)), ⟨0, by decide, by rw [tf 3 1 (by omega) (by omega) (by omega), c31]; rfl, by rw [t9]; rfl, fun j hj => by omega⟩, ⟨?_, ?_⟩, hs.2.2.2.2.2.of (fun p q hp => kf p q (by omega) (by omega) (by omega) (by omega) (by omega) (by omega) (by omega))⟩ (Nat.le_add_right n 60)⟩
      · unfold fL_runScript
        rw [r1]
        rfl
      · rw [kf 0 7 (by omega) (by omega) (by omega) (by omega) (by omega) (by omega) (by omega), kf 11 12 (by omega) (by omega) (by omega) (by omega) (by omega) (by omega) (by omega)]
        exact hs.2.2.2.2.1.1
      · rw [tf 0 8 (by omega) (by omega) (by omega), c08', t13]
    · rw [r1] at r1'
      cases r1'
  · have m7 : ∀ a, 11 ≤ a → a ≤ 15 → M7 a = M a := fun a x y => funext (fun b => by rw [s3 a (by omega), p4 a (by omega) (by omega), cf a b (by omega) (by omega) (by omega)])
    rcases run (Mm := ml_w M7 181 0 (nI K)) hs hh hn h1 h2 (fun a x y => by rw [ml_w_ne (by omega)]; exact m7 a x y) with ⟨C', p', R', r1', -⟩ | ⟨C', i', R', r1', -⟩ | ⟨K', C1', M6', M7', R1', hK', r1', r2', c31', cf', p1', p2', p3', p4', s2', s3', k', u9, u4, uf, u12⟩
    · rw [r1] at r1'
      cases r1'
    · rw [r1] at r1'
      cases r1'
    rw [r1] at r1'
    have e9 := Option.some.inj r1'
    have eK : nI K = nI K' := Sum.inl.inj (Prod.mk.inj e9).1
    have eM := (Prod.mk.inj e9).2
    subst eM
    have hR2 : R1' 11 2 = nI h := by
      rw [uf 11 2 (by omega) (by decide) (by decide), ml_w_ne (by decide), m7 11 (by decide) (by decide)]
      exact h3
    obtain ⟨M9, z1, z2, z3, z4, z5, z6, z7, z8, z9⟩ := en_0 hh 0 0 2 0 R1' hR2
    -- the virtual memories
    have vs : sI n (Vm R1' C1') := by
      have kf : ∀ a b, a ≠ 3 → ¬ (5 ≤ a ∧ a ≤ 8) → ¬ (31 ≤ a ∧ a < 46) → ¬ (a = 15 ∨ (a = 11 ∧ (b = 9 ∨ b = 10 ∨ b = 11 ∨ b = 15))) → Vm R1' C1' a b = M a b := fun a b u v w x => by rw [Vm_n x, cf' a b u v w]
      refine ⟨hs.1.of (fun p q hp => kf p q (by omega) (by omega) (by omega) (by omega)), hs.2.1.of (fun p q hp => kf p q (by omega) (by omega) (by omega) (by omega)), hs.2.2.1.of (fun p q hp => kf p q (by omega) (by omega) (by omega) (by omega)), ⟨0, by decide, ?_, ?_, fun j hj => by omega⟩, hs.2.2.2.2.1.of (fun p q hp => kf p q (by omega) (by omega) (by omega) (by omega)), hs.2.2.2.2.2.of (fun p q hp => kf p q (by omega) (by omega) (by omega) (by omega))⟩
      · rw [Vm_n (by omega), c31']; rfl
      · rw [Vm_y (by omega), u9]; rfl
    obtain ⟨h', nx', hh', hn', h1', h2', h3', hold'⟩ := id vs.2.1
    have v11 : Vm R1' C1' 1 1 = nI nx := by rw [Vm_n (by omega), cf' 1 1 (by omega) (by omega) (by omega)]; exact h1
    have v12 : Vm R1' C1' 1 2 = nI h := by rw [Vm_n (by omega), cf' 1 2 (by omega) (by omega) (by omega)]; exact h2
    have enx : nx' = nx := (nI_eq (by omega) (by omega)).mp (h1'.symm.trans v11)
    have eh : h' = h := (nI_eq (by omega) (by omega)).mp (h2'.symm.trans v12)
    subst enx
    subst eh
    have fin : sI (n + 60) M9 := by
      refine sI_done (M := Vm R1' C1') (M6 := Vm R1' M6') (M1 := Vm R1' M7) (R := R1') (x := nI K) vs hh hn v11 v12 hold' (p1'.of (fun o ho => Vm_o (by unfold ml_fl; omega) (by unfold ml_fl; omega)) (fun o ho => Vm_o (by unfold ml_fl; omega) (by unfold ml_fl; omega))) (by rw [Vm_n (by omega)]; exact p2') (by rw [Vm_n (by omega)]; exact p3') (fun k hk hk2 => ?_) ?_ (fun k hk => ?_) ⟨fun k a b => ?_, fun q a => ?_, fun q a b => ?_⟩ z3 z4 z5 z6 z7 z8 z9
      · funext b
        unfold Vm
        rw [p4' k hk hk2]
      · have a1 : fk (n + 60) M6' 1 R1' := k'.ofc (fun o ho => p4' _ (by unfold ml_fl; omega) (by unfold ml_fl; omega))
        exact (a1.cp s2').ofc (fun o ho => Vm_o (by unfold ml_fl; omega) (by unfold ml_fl; omega))
      · funext b
        unfold Vm
        rw [s3' k hk]
      · funext q
        rw [cpR_o b]
        by_cases h15 : k = 15
        · subst h15
          rw [ml_w_ne (by decide), Vm_y (by omega)]
        · rw [uf k q (by omega) h15 b]
          by_cases h181 : k = 181 ∧ q = 0
          · rw [h181.1, h181.2, w_at, w_at]
          · rw [w_off h181, w_off h181, Vm_n (by omega)]
      · rw [u12 q a, cpR_12, cpR_12, ml_w_ne (by decide), ml_w_ne (by decide), Vm_o (by decide) (by decide)]
      · rw [cpR_o (by decide), ml_w_ne (by decide)]
        by_cases hq : q = 9 ∨ q = 10 ∨ q = 11 ∨ q = 15
        · rw [Vm_y (Or.inr ⟨rfl, hq⟩)]
        · rw [Vm_n (by omega), uf 11 q (by omega) (by decide) (by decide), ml_w_ne (by decide)]
    refine ⟨M9, ⟨0, nI K, ml_w M7 181 0 (nI K), M9, ?_, ?_, by rw [th_m, z2], fun _ => ?_⟩, fin⟩
    · unfold fL_runScript
      rw [r1]
      rfl
    · rw [r2', z1, bd_e, u4, eK]
    · rw [z5 181 (by decide) (by decide), uf 181 0 (by omega) (by decide) (by decide), w_at]
