/-! A script's commands are done, on the trial flight and on the row. -/
theorem opR.imp {P : Nat → Prop} {n n' i : Nat} {Mc Mm : ml_M} {f a g : Option ml_R} (h : opR P n i Mc Mm f a g) (hn : n ≤ n') : opR (fun _ => True) n' i Mc Mm f a g := by
  obtain ⟨c, Mm', h1, h2⟩ := h.mono hn
  exact ⟨c, Mm', trivial, h2⟩
theorem dop {n j : Nat} {Mc Mm : ml_M} (hj : j < 60) (h : cR Mc Mm j) (hk : fk n Mc 1 Mm) : opR (fun _ => True) (n + 1) 1 Mc Mm (fX2_faultOf 1 (Mc 5 j) (Mc 6 j) (Mc 7 j) Mc) (fX2_act 1 (Mc 5 j) (Mc 6 j) (Mc 7 j) (Mc 8 j) Mc) (fX7_does (nI (4 * j)) Mm) := by
  obtain ⟨⟨k0, c0⟩, ⟨e1, k1, c1⟩, ⟨e2, k2, c2⟩, ⟨e3, k3, c3⟩⟩ := x1s (k := j) (by omega)
  rcases h with ⟨c, s, w, hw, h5, h6, h7, h8, m0, m1, m2, m3⟩ | ⟨h5, m0, m1, m2⟩ | ⟨kd, hkd, h5, m0, m1⟩
  · rw [h5, h6, h7, h8]
    have e : fX7_does (nI (4 * j)) Mm = fX7_adds (cn (nI c)) (nI s) (nI w) Mm := by
      have x98 : (98 : Int32) = 98 := rfl
      unfold fX7_does
      rw [e1, if_pos k1, lt_e, if_pos k0, c0, m0, if_pos x98, e2, if_pos k2, e3, if_pos k3, c1, m1, c2, m2, c3, m3]
      rcases hx : fX7_adds (cn (nI c)) (nI s) (nI w) Mm with _ | ⟨r | e, M⟩ <;> rfl
    rw [e]
    exact (op_b (nI c) (nI s) hw hk).imp (Nat.le_refl _)
  · rw [h5]
    have e : fX7_does (nI (4 * j)) Mm = fX7_turns (Mc 6 j) (Mc 7 j) Mm := by
      unfold fX7_does
      rw [e1, if_pos k1, lt_e, if_pos k0, c0, m0, if_neg (by decide), if_neg (by decide), if_neg (by decide), if_neg (by decide), if_neg (by decide), if_pos rfl, e2, if_pos k2, c1, m1, c2, m2]
      rcases hx : fX7_turns (Mc 6 j) (Mc 7 j) Mm with _ | ⟨r | e, M⟩ <;> rfl
    rw [e]
    exact (op_v (Mc 6 j) (Mc 7 j) (Mc 8 j) hk).imp (Nat.le_succ n)
  · rw [h5]
    have e0 : fX7_does (nI (4 * j)) Mm = (if nI kd = 98 then (if ml_ok (nI (4 * j) + 2) 244 then if ml_ok (nI (4 * j) + 3) 244 then ml_bd (fX7_adds (Mc 6 j) (Mm 15 (nI (4 * j) + 2).toNatClampNeg) (Mm 15 (nI (4 * j) + 3).toNatClampNeg) Mm) (fun r3 M4 => some (.inl r3, M4)) else none else none) else (if nI kd = 100 then ml_bd (fX7_weather 2 (Mc 6 j) Mm) (fun r6 M7 => some (.inl r6, M7)) else (if nI kd = 111 then ml_bd (fX7_opens (Mc 6 j) Mm) (fun r9 M10 => some (.inl r9, M10)) else (if nI kd = 114 then ml_bd (fX7_weather 1 (Mc 6 j) Mm) (fun r12 M13 => some (.inl r12, M13)) else (if nI kd = 115 then ml_bd (fX7_shuts (Mc 6 j) Mm) (fun r15 M16 => some (.inl r15, M16)) else (if nI kd = 118 then (if ml_ok (nI (4 * j) + 2) 244 then ml_bd (fX7_turns (Mc 6 j) (Mm 15 (nI (4 * j) + 2).toNatClampNeg) Mm) (fun r18 M19 => some (.inl r18, M19)) else none) else ml_bd (fX7_waits (Mc 6 j) Mm) (fun r20 M21 => some (.inl r20, M21)))))))) := by
      unfold fX7_does
      rw [e1, if_pos k1, lt_e, if_pos k0, c0, m0, c1, m1]
    rw [e0]
    rcases hkd with rfl | rfl | rfl | rfl | rfl
    · have e : (if nI 111 = 98 then (if ml_ok (nI (4 * j) + 2) 244 then if ml_ok (nI (4 * j) + 3) 244 then ml_bd (fX7_adds (Mc 6 j) (Mm 15 (nI (4 * j) + 2).toNatClampNeg) (Mm 15 (nI (4 * j) + 3).toNatClampNeg) Mm) (fun r3 M4 => some ((Sum.inl r3, M4) : ml_R)) else none else none) else (if nI 111 = 100 then ml_bd (fX7_weather 2 (Mc 6 j) Mm) (fun r6 M7 => some (.inl r6, M7)) else (if nI 111 = 111 then ml_bd (fX7_opens (Mc 6 j) Mm) (fun r9 M10 => some (.inl r9, M10)) else (if nI 111 = 114 then ml_bd (fX7_weather 1 (Mc 6 j) Mm) (fun r12 M13 => some (.inl r12, M13)) else (if nI 111 = 115 then ml_bd (fX7_shuts (Mc 6 j) Mm) (fun r15 M16 => some (.inl r15, M16)) else (if nI 111 = 118 then (if ml_ok (nI (4 * j) + 2) 244 then ml_bd (fX7_turns (Mc 6 j) (Mm 15 (nI (4 * j) + 2).toNatClampNeg) Mm) (fun r18 M19 => some (.inl r18, M19)) else none) else ml_bd (fX7_waits (Mc 6 j) Mm) (fun r20 M21 => some (.inl r20, M21)))))))) = fX7_opens (Mc 6 j) Mm := by
        rw [if_neg (by decide), if_neg (by decide), if_pos (show nI 111 = 111 from rfl)]
        rcases hx : fX7_opens (Mc 6 j) Mm with _ | ⟨r | e, M⟩ <;> rfl
      rw [e]
      exact (op_o (Mc 6 j) (Mc 7 j) (Mc 8 j) hk).imp (Nat.le_succ n)
    · rw [if_neg (by decide), if_neg (by decide), if_neg (by decide), if_neg (by decide), if_pos (show nI 115 = 115 from rfl)]
      have e : ml_bd (fX7_shuts (Mc 6 j) Mm) (fun r15 M16 => some ((Sum.inl r15, M16) : ml_R)) = fX7_shuts (Mc 6 j) Mm := by
        rcases hx : fX7_shuts (Mc 6 j) Mm with _ | ⟨r | e, M⟩ <;> rfl
      rw [e]
      exact (op_sh (Mc 6 j) (Mc 7 j) (Mc 8 j) hk).imp (Nat.le_succ n)
    · rw [if_neg (by decide), if_neg (by decide), if_neg (by decide), if_pos (show nI 114 = 114 from rfl)]
      have e : ml_bd (fX7_weather 1 (Mc 6 j) Mm) (fun r15 M16 => some ((Sum.inl r15, M16) : ml_R)) = fX7_weather 1 (Mc 6 j) Mm := by
        rcases hx : fX7_weather 1 (Mc 6 j) Mm with _ | ⟨r | e, M⟩ <;> rfl
      rw [e]
      exact (op_r (Mc 6 j) (Mc 7 j) (Mc 8 j) hk).imp (Nat.le_succ n)
    · rw [if_neg (by decide), if_pos (show nI 100 = 100 from rfl)]
      have e : ml_bd (fX7_weather 2 (Mc 6 j) Mm) (fun r15 M16 => some ((Sum.inl r15, M16) : ml_R)) = fX7_weather 2 (Mc 6 j) Mm := by
        rcases hx : fX7_weather 2 (Mc 6 j) Mm with _ | ⟨r | e, M⟩ <;> rfl
      rw [e]
      exact (op_d (Mc 6 j) (Mc 7 j) (Mc 8 j) hk).imp (Nat.le_succ n)
    · rw [if_neg (by decide), if_neg (by decide), if_neg (by decide), if_neg (by decide), if_neg (by decide), if_neg (by decide)]
      have e : ml_bd (fX7_waits (Mc 6 j) Mm) (fun r15 M16 => some ((Sum.inl r15, M16) : ml_R)) = fX7_waits (Mc 6 j) Mm := by
        rcases hx : fX7_waits (Mc 6 j) Mm with _ | ⟨r | e, M⟩ <;> rfl
      rw [e]
      exact (op_w (Mc 6 j) (Mc 7 j) (Mc 8 j) hk).imp (Nat.le_succ n)
/-- the ends of the two loops -/
def eC (M : ml_M) : Option ml_R := ml_bd (fX3_push 0 M) (fun r1 M2 => ml_bd (fX2_copyFrom 0 1 M2) (fun r3 M4 => some (.inl (M4 3 4), M4)))
def eM (x1 : Int32) (M1 : ml_M) : Option ml_R := ml_jn (fun (y4 : Int32) => ml_jn (fun (y7 : Int32) => ml_lt (ml_w M1 11 13 y7) (fun M10 => ml_lt (ml_w M10 11 4 (M10 11 15)) (fun M11 => ml_jn (fun (y12 : Int32) => ml_bd (fX7_ends y12 0 0 2 0 M11) (fun r15 M16 => some (.inl r15, M16))) (fun B13 => (if y4 = 0 then B13 3 else B13 0))))) (fun B8 => (if y4 = 0 then B8 x1 else B8 (M1 11 13)))) (fun B5 => (if x1 = (M1 11 15) then B5 1 else B5 0))
theorem ex_l {K : Nat} (hK : K ≤ 60) (x1 : Int32) : ∀ (r j n m1 m2 : Nat) (Mc Mm : ml_M), j + r = K → r < m1 → r < m2 → fk n Mc 1 Mm → Mc 3 4 = nI K → Mm 11 15 = nI K → (∀ i, i < K → cR Mc Mm i) → ∃ Mc' Mm' : ml_M, (∀ k, (k < ml_fl 1 ∨ ml_fl 1 + 15 ≤ k) → Mc' k = Mc k) ∧ oM Mm Mm' ∧ ((fX6_runScript_l m1 x1 (nI j) Mc = eC Mc' ∧ fX7_runScript_l m2 (nI j) Mm = eM (nI K) Mm' ∧ fk (n + r) Mc' 1 Mm') ∨ (∃ i, i < K ∧ fX6_runScript_l m1 x1 (nI j) Mc = some (.inr 3, ml_w Mc' 0 8 (nI i)) ∧ fX7_runScript_l m2 (nI j) Mm = eM (nI i) Mm')) := by
  have f1 : ml_fl 1 = 31 := rfl
  intro r
  induction r with
  | zero =>
    intro j n m1 m2 Mc Mm hj h1 h2 hk c34 m15 hR
    obtain ⟨m1, rfl⟩ : ∃ z, m1 = z + 1 := ⟨m1 - 1, by omega⟩
    obtain ⟨m2, rfl⟩ : ∃ z, m2 = z + 1 := ⟨m2 - 1, by omega⟩
    have e : j = K := by omega
    subst e
    refine ⟨Mc, Mm, fun _ _ => rfl, oM.rf, Or.inl ⟨?_, ?_, hk⟩⟩
    · show fX6_runScript_s0 (fX6_runScript_l m1) x1 (nI j) Mc = _
      unfold fX6_runScript_s0
      rw [c34, if_pos (Int32.le_refl _)]
      rfl
    · show fX7_runScript_s0 (fX7_runScript_l m2) (nI j) Mm = _
      unfold fX7_runScript_s0
      rw [jn_e, m15, if_pos (Int32.le_refl _)]
      rfl
  | succ r ih =>
    intro j n m1 m2 Mc Mm hj h1 h2 hk c34 m15 hR
    obtain ⟨m1, rfl⟩ : ∃ z, m1 = z + 1 := ⟨m1 - 1, by omega⟩
    obtain ⟨m2, rfl⟩ : ∃ z, m2 = z + 1 := ⟨m2 - 1, by omega⟩
    have okj : ml_ok (nI j) 60 := ok_nI (by omega) (by decide)
    have cj : (nI j).toNatClampNeg = j := nI_clamp (by omega)
    obtain ⟨c, Mm1, -, c4, hf, hg, hc⟩ := dop (by omega) (hR j (by omega)) hk
    have nle : ¬ nI K ≤ nI j := fun z => by have := (nI_leI (by omega) (by omega)).mp z; omega
    have hcl : fX6_runScript_l (m1 + 1) x1 (nI j) Mc = (if nI c = 0 then ml_bd (fX2_act 1 (Mc 5 j) (Mc 6 j) (Mc 7 j) (Mc 8 j) Mc) (fun r10 M11 => fX6_runScript_l m1 x1 (nI (j + 1)) M11) else some (.inr 3, ml_w Mc 0 8 (nI j))) := by
      show fX6_runScript_s0 (fX6_runScript_l m1) x1 (nI j) Mc = _
      unfold fX6_runScript_s0
      simp only [c34, if_neg nle, if_pos okj, lt_e, cj, hf, bd_e, nI_1]
    have e4 : (4 : Int32) * nI j = nI (4 * j) := pk_mul 4 j
    have hml : fX7_runScript_l (m2 + 1) (nI j) Mm = (if nI c = 0 then fX7_runScript_l m2 (nI (j + 1)) Mm1 else eM (nI j) Mm1) := by
      show fX7_runScript_s0 (fX7_runScript_l m2) (nI j) Mm = _
      unfold fX7_runScript_s0
      rw [jn_e, m15, if_neg nle, e4, hg, bd_e, nI_1]
      rfl
    rw [hcl, hml]
    rcases hc with ⟨hc, hM⟩ | ⟨hc, ho, C, ha, hk2, hfr⟩
    · have n0 : ¬ nI c = 0 := nI_ne0 (by omega) (by omega)
      rw [if_neg n0, if_neg n0, hM]
      exact ⟨Mc, Mm, fun _ _ => rfl, oM.rf, Or.inr ⟨j, by omega, rfl, rfl⟩⟩
    · subst hc
      have z0 : nI 0 = 0 := rfl
      rw [if_pos z0, if_pos z0, ha, bd_e]
      obtain ⟨C2, R2, g1, g2, g3⟩ := ih (j + 1) (n + 1) m1 m2 C Mm1 (by omega) (by omega) (by omega) hk2 (by rw [hfr 3 (by omega)]; exact c34) (by rw [ho.2.2 15 (by decide) (by decide)]; exact m15) (fun i hi => (hR i hi).of (fun a x y => by rw [hfr a (by omega)]) (fun b x y => by rw [ho.1 15 (by decide) (by decide)]))
      refine ⟨C2, R2, fun k hk => by rw [g1 k hk, hfr k hk], ho.tr g2, ?_⟩
      rcases g3 with ⟨x, y, z⟩ | ⟨i, x, y, z⟩
      · exact Or.inl ⟨x, y, by rw [show n + (r + 1) = n + 1 + r by omega]; exact z⟩
      · exact Or.inr ⟨i, x, y, z⟩
theorem eM_ok {K : Nat} {M : ml_M} (h15 : M 11 15 = nI K) : eM (nI K) M = ml_bd (fX7_ends 0 0 0 2 0 (ml_w M 11 4 (nI K))) (fun r15 M16 => some (.inl r15, M16)) := by
  have e : ml_w M 11 13 (M 11 13) = M := w_id
  unfold eM
  rw [jn_e, h15, if_pos rfl]
  dsimp only
  rw [jn_e, if_1]
  dsimp only
  rw [lt_e, e, lt_e, jn_e, if_1, h15]
theorem eM_no {K i : Nat} {M : ml_M} (hK : K ≤ 60) (hi : i < K) (h15 : M 11 15 = nI K) : eM (nI i) M = some (.inl 0, cpR (ml_w (ml_w (ml_w M 11 13 (nI i)) 11 4 (nI K)) 11 0 2) 10 0) := by
  have ne : ¬ nI i = nI K := fun z => by have := (nI_eq (by omega) (by omega)).mp z; omega
  have ef : fX7_ends 3 0 0 2 0 (ml_w (ml_w M 11 13 (nI i)) 11 4 (nI K)) = some (.inl 0, cpR (ml_w (ml_w (ml_w M 11 13 (nI i)) 11 4 (nI K)) 11 0 2) 10 0) := en_f (c := 3) (w1 := 0) (w2 := 0) (w3 := 2) (w4 := 0) (by decide) (by decide) _
  unfold eM
  rw [jn_e, h15, if_neg ne]
  dsimp only
  rw [jn_e, if_0]
  dsimp only
  rw [lt_e, w_un (show 15 ≠ 13 by decide), h15, lt_e, jn_e, if_0]
  dsimp only
  rw [ef, bd_e]
