/-! THE INVARIANT between two calls, the changes. -/
theorem push_c {h nx : Nat} {M : ml_M} (hh : h ≤ 8) (hn : nx < 8) (h1 : M 1 1 = nI nx) (h2 : M 1 2 = nI h) : ∃ M', fX3_push 0 M = some (.inl 0, M') ∧ eqF M 0 M' (3 + nx) ∧ M' 1 1 = nI ((nx + 1) % 8) ∧ M' 1 2 = nI (if h < 8 then h + 1 else 8) ∧ ∀ k, k ≠ 1 → (k < ml_fl (3 + nx) ∨ ml_fl (3 + nx) + 15 ≤ k) → M' k = M k := by
  obtain ⟨M3, a1, a2, a3⟩ := cpF (i := 3 + nx) (j := 0) (by omega) M
  have e1 : M3 1 = M 1 := a3 1 (by unfold ml_fl; omega)
  have fl1 : ∀ o, ml_fl (3 + nx) + o ≠ 1 := fun o => by unfold ml_fl; omega
  have fl0 : ml_fl (3 + nx) ≠ 1 := by unfold ml_fl; omega
  refine ⟨ml_w (ml_w M3 1 1 (nI ((nx + 1) % 8))) 1 2 (nI (if h < 8 then h + 1 else 8)), ?_, ?_, by rw [w_un (by decide), w_at], w_at, fun k hk hk2 => by rw [ml_w_ne hk, ml_w_ne hk]; exact a3 k hk2⟩
  · unfold fX3_push ml_lt
    rw [h1, if_pos (ok_nI hn (by decide)), nI_clamp (by omega), a1, bd_l, e1, h1, nI_1]
    have e8 : nI (nx + 1) - nI (nx + 1) / 8 * 8 = nI ((nx + 1) % 8) := pk_rem (d := 8) (by omega) (by decide) (by decide)
    rw [e8]
    dsimp only
    rw [w_un (show 2 ≠ 1 by decide), e1, h2, nI_1]
    have e9 : (if 8 < nI (h + 1) then 8 else nI (h + 1)) = nI (if h < 8 then h + 1 else 8) := by
      by_cases h : h < 8
      · rw [if_pos h, if_neg]
        intro z
        have := (nI_ltI (a := 8) (b := _) (by decide) (by omega)).mp z
        omega
      · rw [if_neg h, if_pos]
        · rfl
        · exact (nI_ltI (a := 8) (b := _) (by decide) (by omega)).mpr (by omega)
    rw [e9]
  · obtain ⟨b0, b1, b2, b3, b4, b5, b6, b7, b8, b9⟩ := a2
    refine ⟨by rw [ml_w_ne fl0, ml_w_ne fl0]; exact b0, fun q x y => by rw [ml_w_ne (fl1 _), ml_w_ne (fl1 _)]; exact b1 q x y, fun q x => by rw [ml_w_ne (fl1 _), ml_w_ne (fl1 _)]; exact b2 q x, fun q x => by rw [ml_w_ne (fl1 _), ml_w_ne (fl1 _)]; exact b3 q x, fun q x => by rw [ml_w_ne (fl1 _), ml_w_ne (fl1 _)]; exact b4 q x, fun q x => by rw [ml_w_ne (fl1 _), ml_w_ne (fl1 _)]; exact b5 q x, fun q x => by rw [ml_w_ne (fl1 _), ml_w_ne (fl1 _), ml_w_ne (fl1 _), ml_w_ne (fl1 _), ml_w_ne (fl1 _), ml_w_ne (fl1 _), ml_w_ne (fl1 _), ml_w_ne (fl1 _), ml_w_ne (fl1 _), ml_w_ne (fl1 _)]; exact b6 q x, fun q x => by rw [ml_w_ne (fl1 _), ml_w_ne (fl1 _)]; exact b7 q x, fun q x y => by rw [ml_w_ne (fl1 _), ml_w_ne (fl1 _)]; exact b8 q x y, fun q x => by rw [ml_w_ne (fl1 _), ml_w_ne (fl1 _), ml_w_ne (fl1 _), ml_w_ne (fl1 _)]; exact b9 q x⟩
theorem rf_0 (M : ml_M) : fX6_refuse (nI 0) M = some (.inl 0, M) := rfl
theorem rf_x {c : Nat} (h0 : c ≠ 0) (h4 : c ≤ 4) (M : ml_M) : fX6_refuse (nI c) M = some (.inr (if c = 4 then 5 else c), M) := by
  rcases (show c = 1 ∨ c = 2 ∨ c = 3 ∨ c = 4 by omega) with rfl | rfl | rfl | rfl <;> rfl
def cF (kind a b third : Int32) (M : ml_M) : Option ml_R := ml_bd (fX6_beginChange kind a b M) (fun _ M2 => ml_bd (fX2_act 0 kind a b third M2) (fun r M4 => some (.inl r, M4)))
/-- the state in play is fit, whatever row a reference would hold beside it -/
def jF (M : ml_M) : Prop := ∃ (n : Nat) (Mm : ml_M), fk n M 0 Mm
def jI (M : ml_M) : Prop := jF M ∧ (∃ h nx, h ≤ 8 ∧ nx < 8 ∧ M 1 1 = nI nx ∧ M 1 2 = nI h) ∧ ∃ l, l ≤ 16 ∧ M 9 1 = 0 ∧ M 9 3 = nI l
theorem jF.of {M M' : ml_M} (h : jF M) (k : ∀ o, o < 15 → M' (ml_fl 0 + o) = M (ml_fl 0 + o)) : jF M' := by
  obtain ⟨n, Mm, h⟩ := h
  exact ⟨n, Mm, h.ofc k⟩
theorem jI.of {M M' : ml_M} (h : jI M) (k : ∀ p, (16 ≤ p ∧ p < 31 ∨ p = 1 ∨ p = 9) → M' p = M p) : jI M' := by
  obtain ⟨h1, ⟨a, b, c1, c2, c3, c4⟩, l, d1, d2, d3⟩ := h
  exact ⟨h1.of (fun o ho => k _ (by unfold ml_fl; omega)), ⟨a, b, c1, c2, by rw [k 1 (by omega)]; exact c3, by rw [k 1 (by omega)]; exact c4⟩, l, d1, by rw [k 9 (by omega)]; exact d2, by rw [k 9 (by omega)]; exact d3⟩
/-- a change, whole -/
theorem jchg {P : Nat → Prop} {M : ml_M} (kind a b third : Int32) (g : ml_M → Option ml_R) (hop : ∀ n Mc Mm, fk n Mc 0 Mm → ∃ n', opR P n' 0 Mc Mm (fX2_faultOf 0 kind a b Mc) (fX2_act 0 kind a b third Mc) (g Mm)) (hs : jI M) : (∃ c, P c ∧ c ≠ 0 ∧ c ≤ 4 ∧ cF kind a b third M = some (.inr (if c = 4 then 5 else c), M)) ∨ ∃ r M1, cF kind a b third M = some (.inl r, M1) ∧ jI M1 := by
  obtain ⟨⟨n, Mm, hk⟩, ⟨h, nx, hh, hn, h1, h2⟩, l, o1, o2, o3⟩ := hs
  obtain ⟨n', c, R0, hP, h4, hf, hg, hc⟩ := hop n M Mm hk
  rcases hc with ⟨hc, hR⟩ | ⟨hc, -, -⟩
  · refine Or.inl ⟨c, hP, hc, h4, ?_⟩
    unfold cF fX6_beginChange
    rw [hf, bd_l, rf_x hc h4]
    rfl
  · subst hc
    obtain ⟨M6, p0, p1, p2, p3, p4⟩ := push_c hh hn h1 h2
    have hk6 : fk n M6 0 Mm := hk.ofc (fun o ho => p4 _ (by unfold ml_fl; omega) (by unfold ml_fl; omega))
    obtain ⟨n2, c', R', hP', h4', hf', hg', hc'⟩ := hop n M6 Mm hk6
    have ec : c' = 0 := by
      rw [hg] at hg'
      have := Option.some.inj hg'
      have e2 : nI 0 = nI c' := Sum.inl.inj (Prod.mk.inj this).1
      exact ((nI_eq (by decide) (by omega)).mp e2).symm
    subst ec
    rcases hc' with ⟨hc', -⟩ | ⟨-, -, M1, ha1, hk1, hfr1⟩
    · exact absurd rfl hc'
    refine Or.inr ⟨R' 11 4, M1, ?_, ⟨n2, R', hk1⟩, ⟨if h < 8 then h + 1 else 8, (nx + 1) % 8, by split <;> omega, by omega, ?_, ?_⟩, l, o1, ?_, ?_⟩
    · unfold cF fX6_beginChange
      rw [hf, bd_l, rf_0, bd_l, p0, bd_l, bd_l, ha1, bd_l]
    · rw [hfr1 1 (by unfold ml_fl; omega)]; exact p2
    · rw [hfr1 1 (by unfold ml_fl; omega)]; exact p3
    · rw [hfr1 9 (by unfold ml_fl; omega), p4 9 (by decide) (by unfold ml_fl; omega)]; exact o2
    · rw [hfr1 9 (by unfold ml_fl; omega), p4 9 (by decide) (by unfold ml_fl; omega)]; exact o3
def kJ (x : Option ml_R) : Prop := ∃ r M', x = some (.inl r, M') ∧ jI M'
/-- a change as the law calls it -/
theorem wchg {P : Nat → Prop} {M : ml_M} (kind a b third : Int32) (g : ml_M → Option ml_R) (cat : Nat → Int32) (hop : ∀ n Mc Mm, fk n Mc 0 Mm → ∃ n', opR P n' 0 Mc Mm (fX2_faultOf 0 kind a b Mc) (fX2_act 0 kind a b third Mc) (g Mm)) (hw : ∀ c, P c → c ≠ 0 → c ≤ 4 → cat (if c = 4 then 5 else c) ≠ 0) (hs : jI M) : kJ (lw_wr cat (cF kind a b third M)) := by
  rcases jchg kind a b third g hop hs with ⟨c, hP, h0, h4, e⟩ | ⟨r, M1, e, h1⟩
  · have w := hw c hP h0 h4
    refine ⟨cat (if c = 4 then 5 else c), M, ?_, hs⟩
    rw [e]
    show (if cat (if c = 4 then 5 else c) = 0 then none else some ((Sum.inl (cat (if c = 4 then 5 else c)), M) : ml_R)) = _
    rw [if_neg w]
  · exact ⟨r, M1, by rw [e]; rfl, h1⟩
theorem k_addBoat (x1 x2 x3 : Int32) {M : ml_M} (hs : jI M) : kJ (fL_addBoat x1 x2 x3 M) := by
  obtain ⟨w, hw, hz⟩ : ∃ w, w ≤ 1 ∧ (if x3 = 0 then (0 : Int32) else 1) = nI w := by
    by_cases h : x3 = 0
    · exact ⟨0, by decide, by rw [if_pos h]; rfl⟩
    · exact ⟨1, by decide, by rw [if_neg h]; rfl⟩
  have hF : ∀ M, fL_addBoat x1 x2 x3 M = lw_wr (fun e => if e = 2 then (-20000) else if e = 3 then (-10000) else 0) (cF 98 x1 x2 (nI w) M) := fun M => by
    unfold fL_addBoat fX6_addBoat cF ml_jn
    rw [← hz]
    by_cases h : x3 = 0
    · simp only [if_pos h]
    · simp only [if_neg h]
  rw [hF]
  exact wchg (P := fun c => c = 0 ∨ c = 2 ∨ c = 3) 98 x1 x2 (nI w) (fun M => fX7_adds (cn x1) x2 (nI w) M) _ (fun n Mc Mm h => ⟨_, op_b x1 x2 hw h⟩) (fun c hc h0 h4 => by rcases (show c = 2 ∨ c = 3 by omega) with rfl | rfl <;> decide) hs
theorem k_setValve (x1 x2 : Int32) {M : ml_M} (hs : jI M) : kJ (fL_setValve x1 x2 M) :=
  wchg (P := fun c => c = 0 ∨ c = 1 ∨ c = 2) 118 x1 x2 0 (fun M => fX7_turns x1 x2 M) _ (fun n Mc Mm h => ⟨_, op_v x1 x2 0 h⟩) (fun c hc h0 h4 => by rcases (show c = 1 ∨ c = 2 by omega) with rfl | rfl <;> decide) hs
theorem k_openGate (x1 : Int32) {M : ml_M} (hs : jI M) : kJ (fL_openGate x1 M) :=
  wchg (P := fun c => c = 0 ∨ c = 1 ∨ c = 3 ∨ c = 4) 111 x1 0 0 (fun M => fX7_opens x1 M) _ (fun n Mc Mm h => ⟨_, op_o x1 0 0 h⟩) (fun c hc h0 h4 => by rcases (show c = 1 ∨ c = 3 ∨ c = 4 by omega) with rfl | rfl | rfl <;> decide) hs
theorem k_shutGate (x1 : Int32) {M : ml_M} (hs : jI M) : kJ (fL_shutGate x1 M) :=
  wchg (P := fun c => c = 0 ∨ c = 1 ∨ c = 3) 115 x1 0 0 (fun M => fX7_shuts x1 M) _ (fun n Mc Mm h => ⟨_, op_sh x1 0 0 h⟩) (fun c hc h0 h4 => by rcases (show c = 1 ∨ c = 3 by omega) with rfl | rfl <;> decide) hs
theorem k_setRain (x1 : Int32) {M : ml_M} (hs : jI M) : kJ (fL_setRain x1 M) :=
  wchg (P := fun c => c = 0 ∨ c = 2) 114 x1 0 0 (fun M => fX7_weather 1 x1 M) _ (fun n Mc Mm h => ⟨_, op_r x1 0 0 h⟩) (fun c hc h0 h4 => by rcases (show c = 2 by omega) with rfl; decide) hs
theorem k_setDrain (x1 : Int32) {M : ml_M} (hs : jI M) : kJ (fL_setDrain x1 M) :=
  wchg (P := fun c => c = 0 ∨ c = 2) 100 x1 0 0 (fun M => fX7_weather 2 x1 M) _ (fun n Mc Mm h => ⟨_, op_d x1 0 0 h⟩) (fun c hc h0 h4 => by rcases (show c = 2 by omega) with rfl; decide) hs
theorem k_advance (x1 : Int32) {M : ml_M} (hs : jI M) : kJ (fL_advance x1 M) :=
  wchg (P := fun c => c = 0 ∨ c = 2) 119 x1 0 0 (fun M => fX7_waits x1 M) _ (fun n Mc Mm h => ⟨_, op_w x1 0 0 h⟩) (fun c hc h0 h4 => by rcases (show c = 2 by omega) with rfl; decide) hs
/-- the script's numbers -/
theorem cell_t (z : ml_Y) {k : Nat} (hk : k < 200) (M : ml_M) : ∃ r, fL_cell z (nI k) M = some (.inl r, M) := by
  unfold fL_cell
  rw [jn_e]
  by_cases h : nI z.1.1 ≤ nI k
  · exact ⟨_, if_pos h⟩
  · rw [if_neg h]
    have hl : k < z.1.1 := by
      rcases Nat.lt_or_ge k z.1.1 with h2 | h2
      · exact h2
      · exact absurd ((nI_leI (by omega) (by omega)).mpr h2) h
    have ok : ml_ok (nI k) z.1.1 := ⟨nI_pos (by omega), by rw [nI_clamp (by omega)]; exact hl⟩
    exact ⟨_, if_pos ok⟩
theorem shr_n (r : Int32) : ∃ m, m < 2 ^ 29 ∧ (r.toUInt32 >>> ((3 : Int32).toUInt32 &&& Int32.toUInt32 31)).toInt32 = nI m := by
  refine ⟨r.toUInt32.toNat / 8, by have := r.toUInt32.toNat_lt; omega, ?_⟩
  have e : (3 : Int32).toUInt32 &&& Int32.toUInt32 31 = 3 := by decide
  rw [e]
  apply Int32.toBitVec_inj.mp
  show (r.toUInt32 >>> 3).toBitVec = _
  apply BitVec.eq_of_toNat_eq
  show (r.toUInt32 >>> 3).toNat = _
  rw [UInt32.toNat_shiftRight]
  show r.toUInt32.toNat >>> 3 = (Int32.ofNat (r.toUInt32.toNat / 8)).toBitVec.toNat
  rw [Nat.shiftRight_eq_div_pow]
  show _ = (BitVec.ofNat 32 (r.toUInt32.toNat / 8)).toNat
  rw [BitVec.toNat_ofNat]
  have := r.toUInt32.toNat_lt
  omega
theorem some_t (z : ml_Y) {k d : Nat} (hk : k < 200) (h0 : 0 < d) (hd : d < 100) (M : ml_M) : ∃ m, m < d ∧ fL_some z (nI k) (nI d) M = some (.inl (nI m), M) := by
  obtain ⟨r, e⟩ := cell_t z hk M
  obtain ⟨m, hm, e2⟩ := shr_n r
  refine ⟨m % d, Nat.mod_lt _ h0, ?_⟩
  unfold fL_some
  rw [e, bd_e, if_pos (nI_ne0 h0 (by omega)), e2, pk_rem (by omega) h0 (by omega)]
