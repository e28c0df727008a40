/-! The whole script, read by both. -/
theorem cR.of {Mc Mc' B B' : ml_M} {k : Nat} (h : cR Mc B k) (h1 : ∀ a, 5 ≤ a → a ≤ 8 → Mc' a k = Mc a k) (h2 : ∀ b, 4 * k ≤ b → b < 4 * k + 4 → B' 15 b = B 15 b) : cR Mc' B' k := by
  unfold cR
  rw [h1 5 (by decide) (by decide), h1 6 (by decide) (by decide), h1 7 (by decide) (by decide), h1 8 (by decide) (by decide), h2 (4 * k) (by omega) (by omega), h2 (4 * k + 1) (by omega) (by omega), h2 (4 * k + 2) (by omega) (by omega), h2 (4 * k + 3) (by omega) (by omega)]
  exact h
/-- what reading leaves on either side -/
def fRc (M M' : ml_M) : Prop := ∀ a b, ¬ (a = 3 ∧ b ≠ 1) → ¬ (5 ≤ a ∧ a ≤ 8) → M' a b = M a b
def fRm (M M' : ml_M) : Prop := ∀ a b, ¬ (a = 11 ∧ (b = 10 ∨ b = 11 ∨ b = 15)) → a ≠ 15 → M' a b = M a b
theorem fRc.tr {M M1 M2 : ml_M} (h : fRc M M1) (h2 : fRc M1 M2) : fRc M M2 := fun a b x y => (h2 a b x y).trans (h a b x y)
theorem fRm.tr {M M1 M2 : ml_M} (h : fRm M M1) (h2 : fRm M1 M2) : fRm M M2 := fun a b x y => (h2 a b x y).trans (h a b x y)
theorem cO.fR {M M' : ml_M} {k p : Nat} (h : cO M M' k p) : fRc M M' := fun a b x y => h.2 a b (by omega) (by omega)
theorem mO.fR {l k : Nat} {t : Nat → Nat} {M B : ml_M} {q : Nat × Bool} (h : mO l t M B k) : fRm M (rm B q) := fun a b x y => by rw [rm_o (by omega)]; exact h.2.2 a b (by omega) (by omega)
/-- how reading ends -/
def eR (Mc Mm Mc' Mm' : ml_M) (ok : Bool) : Prop := fRc Mc Mc' ∧ fRm Mm Mm' ∧ (ok = true → ∃ K, K ≤ 60 ∧ Mc' 3 4 = nI K ∧ Mm' 11 15 = nI K ∧ Mm' 11 11 = -1 ∧ ∀ j, j < K → cR Mc' Mm' j) ∧ (ok = false → ∃ p, p ≤ 60 ∧ Mc' 3 2 = nI p ∧ Mm' 11 11 = nI p)
theorem pa_l {l : Nat} {t : Nat → Nat} (hT : tX l t) : ∀ (s k p n m : Nat) (Mc Mm : ml_M), l + 1 ≤ p + s → s < n → s < m → 2 * k ≤ p → cS l t k p Mc → nB l t Mm → Mm 11 15 = nI k → Mm 11 10 = nI p → (∀ j, j < k → cR Mc Mm j) → ∃ (Mc' Mm' : ml_M) (ok : Bool), fX4_readAll_l n Mc = some (.inl (b2 ok), Mc') ∧ ml_bd (fX7_command Mm) (fun _ M5 => fX7_parse_l m M5) = some (.inl 0, Mm') ∧ eR Mc Mm Mc' Mm' ok := by
  have hl := hT.1
  intro s
  induction s with
  | zero =>
    intro k p n m Mc Mm hs hn hm hk hS hB h15 h10 hR
    have := hS.2.2.2
    omega
  | succ s ih =>
    intro k p n m Mc Mm hs hn hm hk hS hB h15 h10 hR
    obtain ⟨n, rfl⟩ : ∃ z, n = z + 1 := ⟨n - 1, by omega⟩
    obtain ⟨m, rfl⟩ : ∃ z, m = z + 1 := ⟨m - 1, by omega⟩
    have hpl := hS.2.2.2
    have k60 : k < 60 := by omega
    obtain ⟨C, B, p', ok, r1, r2, r3, r4, r5, r6, r7⟩ := cmd hT hS hB k60 h15 h10
    have c0 : fX4_readAll_l (n + 1) Mc = (if b2 ok = 0 then some (.inl 0, C) else ml_lt (ml_w C 3 4 ((C 3 4) + 1)) (fun M3 => (if (M3 3 2) = (M3 3 1) then some (.inl 1, M3) else ml_bd (fX4_readOneOf 0 M3) (fun r4 M5 => (if r4 = 0 then some (.inl 0, M5) else fX4_readAll_l n M5))))) := by
      show fX4_readAll_s0 (fX4_readAll_l n) Mc = _
      unfold fX4_readAll_s0
      rw [hS.2.2.1, if_neg (show ¬ (60 : Int32) ≤ nI k from fun z => by have := (nI_leI (a := 60) (by decide) (by omega)).mp z; omega), r1, bd_e]
    rw [c0, r2, bd_e]
    have rel : ∀ j, j < k → cR C B j := fun j hj => (hR j hj).of (fun a h5 h8 => r5.2 a j (by omega) (by omega)) (fun b x y => r6.2.2 15 b (by omega) (by omega))
    cases ok with
    | false =>
      have e11 : rm B (p', false) 11 11 = nI p' := by rw [rm_11 r6.1.2]; rfl
      refine ⟨C, rm B (p', false), false, by rw [b2_f, if_0], ?_, r5.fR, r6.fR, fun z => (by cases z), fun _ => ⟨p', by omega, r5.1, e11⟩⟩
      show fX7_parse_s0 (fX7_parse_l m) (rm B (p', false)) = _
      unfold fX7_parse_s0
      rw [jn_e, e11, if_pos (nI_pos' (by omega))]
      dsimp only
      rw [jn_e, e11, if_pos (nI_pos' (by omega))]
    | true =>
      have hge := r4 rfl
      have e11 : rm B (p', true) 11 11 = -1 := by rw [rm_11 r6.1.2]; rfl
      have e15 : rm B (p', true) 11 15 = nI (k + 1) := by rw [rm_o (by omega)]; exact r6.2.1
      have C34 : C 3 4 = nI k := by rw [r5.2 3 4 (by omega) (by omega)]; exact hS.2.2.1
      obtain ⟨C1, hC1⟩ : ∃ z, z = ml_w C 3 4 (nI (k + 1)) := ⟨_, rfl⟩
      have S1 : cS l t (k + 1) p' C1 := by
        have hX : cX l t C := ⟨by rw [r5.2 3 1 (by omega) (by omega)]; exact hS.1.1, fun j hj => by rw [r5.2 4 j (by omega) (by omega)]; exact hS.1.2 j hj⟩
        rw [hC1]
        exact ⟨hX.w (by decide) (by decide), by rw [w_off (by omega)]; exact r5.1, w_at, r3⟩
      have rel2 : ∀ j, j < k + 1 → cR C1 B j := fun j hj => by
        have r0 : cR C B j := by
          rcases Nat.lt_or_ge j k with z | z
          · exact rel j z
          · have : j = k := by omega
            subst this
            exact r7 rfl
        exact r0.of (fun a x y => by rw [hC1, w_off (by omega)]) (fun b x y => rfl)
      have fC1 : fRc Mc C1 := r5.fR.tr (fun a b x y => by rw [hC1, w_off (by omega)])
      have q0 : fX7_parse_l (m + 1) (rm B (p', true)) = ml_jn (fun (M1 : ml_M) => ml_jn (fun (M4 : ml_M) => some ((Sum.inl 0, M4) : ml_R)) (fun B5 => (if 0 ≤ (M1 11 11) then B5 M1 else (if (M1 11 9) ≤ (M1 11 10) then B5 M1 else ml_lt (ml_w M1 11 11 (M1 11 10)) (fun M7 => B5 M7))))) (fun B2 => (if (if p' < l then nI (t p') else -1) = 59 then ml_lt (ml_w (rm B (p', true)) 11 10 ((rm B (p', true) 11 10) + 1)) (fun M10 => ml_bd (fX7_command M10) (fun r11 M12 => fX7_parse_l m M12)) else B2 (rm B (p', true)))) := by
        show fX7_parse_s0 (fX7_parse_l m) (rm B (p', true)) = _
        unfold fX7_parse_s0
        rw [jn_e, jn_e, e11, if_neg (show ¬ (0 : Int32) ≤ -1 by decide), sg_p hT (rm_X r6.1.1) rm_10 r3, bd_e]
      rw [b2_t, if_1, C34, nI_1, lt_e, ← hC1, S1.2.1, S1.1.1, q0, jn_e]
      by_cases hp : p' = l
      · subst hp
        have e9 : rm B (p', true) 11 9 = nI p' := (rm_X r6.1.1).1
        rw [if_pos rfl, if_neg (Nat.lt_irrefl _), if_neg (show ¬ (-1 : Int32) = 59 by decide)]
        dsimp only
        rw [jn_e, e11, if_neg (show ¬ (0 : Int32) ≤ -1 by decide), e9, rm_10, if_pos (Int32.le_refl _)]
        exact ⟨C1, rm B (p', true), true, rfl, rfl, fC1, r6.fR, fun _ => ⟨k + 1, by omega, S1.2.2.1, e15, e11, fun j hj => (rel2 j hj).of (fun _ _ _ => rfl) (fun b x y => by rw [rm_o (by omega)])⟩, fun z => (by cases z)⟩
      · have hlt : p' < l := by omega
        have h126 := (hT.2 p' hlt).2
        rw [if_neg (fun z => hp ((nI_eq (by omega) (by omega)).mp z)), if_pos hlt]
        obtain ⟨D, d1, d2, d3, d4, d5⟩ := ro_o (q := 0) (by decide) hT S1
        rw [d1, bd_e]
        by_cases c : t p' = 59
        · have cm : p' < l ∧ t p' ∈ Wd 0 := ⟨hlt, by rw [c]; exact List.mem_singleton.mpr rfl⟩
          rw [oP_t cm] at d2 d3 ⊢
          rw [b2_t, if_1, if_pos (show nI (t p') = 59 from congrArg nI c), rm_10, nI_1, rm_go rfl, lt_e]
          have hb : nB l t (rm B (p' + 1, true)) := ⟨rm_X r6.1.1, by rw [rm_11 r6.1.2]; rfl⟩
          obtain ⟨E, F, ok, g1, g2, g3, g4, g5, g6⟩ := ih (k + 1) (p' + 1) n m D (rm B (p' + 1, true)) (by omega) (by omega) (by omega) (by omega) d3 hb (by rw [rm_o (by omega)]; exact r6.2.1) rm_10 (fun j hj => (rel2 j hj).of (fun a x y => d4 a j (by omega)) (fun b x y => by rw [rm_o (by omega)]))
          have fD : fRc C1 D := fun a b x y => by
            by_cases ha : a = 3
            · subst ha
              exact d2.2 3 b (by omega) (by omega)
            · exact d4 a b ha
          exact ⟨E, F, ok, g1, g2, (fC1.tr fD).tr g3, (r6.fR (q := (p' + 1, true))).tr g4, g5, g6⟩
        · have cm : ¬ (p' < l ∧ t p' ∈ Wd 0) := fun z => c (List.mem_singleton.mp z.2)
          have e9 : rm B (p', true) 11 9 = nI l := (rm_X r6.1.1).1
          rw [oP_f cm] at d2 d3 ⊢
          rw [b2_f, if_0, if_neg (show ¬ nI (t p') = 59 from fun z => c ((nI_eq (b := 59) (by omega) (by decide)).mp z))]
          dsimp only
          rw [jn_e, e11, if_neg (show ¬ (0 : Int32) ≤ -1 by decide), e9, rm_10, if_neg (show ¬ nI l ≤ nI p' from fun z => by have := (nI_leI (by omega) (by omega)).mp z; omega), lt_e]
          have fD : fRc C1 D := fun a b x y => by
            by_cases ha : a = 3
            · subst ha
              exact d2.2 3 b (by omega) (by omega)
            · exact d4 a b ha
          refine ⟨D, ml_w (rm B (p', true)) 11 11 (nI p'), false, rfl, rfl, fC1.tr fD, (r6.fR (q := (p', true))).tr (fun a b x y => by rw [w_off (by omega)]), fun z => (by cases z), fun _ => ⟨p', by omega, d2.1, w_at⟩⟩
/-- the class's reading of the whole, the reference's -/
theorem pa_c {l : Nat} {t : Nat → Nat} {Mc Mm : ml_M} (hT : tX l t) (hC : cX l t Mc) (hM : mX l t Mm) : ∃ (Mc' Mm' : ml_M) (ok : Bool), fX4_readAll Mc = some (.inl (b2 ok), Mc') ∧ fX7_parse Mm = some (.inl 0, Mm') ∧ eR Mc Mm Mc' Mm' ok := by
  have hl := hT.1
  obtain ⟨C, hCe⟩ : ∃ z, z = ml_w (ml_w Mc 3 2 0) 3 4 0 := ⟨_, rfl⟩
  obtain ⟨N, hN⟩ : ∃ z, z = ml_w (ml_w (ml_w Mm 11 10 0) 11 11 (-1)) 11 15 0 := ⟨_, rfl⟩
  have hS : cS l t 0 0 C := by
    rw [hCe]
    exact ⟨(hC.w (by decide) (by decide)).w (by decide) (by decide), by rw [w_off (by omega), w_at]; rfl, w_at, Nat.zero_le _⟩
  have hB : nB l t N := by
    rw [hN]
    exact ⟨((hM.w (by decide) (by decide)).w (by decide) (by decide)).w (by decide) (by decide), by rw [w_off (by omega), w_at]⟩
  obtain ⟨C', N', ok, a1, a2, a3, a4, a5, a6⟩ := pa_l hT (l + 1) 0 0 ml_fuel ml_fuel C N (by omega) (by unfold ml_fuel; omega) (by unfold ml_fuel; omega) (by omega) hS hB (by rw [hN, w_at]; rfl) (by rw [hN, w_off (by omega), w_off (by omega), w_at]; rfl) (fun j hj => by omega)
  refine ⟨C', N', ok, ?_, ?_, ?_, ?_, a5, a6⟩
  · unfold fX4_readAll
    rw [lt_e, lt_e, ← hCe]
    exact a1
  · unfold fX7_parse
    rw [lt_e, lt_e, lt_e, ← hN]
    exact a2
  · exact fRc.tr (fun a b x y => by rw [hCe, w_off (by omega), w_off (by omega)]) a3
  · exact fRm.tr (fun a b x y => by rw [hN, w_off (by omega), w_off (by omega), w_off (by omega)]) a4
