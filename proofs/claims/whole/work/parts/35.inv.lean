/-! THE INVARIANT between two calls. -/
def row (k : Nat) (M : ml_M) : ml_M := fun p q => if p = 12 then M 12 (80 * k + q) else M p q
theorem row_12 {k q : Nat} {M : ml_M} : row k M 12 q = M 12 (80 * k + q) := rfl
def fkr (n i k : Nat) (M : ml_M) : Prop := fk n M i (row k M)
theorem fkr.mono {n n' i k : Nat} {M : ml_M} (h : fkr n i k M) (hn : n ≤ n') : fkr n' i k M := fk.mono h hn
theorem fkr.of {n i k k' : Nat} {M M' : ml_M} (h : fkr n i k M) (hc : ∀ o, o < 15 → M' (ml_fl i + o) = M (ml_fl i + o)) (hm : ∀ q, q < 80 → M' 12 (80 * k' + q) = M 12 (80 * k + q)) : fkr n i k' M' :=
  fk.ofm (fk.ofc h hc) (fun q hq => by rw [row_12, row_12]; exact hm q hq)
def iN (n : Nat) (M : ml_M) : Prop := fk n M 0 M
def iH (n : Nat) (M : ml_M) : Prop := ∃ h nx, h ≤ 8 ∧ nx < 8 ∧ M 1 1 = nI nx ∧ M 1 2 = nI h ∧ M 11 2 = nI h ∧ ∀ k, 1 ≤ k → k ≤ h → fkr n (3 + (nx + 7 - (h - k)) % 8) k M
def iS (n : Nat) (M : ml_M) : Prop := ∃ b, b ≤ 1 ∧ M 0 3 = nI b ∧ M 11 3 = nI b ∧ (b = 1 → fkr n 2 9 M)
def iT (M : ml_M) : Prop := ∃ l, l ≤ 60 ∧ M 3 1 = nI l ∧ M 11 9 = nI l ∧ ∀ j, j < l → ∃ c, 32 ≤ c ∧ c ≤ 126 ∧ M 4 j = nI c ∧ M 14 j = nI c
def iP (M : ml_M) : Prop := M 0 7 = M 11 12 ∧ M 0 8 = M 11 13
def iO (M : ml_M) : Prop := ∃ l, l ≤ 16 ∧ M 9 1 = 0 ∧ M 9 3 = nI l ∧ M 11 7 = nI l ∧ ∀ j, j < l → ∃ c, c < 128 ∧ M 10 j = nI c ∧ M 13 j = nI c
/-- the invariant -/
def sI (n : Nat) (M : ml_M) : Prop := iN n M ∧ iH n M ∧ iS n M ∧ iT M ∧ iP M ∧ iO M
theorem iN.of {n : Nat} {M M' : ml_M} (h : iN n M) (k : ∀ p q, (16 ≤ p ∧ p < 31 ∨ p = 12 ∧ q < 80) → M' p q = M p q) : iN n M' :=
  fk.ofm (fk.ofc h (fun o ho => funext (fun q => k _ q (by unfold ml_fl; omega)))) (fun q hq => k 12 q (by omega))
theorem iH.of {n : Nat} {M M' : ml_M} (h : iH n M) (k : ∀ p q, (p = 1 ∨ p = 11 ∧ q = 2 ∨ 61 ≤ p ∧ p < 181 ∨ p = 12 ∧ 80 ≤ q ∧ q < 720) → M' p q = M p q) : iH n M' := by
  obtain ⟨h, nx, a1, a2, a3, a4, a5, a6⟩ := h
  refine ⟨h, nx, a1, a2, by rw [k 1 1 (by omega)]; exact a3, by rw [k 1 2 (by omega)]; exact a4, by rw [k 11 2 (by omega)]; exact a5, fun j h1 h2 => ?_⟩
  exact (a6 j h1 h2).of (fun o ho => funext (fun q => k _ q (by unfold ml_fl; omega))) (fun q hq => k 12 _ (by omega))
theorem iS.of {n : Nat} {M M' : ml_M} (h : iS n M) (k : ∀ p q, (p = 0 ∧ q = 3 ∨ p = 11 ∧ q = 3 ∨ 46 ≤ p ∧ p < 61 ∨ p = 12 ∧ 720 ≤ q ∧ q < 800) → M' p q = M p q) : iS n M' := by
  obtain ⟨b, a1, a2, a3, a4⟩ := h
  exact ⟨b, a1, by rw [k 0 3 (by omega)]; exact a2, by rw [k 11 3 (by omega)]; exact a3, fun hb => (a4 hb).of (fun o ho => funext (fun q => k _ q (by unfold ml_fl; omega))) (fun q hq => k 12 _ (by omega))⟩
theorem iT.of {M M' : ml_M} (h : iT M) (k : ∀ p q, (p = 3 ∧ q = 1 ∨ p = 11 ∧ q = 9 ∨ p = 4 ∨ p = 14) → M' p q = M p q) : iT M' := by
  obtain ⟨l, a1, a2, a3, a4⟩ := h
  exact ⟨l, a1, by rw [k 3 1 (by omega)]; exact a2, by rw [k 11 9 (by omega)]; exact a3, fun j hj => by rw [k 4 j (by omega), k 14 j (by omega)]; exact a4 j hj⟩
theorem iP.of {M M' : ml_M} (h : iP M) (k : ∀ p q, (p = 0 ∧ q = 7 ∨ p = 0 ∧ q = 8 ∨ p = 11 ∧ q = 12 ∨ p = 11 ∧ q = 13) → M' p q = M p q) : iP M' := by
  unfold iP
  rw [k 0 7 (by omega), k 0 8 (by omega), k 11 12 (by omega), k 11 13 (by omega)]
  exact h
theorem iO.of {M M' : ml_M} (h : iO M) (k : ∀ p q, (p = 9 ∧ q = 1 ∨ p = 9 ∧ q = 3 ∨ p = 11 ∧ q = 7 ∨ p = 10 ∨ p = 13) → M' p q = M p q) : iO M' := by
  obtain ⟨l, a1, a2, a3, a4, a5⟩ := h
  exact ⟨l, a1, by rw [k 9 1 (by omega)]; exact a2, by rw [k 9 3 (by omega)]; exact a3, by rw [k 11 7 (by omega)]; exact a4, fun j hj => by rw [k 10 j (by omega), k 13 j (by omega)]; exact a5 j hj⟩
theorem iN.mono {n n' : Nat} {M : ml_M} (h : iN n M) (hn : n ≤ n') : iN n' M := fk.mono h hn
theorem iH.mono {n n' : Nat} {M : ml_M} (h : iH n M) (hn : n ≤ n') : iH n' M := by
  obtain ⟨h, nx, a1, a2, a3, a4, a5, a6⟩ := h
  exact ⟨h, nx, a1, a2, a3, a4, a5, fun k h1 h2 => (a6 k h1 h2).mono hn⟩
theorem iS.mono {n n' : Nat} {M : ml_M} (h : iS n M) (hn : n ≤ n') : iS n' M := by
  obtain ⟨b, a1, a2, a3, a4⟩ := h
  exact ⟨b, a1, a2, a3, fun hb => (a4 hb).mono hn⟩
theorem sI.mono {n n' : Nat} {M : ml_M} (h : sI n M) (hn : n ≤ n') : sI n' M := ⟨h.1.mono hn, h.2.1.mono hn, h.2.2.1.mono hn, h.2.2.2⟩
/-- cells that no call finds again -/
def Ds (p q : Nat) : Prop := p = 11 ∧ (q = 0 ∨ q = 4 ∨ q = 5 ∨ q = 10 ∨ q = 11 ∨ q = 15) ∨ p = 15 ∨ p = 12 ∧ 800 ≤ q ∨ 31 ≤ p ∧ p < 46 ∨ 181 ≤ p ∨ p = 3 ∧ q ≠ 1 ∨ 5 ≤ p ∧ p < 9
def eqS (M M' : ml_M) : Prop := ∀ p q, ¬ Ds p q → M' p q = M p q
theorem eqS.rf {M : ml_M} : eqS M M := fun _ _ _ => rfl
theorem eqS.tr {M M1 M2 : ml_M} (h : eqS M M1) (h2 : eqS M1 M2) : eqS M M2 := fun p q hd => (h2 p q hd).trans (h p q hd)
theorem eqS.w {M M1 : ml_M} {a j : Nat} {x : Int32} (h : eqS M M1) (hd : Ds a j) : eqS M (ml_w M1 a j x) := by
  intro p q hp
  by_cases ha : p = a
  · subst ha
    by_cases hq : q = j
    · subst hq; exact absurd hd hp
    · rw [w_un hq]; exact h p q hp
  · rw [ml_w_ne ha]; exact h p q hp
theorem sI.scr {n : Nat} {M M' : ml_M} (h : sI n M) (e : eqS M M') : sI n M' :=
  ⟨h.1.of (fun p q hp => e p q (by unfold Ds; omega)), h.2.1.of (fun p q hp => e p q (by unfold Ds; omega)), h.2.2.1.of (fun p q hp => e p q (by unfold Ds; omega)), h.2.2.2.1.of (fun p q hp => e p q (by unfold Ds; omega)), h.2.2.2.2.1.of (fun p q hp => e p q (by unfold Ds; omega)), h.2.2.2.2.2.of (fun p q hp => e p q (by unfold Ds; omega))⟩
/-- the class puts the state aside -/
theorem push_c {h nx : Nat} {M : ml_M} (hh : h ≤ 8) (hn : nx < 8) (h1 : M 1 1 = nI nx) (h2 : M 1 2 = nI h) : ∃ M', fX3_push 0 M = some (.inl 0, M') ∧ eqF M 0 M' (3 + nx) ∧ M' 1 1 = nI ((nx + 1) % 8) ∧ M' 1 2 = nI (if h < 8 then h + 1 else 8) ∧ ∀ k, k ≠ 1 → (k < ml_fl (3 + nx) ∨ ml_fl (3 + nx) + 15 ≤ k) → M' k = M k := by
  obtain ⟨M3, a1, a2, a3⟩ := cpF (i := 3 + nx) (j := 0) (by omega) M
  have e1 : M3 1 = M 1 := a3 1 (by unfold ml_fl; omega)
  have fl1 : ∀ o, ml_fl (3 + nx) + o ≠ 1 := fun o => by unfold ml_fl; omega
  have fl0 : ml_fl (3 + nx) ≠ 1 := by unfold ml_fl; omega
  refine ⟨ml_w (ml_w M3 1 1 (nI ((nx + 1) % 8))) 1 2 (nI (if h < 8 then h + 1 else 8)), ?_, ?_, by rw [w_un (by decide), w_at], w_at, fun k hk hk2 => by rw [ml_w_ne hk, ml_w_ne hk]; exact a3 k hk2⟩
  · unfold fX3_push ml_lt
    rw [h1, if_pos (ok_nI hn (by decide)), nI_clamp (by omega), a1, bd_l, e1, h1, nI_1]
    have e8 : nI (nx + 1) - nI (nx + 1) / 8 * 8 = nI ((nx + 1) % 8) := pk_rem (d := 8) (by omega) (by decide) (by decide)
    rw [e8]
    dsimp only
    rw [w_un (show 2 ≠ 1 by decide), e1, h2, nI_1]
    have e9 : (if 8 < nI (h + 1) then 8 else nI (h + 1)) = nI (if h < 8 then h + 1 else 8) := by
      by_cases h : h < 8
      · rw [if_pos h, if_neg]
        intro z
        have := (nI_ltI (a := 8) (b := _) (by decide) (by omega)).mp z
        omega
      · rw [if_neg h, if_pos]
        · rfl
        · exact (nI_ltI (a := 8) (b := _) (by decide) (by omega)).mpr (by omega)
    rw [e9]
  · obtain ⟨b0, b1, b2, b3, b4, b5, b6, b7, b8, b9⟩ := a2
    refine ⟨by rw [ml_w_ne fl0, ml_w_ne fl0]; exact b0, fun q x y => by rw [ml_w_ne (fl1 _), ml_w_ne (fl1 _)]; exact b1 q x y, fun q x => by rw [ml_w_ne (fl1 _), ml_w_ne (fl1 _)]; exact b2 q x, fun q x => by rw [ml_w_ne (fl1 _), ml_w_ne (fl1 _)]; exact b3 q x, fun q x => by rw [ml_w_ne (fl1 _), ml_w_ne (fl1 _)]; exact b4 q x, fun q x => by rw [ml_w_ne (fl1 _), ml_w_ne (fl1 _)]; exact b5 q x, fun q x => by rw [ml_w_ne (fl1 _), ml_w_ne (fl1 _), ml_w_ne (fl1 _), ml_w_ne (fl1 _), ml_w_ne (fl1 _), ml_w_ne (fl1 _), ml_w_ne (fl1 _), ml_w_ne (fl1 _), ml_w_ne (fl1 _), ml_w_ne (fl1 _)]; exact b6 q x, fun q x => by rw [ml_w_ne (fl1 _), ml_w_ne (fl1 _)]; exact b7 q x, fun q x y => by rw [ml_w_ne (fl1 _), ml_w_ne (fl1 _)]; exact b8 q x y, fun q x => by rw [ml_w_ne (fl1 _), ml_w_ne (fl1 _), ml_w_ne (fl1 _), ml_w_ne (fl1 _)]; exact b9 q x⟩
def thr (c : Nat) (w1 w2 w3 w4 : Int32) : Int32 := if c = 1 then w1 else if c = 2 then w2 else if c = 3 then w3 else if c = 4 then w4 else 0
theorem bg_m (M : ml_M) : fX7_begins M = some (.inl 0, cpR M 0 10) := by
  unfold fX7_begins
  have e : fX7_copies 0 10 M = some (.inl 0, cpR M 0 10) := cp_m (a := 0) (b := 10) (by decide) (by decide) (by decide) M
  rw [e, bd_l]
theorem en_m {c : Nat} (hc : c ≤ 4) (w1 w2 w3 w4 : Int32) (M : ml_M) : fX7_ends (nI c) w1 w2 w3 w4 M = (fun M4 : ml_M => if M4 11 0 = 0 then (if M4 11 2 = 8 then fX7_ends_l (nI c) w1 w2 w3 w4 ml_fuel (nI c) w1 w2 w3 w4 1 M4 else ml_lt (ml_w M4 11 2 ((M4 11 2) + 1)) (fun M5 => ml_bd (fX7_copies 10 (M5 11 2) M5) (fun r6 M7 => some ((Sum.inl (M7 11 4), M7) : ml_R)))) else ml_bd (fX7_copies 10 0 M4) (fun r8 M9 => some (.inl 0, M9))) (ml_w M 11 0 (thr c w1 w2 w3 w4)) := by
  rcases (show c = 0 ∨ c = 1 ∨ c = 2 ∨ c = 3 ∨ c = 4 by omega) with rfl | rfl | rfl | rfl | rfl <;> rfl
theorem en_f {c : Nat} (hc : c ≤ 4) {w1 w2 w3 w4 : Int32} (ht : thr c w1 w2 w3 w4 ≠ 0) (M : ml_M) : fX7_ends (nI c) w1 w2 w3 w4 M = some (.inl 0, cpR (ml_w M 11 0 (thr c w1 w2 w3 w4)) 10 0) := by
  rw [en_m hc]
  dsimp only
  have e : fX7_copies 10 0 (ml_w M 11 0 (thr c w1 w2 w3 w4)) = some (.inl 0, cpR (ml_w M 11 0 (thr c w1 w2 w3 w4)) 10 0) := cp_m (a := 10) (b := 0) (by decide) (by decide) (by decide) _
  rw [w_at, if_neg ht, e, bd_l]
/-- rows 2 to 8 go one back -/
theorem sh_l {M : ml_M} (x0 x1 x2 x3 x4 : Int32) : ∀ (s t n : Nat) (Mt : ml_M), t + s = 7 → s < n → (∀ p, p ≠ 12 → Mt p = M p) → (∀ q, Mt 12 q = if 80 ≤ q ∧ q < 80 + 80 * t then M 12 (q + 80) else M 12 q) → ∃ M', fX7_ends_l x0 x1 x2 x3 x4 n x0 x1 x2 x3 x4 (nI (t + 1)) Mt = fX7_ends_l x0 x1 x2 x3 x4 (n - s) x0 x1 x2 x3 x4 8 M' ∧ (∀ p, p ≠ 12 → M' p = M p) ∧ (∀ q, M' 12 q = if 80 ≤ q ∧ q < 640 then M 12 (q + 80) else M 12 q) := by
  intro s
  induction s with
  | zero =>
    intro t n Mt ht hn hp hq
    have : t = 7 := by omega
    subst this
    exact ⟨Mt, rfl, hp, hq⟩
  | succ s ih =>
    intro t n Mt ht hn hp hq
    obtain ⟨n, rfl⟩ : ∃ z, n = z + 1 := ⟨n - 1, by omega⟩
    obtain ⟨M', a1, a2, a3⟩ := ih (t + 1) n (cpR Mt (t + 2) (t + 1)) (by omega) (by omega) (fun p h => by rw [cpR_o h]; exact hp p h) (fun q => by
      rw [cpR_12]
      by_cases h : 80 * (t + 1) ≤ q ∧ q < 80 * (t + 1) + 80
      · rw [if_pos h, if_pos ⟨by omega, by omega⟩, hq, if_neg (by omega)]
        exact congrArg (M 12) (by omega)
      · rw [if_neg h, hq]
        by_cases h2 : 80 ≤ q ∧ q < 80 + 80 * t
        · rw [if_pos h2, if_pos ⟨by omega, by omega⟩]
        · rw [if_neg h2, if_neg (by omega)])
    refine ⟨M', ?_, a2, a3⟩
    rw [show n + 1 - (s + 1) = n - s by omega, ← a1]
    show fX7_ends_s0 x0 x1 x2 x3 x4 (fX7_ends_l x0 x1 x2 x3 x4 n) x0 x1 x2 x3 x4 (nI (t + 1)) Mt = _
    unfold fX7_ends_s0
    rw [if_neg (fun z => by have := (nI_leI (a := 8) (b := t + 1) (by decide) (by omega)).mp z; omega), nI_1, cp_m (by omega) (by omega) (by omega), bd_l]
theorem en_0 {h : Nat} (hh : h ≤ 8) (w1 w2 w3 w4 : Int32) (M : ml_M) (h2 : M 11 2 = nI h) : ∃ M', fX7_ends 0 w1 w2 w3 w4 M = some (.inl (M 11 4), M') ∧ M' 11 0 = 0 ∧ M' 11 2 = nI (if h < 8 then h + 1 else 8) ∧ (∀ q, q ≠ 0 → q ≠ 2 → M' 11 q = M 11 q) ∧ (∀ p, p ≠ 11 → p ≠ 12 → M' p = M p) ∧ (∀ q, q < 80 → M' 12 q = M 12 q) ∧ (∀ q, q < 80 → M' 12 (80 * (if h < 8 then h + 1 else 8) + q) = M 12 (800 + q)) ∧ (∀ k q, 1 ≤ k → k < (if h < 8 then h + 1 else 8) → q < 80 → M' 12 (80 * k + q) = M 12 (80 * (if h < 8 then k else k + 1) + q)) ∧ ∀ q, 720 ≤ q → M' 12 q = M 12 q := by
  have e0 := en_m (c := 0) (by decide) w1 w2 w3 w4 M
  have e0' : fX7_ends 0 w1 w2 w3 w4 M = _ := e0
  rw [e0']
  dsimp only
  have et : thr 0 w1 w2 w3 w4 = 0 := rfl
  rw [et]
  obtain ⟨M4, hM4⟩ : ∃ z, z = ml_w M 11 0 0 := ⟨_, rfl⟩
  rw [← hM4]
  have q0 : M4 11 0 = 0 := by rw [hM4, w_at]
  have q2 : M4 11 2 = nI h := by rw [hM4, w_un (by decide)]; exact h2
  have qo : ∀ p, p ≠ 11 → M4 p = M p := fun p hp => by rw [hM4, ml_w_ne hp]
  have q11 : ∀ q, q ≠ 0 → M4 11 q = M 11 q := fun q hq => by rw [hM4, w_un hq]
  rw [if_pos q0, q2]
  by_cases h8 : h < 8
  · rw [if_neg (fun z => by have := (nI_eq (a := h) (b := 8) (by omega) (by decide)).mp z; omega), if_pos h8, nI_1]
    unfold ml_lt
    dsimp only
    have e1 : fX7_copies 10 (nI (h + 1)) (ml_w M4 11 2 (nI (h + 1))) = some (.inl 0, cpR (ml_w M4 11 2 (nI (h + 1))) 10 (h + 1)) := cp_m (a := 10) (b := h + 1) (by decide) (by omega) (by omega) _
    rw [w_at, e1, bd_l, cpR_o (by decide), w_un (show 4 ≠ 2 by decide), q11 4 (by decide)]
    refine ⟨_, rfl, by rw [cpR_o (by decide), w_un (by decide)]; exact q0, by rw [cpR_o (by decide), w_at], fun q a b => by rw [cpR_o (by decide), w_un b]; exact q11 q a, fun p a b => by rw [cpR_o b, ml_w_ne a]; exact qo p a, fun q hq => ?_, fun q hq => ?_, fun k q a b hq => ?_, fun q hq => ?_⟩
    · rw [cpR_12, if_neg (by omega), ml_w_ne (by decide), qo 12 (by decide)]
    · rw [cpR_12, if_pos ⟨by omega, by omega⟩, ml_w_ne (by decide), qo 12 (by decide)]
      exact congrArg (M 12) (by omega)
    · rw [cpR_12, if_neg (by omega), ml_w_ne (by decide), qo 12 (by decide), if_pos h8]
    · rw [cpR_12, if_neg (by omega), ml_w_ne (by decide), qo 12 (by decide)]
  · have h9 : h = 8 := by omega
    subst h9
    rw [if_pos (show nI 8 = 8 from rfl), if_neg h8]
    obtain ⟨Ms, a1, a2, a3⟩ := sh_l (M := M4) (nI 0) w1 w2 w3 w4 7 0 ml_fuel M4 (by decide) (by unfold ml_fuel; omega) (fun _ _ => rfl) (fun q => by rw [if_neg (by omega)])
    have a1' : fX7_ends_l (nI 0) w1 w2 w3 w4 ml_fuel (nI 0) w1 w2 w3 w4 1 M4 = _ := a1
    rw [a1']
    obtain ⟨z, hz⟩ : ∃ z, ml_fuel - 7 = z + 1 := ⟨ml_fuel - 8, by unfold ml_fuel; omega⟩
    rw [hz]
    have e2 : fX7_ends_l (nI 0) w1 w2 w3 w4 (z + 1) (nI 0) w1 w2 w3 w4 8 Ms = some (.inl (M 11 4), cpR (ml_w Ms 11 2 8) 10 8) := by
      show fX7_ends_s0 (nI 0) w1 w2 w3 w4 (fX7_ends_l (nI 0) w1 w2 w3 w4 z) (nI 0) w1 w2 w3 w4 8 Ms = _
      unfold fX7_ends_s0 ml_lt
      rw [if_pos (Int32.le_refl _), a2 11 (by decide), q2]
      dsimp only
      rw [w_w, w_at, w_at]
      have e8 : nI 8 - 1 + 1 = 8 := by decide
      have e1 : fX7_copies 10 8 (ml_w Ms 11 2 8) = some (.inl 0, cpR (ml_w Ms 11 2 8) 10 8) := cp_m (a := 10) (b := 8) (by decide) (by decide) (by decide) _
      rw [e8, e1, bd_l, cpR_o (by decide), w_un (show 4 ≠ 2 by decide), a2 11 (by decide), q11 4 (by decide)]
    rw [e2]
    refine ⟨_, rfl, by rw [cpR_o (by decide), w_un (by decide), a2 11 (by decide)]; exact q0, by rw [cpR_o (by decide), w_at]; rfl, fun q a b => by rw [cpR_o (by decide), w_un b, a2 11 (by decide)]; exact q11 q a, fun p a b => by rw [cpR_o b, ml_w_ne a, a2 p b]; exact qo p a, fun q hq => ?_, fun q hq => ?_, fun k q a b hq => ?_, fun q hq => ?_⟩
    · rw [cpR_12, if_neg (by omega), ml_w_ne (by decide), a3, if_neg (by omega), qo 12 (by decide)]
    · rw [cpR_12, if_pos ⟨by omega, by omega⟩, ml_w_ne (by decide), a3, if_neg (by omega), qo 12 (by decide)]
      exact congrArg (M 12) (by omega)
    · rw [cpR_12, if_neg (by omega), ml_w_ne (by decide), a3, if_pos ⟨by omega, by omega⟩, qo 12 (by decide), if_neg h8]
      exact congrArg (M 12) (by omega)
    · rw [cpR_12, if_neg (by omega), ml_w_ne (by decide), a3, if_neg (by omega), qo 12 (by decide)]
