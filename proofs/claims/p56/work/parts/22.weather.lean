/-! Events and weather. -/
theorem w_at {M : ml_M} {a j : Nat} {x : Int32} : ml_w M a j x a j = x := by rw [ml_w_at, pk_us]
theorem w_un {M : ml_M} {a j q : Nat} {x : Int32} (h : q ≠ j) : ml_w M a j x a q = M a q := by rw [ml_w_at, pk_un h]
theorem ok_nI {a n : Nat} (h : a < n) (hn : n ≤ 1000) : ml_ok (nI a) n := ⟨nI_pos (by omega), by rw [nI_clamp (by omega)]; exact h⟩
/-- what a class's method on the flight i leaves -/
def fC (i : Nat) (M M' : ml_M) : Prop := ∀ k, (k < ml_fl i ∨ ml_fl i + 15 ≤ k ∨ k = ml_fl i + 5) → M' k = M k
/-- what the reference's step leaves -/
def fM (M M' : ml_M) : Prop := (∀ k, k ≠ 11 → k ≠ 12 → M' k = M k) ∧ (∀ q, 80 ≤ q → M' 12 q = M 12 q) ∧ ∀ q, q ≠ 5 → M' 11 q = M 11 q
theorem fC.rf {i : Nat} {M : ml_M} : fC i M M := fun _ _ => rfl
theorem fC.tr {i : Nat} {M M1 M2 : ml_M} (h : fC i M M1) (h2 : fC i M1 M2) : fC i M M2 := fun k hk => (h2 k hk).trans (h k hk)
theorem fM.rf {M : ml_M} : fM M M := ⟨fun _ _ _ => rfl, fun _ _ => rfl, fun _ _ => rfl⟩
theorem fM.tr {M M1 M2 : ml_M} (h : fM M M1) (h2 : fM M1 M2) : fM M M2 := ⟨fun k a b => (h2.1 k a b).trans (h.1 k a b), fun q a => (h2.2.1 q a).trans (h.2.1 q a), fun q a => (h2.2.2 q a).trans (h.2.2 q a)⟩
theorem fC.w {i o j : Nat} {x : Int32} {M M1 : ml_M} (h : fC i M M1) (ho : o < 15 ∧ o ≠ 5) : fC i M (ml_w M1 (ml_fl i + o) j x) := fun k hk => by
  rw [ml_w_ne (by omega)]
  exact h k hk
theorem fC.w0 {i j : Nat} {x : Int32} {M M1 : ml_M} (h : fC i M M1) : fC i M (ml_w M1 (ml_fl i) j x) := fun k hk => by
  rw [ml_w_ne (by omega)]
  exact h k hk
theorem fM.w {j : Nat} {x : Int32} {M M1 : ml_M} (h : fM M M1) (hj : j < 80) : fM M (ml_w M1 12 j x) := ⟨fun k a b => by rw [ml_w_ne b]; exact h.1 k a b, fun q a => by rw [w_un (by omega)]; exact h.2.1 q a, fun q a => by rw [ml_w_ne (by decide)]; exact h.2.2 q a⟩
theorem fM.w5 {x : Int32} {M M1 : ml_M} (h : fM M M1) : fM M (ml_w M1 11 5 x) := ⟨fun k a b => by rw [ml_w_ne a]; exact h.1 k a b, fun q a => by rw [ml_w_ne (by decide)]; exact h.2.1 q a, fun q a => by rw [w_un a]; exact h.2.2 q a⟩
/-- the class's log behind a note -/
def evC (i : Nat) (M : ml_M) (nx c : Nat) (k x : Int32) : ml_M := ml_w (ml_w (ml_w (ml_w M (ml_fl i + 13) nx k) (ml_fl i + 14) nx x) (ml_fl i + 12) 2 (nI ((nx + 1) % 8))) (ml_fl i + 12) 3 (nI (if c < 8 then c + 1 else 8))
theorem ev_c {i nx c k : Nat} {x : Int32} {M : ml_M} (hn : M (ml_fl i + 12) 2 = nI nx) (hx : nx < 8) (hc : M (ml_fl i + 12) 3 = nI c) (hc8 : c ≤ 8) (hk : vp_nar .char (nI k) = nI k) : fX0_note i (nI k) x M = some (.inl 0, evC i M nx c (nI k) x) := by
  unfold fX0_note ml_lt
  have o1 : ml_ok (M (ml_fl i + 12) 2) 8 := by rw [hn]; exact ok_nI hx (by decide)
  have t1 : (M (ml_fl i + 12) 2).toNatClampNeg = nx := by rw [hn]; exact nI_clamp (by omega)
  rw [if_pos o1]
  dsimp only
  have e1 : (ml_w M (ml_fl i + 13) (M (ml_fl i + 12) 2).toNatClampNeg (vp_nar .char (nI k))) (ml_fl i + 12) = M (ml_fl i + 12) := ml_w_ne (by omega)
  have e2 : (ml_w (ml_w M (ml_fl i + 13) (M (ml_fl i + 12) 2).toNatClampNeg (vp_nar .char (nI k))) (ml_fl i + 14) (M (ml_fl i + 12) 2).toNatClampNeg x) (ml_fl i + 12) = M (ml_fl i + 12) := by rw [ml_w_ne (by omega)]; exact e1
  rw [if_pos (by rw [e1]; exact o1)]
  have e3 : ((ml_w M (ml_fl i + 13) (M (ml_fl i + 12) 2).toNatClampNeg (vp_nar .char (nI k))) (ml_fl i + 12) 2) = M (ml_fl i + 12) 2 := by rw [e1]
  rw [e3]
  simp only [e2]
  rw [w_un (show 3 ≠ 2 by decide), e2, hn, hc, t1.symm.trans t1] <;> try rfl
  rw [hk, nI_1, nI_1]
  have e8 : nI (nx + 1) - nI (nx + 1) / 8 * 8 = nI ((nx + 1) % 8) := pk_rem (d := 8) (by omega) (by decide) (by decide)
  rw [e8, nI_clamp (by omega)]
  have e9 : (if 8 < nI (c + 1) then 8 else nI (c + 1)) = nI (if c < 8 then c + 1 else 8) := by
    by_cases h : c < 8
    · rw [if_pos h, if_neg]
      intro z
      have := (nI_ltI (a := 8) (b := c + 1) (by decide) (by omega)).mp z
      omega
    · rw [if_neg h, if_pos]
      · rfl
      · exact (nI_ltI (a := 8) (b := c + 1) (by decide) (by omega)).mpr (by omega)
  rw [e9]
  rfl
/-- the reference's row behind an event -/
def evM (M : ml_M) (c : Nat) (k x : Int32) : ml_M := fun p => if p = 12 then (fun q => if q = 7 then nI (if c < 8 then c + 1 else 8) else if q = 25 then x else if q = 24 then k else if 25 < q ∧ q < 40 then M 12 (q - 2) else M 12 q) else M p
theorem nIl (a b : Nat) : (Int32.ofNat a) + nI b = nI (a + b) := nI_add a b
theorem ev_ml {k x : Int32} {M : ml_M} {c : Nat} (hc : M 12 7 = nI c) (hc8 : c ≤ 8) : ∀ (t n : Nat) (Mt : ml_M), t < n → t ≤ 14 → (∀ p, p ≠ 12 → Mt p = M p) → (∀ q, Mt 12 q = if 25 + t < q ∧ q < 40 then M 12 (q - 2) else M 12 q) → fX7_happens_l k x n k x (nI (t + 1)) Mt = some (.inl 0, evM M c k x) := by
  intro t
  induction t with
  | zero =>
    intro n Mt hn ht hp hq
    obtain ⟨n, rfl⟩ : ∃ z, n = z + 1 := ⟨n - 1, by omega⟩
    show fX7_happens_s0 k x (fX7_happens_l k x n) k x (nI 1) Mt = _
    unfold fX7_happens_s0 ml_lt ml_jn
    rw [if_pos (show nI 1 ≤ 1 by decide)]
    dsimp only
    have e7 : ml_w (ml_w Mt 12 24 k) 12 25 x 12 7 = nI c := by rw [w_un (by decide), w_un (by decide), hq, if_neg (by omega), hc]
    have fin : ∀ y, y = nI (if c < 8 then c + 1 else 8) → ml_w (ml_w (ml_w Mt 12 24 k) 12 25 x) 12 7 y = evM M c k x := by
      intro y hy
      funext p
      unfold evM
      by_cases h12 : p = 12
      · subst h12
        rw [if_pos rfl]
        funext q
        by_cases h7 : q = 7
        · subst h7; rw [w_at, if_pos rfl, hy]
        rw [w_un h7, if_neg h7]
        by_cases h25 : q = 25
        · subst h25; rw [w_at, if_pos rfl]
        rw [w_un h25, if_neg h25]
        by_cases h24 : q = 24
        · subst h24; rw [w_at, if_pos rfl]
        rw [w_un h24, if_neg h24, hq]
      · rw [if_neg h12, ml_w_ne h12, ml_w_ne h12, ml_w_ne h12, hp p h12]
    rw [e7]
    by_cases h8 : c < 8
    · have hlt : ¬ (8 : Int32) ≤ nI c := fun z => by
        have := (nI_leI (a := 8) (b := c) (by decide) (by omega)).mp z
        omega
      rw [if_neg hlt, nI_1, fin _ (by rw [if_pos h8])]
    · have hge : (8 : Int32) ≤ nI c := (nI_leI (a := 8) (b := c) (by decide) (by omega)).mpr (by omega)
      rw [if_pos hge, fin _ (by rw [if_neg h8]; rfl)]
  | succ t ih =>
    intro n Mt hn ht hp hq
    obtain ⟨n, rfl⟩ : ∃ z, n = z + 1 := ⟨n - 1, by omega⟩
    show fX7_happens_s0 k x (fX7_happens_l k x n) k x (nI (t + 2)) Mt = _
    unfold fX7_happens_s0 ml_lt
    have hle : ¬ nI (t + 2) ≤ 1 := fun z => by
      have := (nI_leI (a := t + 2) (b := 1) (by omega) (by decide)).mp z
      omega
    have a1 : (24 : Int32) + nI (t + 2) = nI (26 + t) := (nIl 24 (t + 2)).trans (congrArg nI (by omega))
    have a2 : nI (26 + t) - 2 = nI (24 + t) := by
      have := pk_sub (a := 26 + t) (b := 2) (by omega)
      rw [show 26 + t - 2 = 24 + t by omega] at this
      exact this
    rw [if_neg hle, a1, a2, if_pos (ok_nI (by omega) (by decide)), if_pos (ok_nI (by omega) (by decide)), nI_clamp (by omega), nI_clamp (by omega)]
    dsimp only
    rw [show nI (t + 2) + (-1) = nI (t + 1) from pk_m1 (t + 1)]
    refine ih n _ (by omega) (by omega) (fun p hp9 => by rw [ml_w_ne hp9]; exact hp p hp9) (fun q => ?_)
    by_cases h : q = 26 + t
    · subst h
      rw [w_at, if_pos ⟨by omega, by omega⟩, hq, if_neg (by omega)]
      rw [show 26 + t - 2 = 24 + t by omega]
    · rw [w_un h, hq]
      by_cases h2 : 25 + (t + 1) < q ∧ q < 40
      · rw [if_pos h2, if_pos ⟨by omega, by omega⟩]
      · rw [if_neg h2, if_neg (by omega)]
theorem ev_m {c : Nat} {k x : Int32} {M : ml_M} (hc : M 12 7 = nI c) (hc8 : c ≤ 8) : fX7_happens k x M = some (.inl 0, evM M c k x) :=
  ev_ml hc hc8 14 100000 M (by decide) (by decide) (fun _ _ => rfl) (fun q => by rw [if_neg (by omega)])
/-- an event as the document has them: a gate passed, a boat left, water spilled -/
def evk (k x : Int32) : Prop := (k = nI 112 ∧ ∃ z, z ≤ 3 ∧ x = nI z) ∨ (k = nI 108 ∧ ∃ z, 1 ≤ z ∧ z ≤ 9 ∧ x = nI z) ∨ (k = nI 115 ∧ ∃ z, 1 ≤ z ∧ z ≤ 9 ∧ x = nI z)
/-- the events of the flight i and of the row -/
def rE (Mc : ml_M) (i : Nat) (Mm : ml_M) : Prop := ∃ nx c, nx < 8 ∧ c ≤ 8 ∧ Mc (ml_fl i + 12) 2 = nI nx ∧ Mc (ml_fl i + 12) 3 = nI c ∧ Mm 12 7 = nI c ∧ ∀ j, j < 8 → Mm 12 (24 + 2 * j) = Mc (ml_fl i + 13) ((nx + 7 - j) % 8) ∧ Mm 12 (25 + 2 * j) = Mc (ml_fl i + 14) ((nx + 7 - j) % 8) ∧ ∃ kc, kc < 128 ∧ Mm 12 (24 + 2 * j) = nI kc ∧ (j < c → evk (nI kc) (Mm 12 (25 + 2 * j)))
theorem rE.of {Mc Mc' Mm Mm' : ml_M} {i : Nat} (h : rE Mc i Mm) (h1 : ∀ o, 12 ≤ o → o < 15 → Mc' (ml_fl i + o) = Mc (ml_fl i + o)) (h2 : Mm' 12 7 = Mm 12 7) (h3 : ∀ q, 24 ≤ q → q < 40 → Mm' 12 q = Mm 12 q) : rE Mc' i Mm' := by
  obtain ⟨nx, c, a1, a2, a3, a4, a5, a6⟩ := h
  refine ⟨nx, c, a1, a2, by rw [h1 12 (by decide) (by decide)]; exact a3, by rw [h1 12 (by decide) (by decide)]; exact a4, by rw [h2]; exact a5, fun j hj => ?_⟩
  rw [h1 13 (by decide) (by decide), h1 14 (by decide) (by decide), h3 _ (by omega) (by omega), h3 _ (by omega) (by omega)]
  exact a6 j hj
/-- an event on both sides -/
theorem rE.note {Mc Mm : ml_M} {i k : Nat} {x : Int32} (h : rE Mc i Mm) (hk : vp_nar .char (nI k) = nI k) (hk2 : k < 128) (hev : evk (nI k) x) : ∃ Mc' Mm', fX0_note i (nI k) x Mc = some (.inl 0, Mc') ∧ fX7_happens (nI k) x Mm = some (.inl 0, Mm') ∧ rE Mc' i Mm' ∧ (∀ p, (p < ml_fl i + 12 ∨ ml_fl i + 15 ≤ p) → Mc' p = Mc p) ∧ (∀ p, p ≠ 12 → Mm' p = Mm p) ∧ ∀ q, (q < 7 ∨ 7 < q ∧ q < 24 ∨ 40 ≤ q) → Mm' 12 q = Mm 12 q := by
  obtain ⟨nx, c, a1, a2, a3, a4, a5, a6⟩ := h
  refine ⟨_, _, ev_c a3 a1 a4 a2 hk, ev_m a5 a2, ⟨(nx + 1) % 8, if c < 8 then c + 1 else 8, by omega, by split <;> omega, ?_, ?_, ?_, fun j hj => ?_⟩, fun p hp => ?_, fun p hp => ?_, fun q hq => ?_⟩
  · unfold evC
    rw [w_un (by decide), w_at]
  · unfold evC
    rw [w_at]
  · unfold evM
    rfl
  · have r13 : ∀ z, evC i Mc nx c (nI k) x (ml_fl i + 13) z = upd (Mc (ml_fl i + 13)) nx (nI k) z := fun z => by
      unfold evC
      rw [ml_w_ne (by omega), ml_w_ne (by omega), ml_w_ne (by omega), ml_w_at]
    have r14 : ∀ z, evC i Mc nx c (nI k) x (ml_fl i + 14) z = upd (Mc (ml_fl i + 14)) nx x z := fun z => by
      unfold evC
      rw [ml_w_ne (by omega), ml_w_ne (by omega), ml_w_at, ml_w_ne (by omega)]
    rw [r13, r14]
    by_cases h0 : j = 0
    · subst h0
      have e : ((nx + 1) % 8 + 7 - 0) % 8 = nx := by omega
      rw [e, pk_us, pk_us]
      exact ⟨rfl, rfl, k, hk2, rfl, fun _ => hev⟩
    · have e : ((nx + 1) % 8 + 7 - j) % 8 = (nx + 7 - (j - 1)) % 8 := by omega
      have e2 : (nx + 7 - (j - 1)) % 8 ≠ nx := by omega
      obtain ⟨b1, b2, kc, b3, b4, b5⟩ := a6 (j - 1) (by omega)
      rw [e, pk_un e2, pk_un e2]
      have m1 : evM Mm c (nI k) x 12 (24 + 2 * j) = Mm 12 (24 + 2 * (j - 1)) := by
        unfold evM
        rw [if_pos rfl, if_neg (by omega), if_neg (by omega), if_neg (by omega), if_pos ⟨by omega, by omega⟩, show 24 + 2 * j - 2 = 24 + 2 * (j - 1) by omega]
      have m2 : evM Mm c (nI k) x 12 (25 + 2 * j) = Mm 12 (25 + 2 * (j - 1)) := by
        unfold evM
        rw [if_pos rfl, if_neg (by omega), if_neg (by omega), if_neg (by omega), if_pos ⟨by omega, by omega⟩, show 25 + 2 * j - 2 = 25 + 2 * (j - 1) by omega]
      rw [m1, m2]
      exact ⟨b1, b2, kc, b3, b4, fun hj2 => b5 (by split at hj2 <;> omega)⟩
  · unfold evC
    rw [ml_w_ne (by omega), ml_w_ne (by omega), ml_w_ne (by omega), ml_w_ne (by omega)]
  · unfold evM
    rw [if_neg hp]
  · unfold evM
    rw [if_pos rfl, if_neg (by omega), if_neg (by omega), if_neg (by omega), if_neg (by omega)]
