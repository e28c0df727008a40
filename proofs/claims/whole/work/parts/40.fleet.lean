/-! Calls that read boats and events. -/
theorem sub1_lt {l b : Nat} (hl : l < 1000) (hb : b < 2 ^ 31) : nI l - 1 < nI b ↔ l ≤ b := by
  rw [Int32.lt_iff_toInt_lt, nI_toInt hb]
  have e : (nI l - 1).toInt = (l : Int) - 1 := pk_sub_toInt (a := l) (b := 1) (by omega) (by decide)
  rw [e]
  omega
/-- an index below l, or not -/
theorem icase (a : Int32) {l : Nat} (hl : l ≤ 100) : (∃ b, b < l ∧ a = nI b ∧ ∀ (N : ml_M), fX7_in a 0 (nI l - 1) N = some (.inl 1, N)) ∨ ((a < 0 ∨ ¬ a < 0 ∧ ¬ a < nI l) ∧ ∀ (N : ml_M), fX7_in a 0 (nI l - 1) N = some (.inl 0, N)) := by
  by_cases h : a < 0
  · exact Or.inr ⟨Or.inl h, fun N => by rw [in_m, if_pos h]⟩
  obtain ⟨b, hb, rfl⟩ := nI_of h
  by_cases hbl : b < l
  · exact Or.inl ⟨b, hbl, rfl, fun N => by rw [in_m, if_neg h, if_neg (fun z => by have := (sub1_lt (by omega) hb).mp z; omega)]⟩
  · exact Or.inr ⟨Or.inr ⟨h, fun z => hbl ((nI_ltI hb (by omega)).mp z)⟩, fun N => by rw [in_m, if_neg h, if_pos ((sub1_lt (by omega) hb).mpr (by omega))]⟩
theorem ib_1 {a : Int32} {l : Nat} {N : ml_M} (h : ∀ N : ml_M, fX7_in a 0 (nI l - 1) N = some (.inl 1, N)) (h6 : N 12 6 = nI l) : fX7_isBoat a N = some (.inl 1, N) := by
  unfold fX7_isBoat
  rw [h6, h, bd_e, nbi1]
theorem ib_0 {a : Int32} {l : Nat} {N : ml_M} (h : ∀ N : ml_M, fX7_in a 0 (nI l - 1) N = some (.inl 0, N)) (h6 : N 12 6 = nI l) : fX7_isBoat a N = some (.inl 0, N) := by
  unfold fX7_isBoat
  rw [h6, h, bd_e, nbi0]
theorem nt_1 {b l : Nat} {M : ml_M} (h : b < l) (hl : l ≤ 100) (h5 : M (ml_fl 0 + 5) 0 = nI l) : fX6_needBoat (nI b) M = some (.inl 0, M) := by
  unfold fX6_needBoat
  rw [if_neg (nI_pos (by omega)), h5, if_pos ((nI_ltI (by omega) (by omega)).mpr h)]
theorem nt_0 {a : Int32} {l : Nat} {M : ml_M} (h : a < 0 ∨ ¬ a < 0 ∧ ¬ a < nI l) (h5 : M (ml_fl 0 + 5) 0 = nI l) : fX6_needBoat a M = some (.inr 1, M) := by
  unfold fX6_needBoat
  rcases h with h | ⟨h, h2⟩
  · rw [if_pos h]
  · rw [if_neg h, h5, if_neg h2]
/-- boats on both sides, a reader's view -/
theorem rB8 {n : Nat} {Mc Mm : ml_M} (h : fk n Mc 0 Mm) : ∃ L : List fb, L.length ≤ 8 ∧ bC Mc 0 L ∧ bM Mm mk0 L ∧ (∀ x ∈ L, fb_ok x) := by
  obtain ⟨L, a, ⟨-, -, -, hC, hM, hok, hL, -⟩, -⟩ := h
  exact ⟨L, hL, hC, hM, fun x hx => (hok x hx).1⟩
theorem b_at {L : List fb} {b : Nat} (h : b < L.length) : ∃ x, L[b]? = some x ∧ x ∈ L := ⟨L[b], List.getElem?_eq_getElem h, List.getElem_mem h⟩
theorem sg_m {k : Nat} (h : k < 3) (N : ml_M) : fX7_signOf (nI k) N = some (.inl (ml_cs k), N) := by
  rcases (show k = 0 ∨ k = 1 ∨ k = 2 by omega) with rfl | rfl | rfl <;> rfl
theorem sg_n {α : Type} {k : Nat} (h : k < 3) {a b : α} : (if narrow .char (.int (ml_cs k)) = .int (ml_cs k) then a else b) = a := by
  rcases (show k = 0 ∨ k = 1 ∨ k = 2 by omega) with rfl | rfl | rfl <;> rfl
theorem sg_c {b : Nat} {M : ml_M} {x : fb} (hb : b < 8) (hx : x.1 < 3) (h : M (ml_fl 0 + 6) b = nI x.1) : fX1_signOf 0 (nI b) M = some (.inl (ml_cs x.1), M) := by
  have ok8 : ml_ok (nI b) 8 := ok_nI hb (by decide)
  have cb : (nI b).toNatClampNeg = b := nI_clamp (by omega)
  have ok3 : ml_ok (nI x.1) 3 := ok_nI hx (by decide)
  have cx : (nI x.1).toNatClampNeg = x.1 := nI_clamp (by omega)
  simp only [fX1_signOf, if_pos ok8, cb, h, if_pos ok3, cx, sg_n hx]
theorem b_f {b f : Nat} (hb : b < 8) (hf : f < 5) (N : ml_M) (y : Int32) (h : N 12 (40 + 5 * b + f) = y) : fX7_b (nI b) (nI f) N = some (.inl y, N) := by rw [b_m hb hf, h]
theorem z_26 {n : Nat} (x1 x2 x3 : Int32) {M : ml_M} (hs : sI n M) : ∃ M9, lw_s26 x1 x2 x3 M M9 ∧ sI (n + 60) M9 := by
  obtain ⟨k, b, M1, M2, M9, a1, a2, a3, a4, a5⟩ := rd_g (cat := fun e => if e = 1 then 1 else 0) (F := fX6_colour x1) (G := fX7_colour x1) id hs (fun Mm h => by
    obtain ⟨L, hL, hC, hM, hok⟩ := rB8 h
    rcases icase x1 (l := L.length) (by omega) with ⟨b, hb, rfl, hi⟩ | ⟨ho, hi⟩
    · obtain ⟨x, hx, hxm⟩ := b_at hb
      have hx3 := (hok x hxm).1
      have f1 := (hM.2 b x hx).1
      have eb : fX7_b (nI b) 0 (ml_w Mm 11 0 0) = some (.inl (nI x.1), ml_w Mm 11 0 0) := b_f (f := 0) (by omega) (by decide) _ _ (by rw [t11]; exact f1)
      exact Or.inl ⟨ml_cs x.1, by simp only [fX6_colour, nt_1 hb (by omega) hC.1, bd_e, sg_c (show b < 8 by omega) hx3 (hC.2 b x hx).1, sg_n hx3], by simp only [fX7_colour, ib_1 hi hM.1, bd_e, jn_e, fine1, if_1, eb, sg_m hx3, sg_n hx3]⟩
    · exact RD.bad1 (by simp only [fX6_colour, nt_0 ho hC.1, bd_x]) (by simp only [fX7_colour, ib_0 hi hM.1, bd_e, jn_e, fine0, if_0, if_T]; rfl))
  exact ⟨M9, ⟨k, b, M1, M2, a1, a2, a3, a4⟩, a5⟩
theorem ofb {b f l : Nat} {Mm : ml_M} {y : Int32} (hi : ∀ N : ml_M, fX7_in (nI b) 0 (nI l - 1) N = some (.inl 1, N)) (h6 : Mm 12 6 = nI l) (hb : b < 8) (hf : f < 5) (h : Mm 12 (40 + 5 * b + f) = y) : fX7_ofBoat (nI b) (nI f) Mm = some (.inl y, ml_w Mm 11 0 0) := by
  have eb := b_f hb hf (ml_w Mm 11 0 0) y (by rw [t11]; exact h)
  simp only [fX7_ofBoat, ib_1 hi h6, bd_e, jn_e, fine1, if_1, eb]
theorem ofx {a f : Int32} {l : Nat} {Mm : ml_M} (hi : ∀ N : ml_M, fX7_in a 0 (nI l - 1) N = some (.inl 0, N)) (h6 : Mm 12 6 = nI l) : fX7_ofBoat a f Mm = some (.inl 0, ml_w Mm 11 0 1) := by
  simp only [fX7_ofBoat, ib_0 hi h6, bd_e, jn_e, fine0, if_0, if_T]
theorem z_27 {n : Nat} (x1 x2 x3 : Int32) {M : ml_M} (hs : sI n M) : ∃ M9, lw_s27 x1 x2 x3 M M9 ∧ sI (n + 60) M9 := by
  obtain ⟨k, b, M1, M2, M9, a1, a2, a3, a4, a5⟩ := rd_g (cat := fun e => if e = 1 then 1 else 0) (F := fX6_draught x1) (G := fX7_draught x1) id hs (fun Mm h => by
    obtain ⟨L, hL, hC, hM, hok⟩ := rB8 h
    rcases icase x1 (l := L.length) (by omega) with ⟨b, hb, rfl, hi⟩ | ⟨ho, hi⟩
    · obtain ⟨x, hx, hxm⟩ := b_at hb
      have ok8 : ml_ok (nI b) 8 := ok_nI (by omega) (by decide)
      have cb : (nI b).toNatClampNeg = b := nI_clamp (by omega)
      have e : fX7_ofBoat (nI b) 1 Mm = some (.inl (nI x.2.1), ml_w Mm 11 0 0) := ofb (f := 1) hi hM.1 (by omega) (by decide) (by rw [show 40 + 5 * b + 1 = 41 + 5 * b by omega]; exact (hM.2 b x hx).2.1)
      exact Or.inl ⟨nI x.2.1, by simp only [fX6_draught, nt_1 hb (by omega) hC.1, bd_e, if_pos ok8, cb, (hC.2 b x hx).2.1], by simp only [fX7_draught, e, bd_e]⟩
    · exact RD.bad1 (by simp only [fX6_draught, nt_0 ho hC.1, bd_x]) (by simp only [fX7_draught, ofx hi hM.1, bd_e]))
  exact ⟨M9, ⟨k, b, M1, M2, a1, a2, a3, a4⟩, a5⟩
theorem z_28 {n : Nat} (x1 x2 x3 : Int32) {M : ml_M} (hs : sI n M) : ∃ M9, lw_s28 x1 x2 x3 M M9 ∧ sI (n + 60) M9 := by
  obtain ⟨k, b, M1, M2, M9, a1, a2, a3, a4, a5⟩ := rd_g (cat := fun e => if e = 1 then 1 else 0) (F := fX6_isGoingDown x1) (G := fX7_isGoingDown x1) (fun r => if r = 0 then 0 else 1) hs (fun Mm h => by
    obtain ⟨L, hL, hC, hM, hok⟩ := rB8 h
    rcases icase x1 (l := L.length) (by omega) with ⟨b, hb, rfl, hi⟩ | ⟨ho, hi⟩
    · obtain ⟨x, hx, hxm⟩ := b_at hb
      have ok8 : ml_ok (nI b) 8 := ok_nI (by omega) (by decide)
      have cb : (nI b).toNatClampNeg = b := nI_clamp (by omega)
      have hw := (hok x hxm).2.2.2.1
      have e : fX7_ofBoat (nI b) 2 Mm = some (.inl (nI x.2.2.1), ml_w Mm 11 0 0) := ofb (f := 2) hi hM.1 (by omega) (by decide) (by rw [show 40 + 5 * b + 2 = 42 + 5 * b by omega]; exact (hM.2 b x hx).2.2.1)
      refine Or.inl ⟨nI x.2.2.1, by simp only [fX6_isGoingDown, nt_1 hb (by omega) hC.1, bd_e, if_pos ok8, cb, (hC.2 b x hx).2.2.1, nbi hw], ?_⟩
      simp only [fX7_isGoingDown, e, bd_e, jn_e, nbi0, nbi1, if_b hw]
      rcases (show x.2.2.1 = 0 ∨ x.2.2.1 = 1 by omega) with h0 | h0 <;> rw [h0] <;> rfl
    · exact RD.bad1 (by simp only [fX6_isGoingDown, nt_0 ho hC.1, bd_x]) (by simp only [fX7_isGoingDown, ofx hi hM.1, bd_e, jn_e]; rfl))
  exact ⟨M9, ⟨k, b, M1, M2, a1, a2, a3, a4⟩, a5⟩
theorem z_29 {n : Nat} (x1 x2 x3 : Int32) {M : ml_M} (hs : sI n M) : ∃ M9, lw_s29 x1 x2 x3 M M9 ∧ sI (n + 60) M9 := by
  obtain ⟨k, b, M1, M2, M9, a1, a2, a3, a4, a5⟩ := rd_g (cat := fun e => if e = 1 then 1 else 0) (F := fX6_basinOf x1) (G := fX7_basinOf x1) id hs (fun Mm h => by
    obtain ⟨L, hL, hC, hM, hok⟩ := rB8 h
    rcases icase x1 (l := L.length) (by omega) with ⟨b, hb, rfl, hi⟩ | ⟨ho, hi⟩
    · obtain ⟨x, hx, hxm⟩ := b_at hb
      have ok8 : ml_ok (nI b) 8 := ok_nI (by omega) (by decide)
      have cb : (nI b).toNatClampNeg = b := nI_clamp (by omega)
      have e : fX7_ofBoat (nI b) 3 Mm = some (.inl (nI x.2.2.2.1), ml_w Mm 11 0 0) := ofb (f := 3) hi hM.1 (by omega) (by decide) (by rw [show 40 + 5 * b + 3 = 43 + 5 * b by omega]; exact (hM.2 b x hx).2.2.2.1)
      exact Or.inl ⟨nI x.2.2.2.1, by simp only [fX6_basinOf, nt_1 hb (by omega) hC.1, bd_e, if_pos ok8, cb, (hC.2 b x hx).2.2.2.1], by simp only [fX7_basinOf, e, bd_e]⟩
    · exact RD.bad1 (by simp only [fX6_basinOf, nt_0 ho hC.1, bd_x]) (by simp only [fX7_basinOf, ofx hi hM.1, bd_e]))
  exact ⟨M9, ⟨k, b, M1, M2, a1, a2, a3, a4⟩, a5⟩
theorem z_30 {n : Nat} (x1 x2 x3 : Int32) {M : ml_M} (hs : sI n M) : ∃ M9, lw_s30 x1 x2 x3 M M9 ∧ sI (n + 60) M9 := by
  obtain ⟨k, b, M1, M2, M9, a1, a2, a3, a4, a5⟩ := rd_g (cat := fun e => if e = 1 then 1 else 0) (F := fX6_boatsIn x1) (G := fX7_boatsIn x1) id hs (fun Mm h => by
    obtain ⟨L, hL, hC, hM, hok⟩ := rB8 h
    rcases bcase x1 with ⟨k, hk, rfl⟩ | ho
    · have hM' : bM (ml_w Mm 11 0 0) mk0 L := hM.of (by rw [t11]) (fun q hq => by rw [t11])
      exact Or.inl ⟨nI (cnt L k), by simp only [fX6_boatsIn, nb_c hk, bd_e, ci_c (show k ≤ 4 by omega) hC hL hok], by simp only [fX7_boatsIn, bs_m1 hk, bd_e, jn_e, fine1, if_1, ib_m (show k ≤ 4 by omega) hM' hL hok]⟩
    · exact RD.bad1 (by simp only [fX6_boatsIn, (ho M).1, bd_x]) (by simp only [fX7_boatsIn, (ho Mm).2, bd_e, jn_e, fine0, if_0, if_T]))
  exact ⟨M9, ⟨k, b, M1, M2, a1, a2, a3, a4⟩, a5⟩
/-- ranks of boats -/
def bkf (C : Nat → Nat) (b j : Nat) : Nat := if C j < C b then 1 else if C j = C b then (if b ≤ j then 0 else 1) else 0
def bks (C : Nat → Nat) (b : Nat) : Nat → Nat
  | 0 => 0
  | j + 1 => bks C b j + bkf C b j
theorem kb_c {C : Nat → Nat} {l b : Nat} {M : ml_M} (hl : l ≤ 8) (hb : b < l) (h5 : M (ml_fl 0 + 5) 0 = nI l) (hC : ∀ j, j < l → M (ml_fl 0 + 6) j = nI (C j) ∧ C j < 3) (a0 : Int32) : ∀ (s j n : Nat), j + s = l → s < n → fX1_rankOfBoat_l 0 a0 n (nI b) (nI (bks C b j)) (nI j) M = some (.inl (nI (bks C b l)), M) := by
  intro s
  induction s with
  | zero =>
    intro j n hj hn
    obtain ⟨n, rfl⟩ : ∃ z, n = z + 1 := ⟨n - 1, by omega⟩
    have e : j = l := by omega
    subst e
    show fX1_rankOfBoat_s0 0 a0 (fX1_rankOfBoat_l 0 a0 n) (nI b) (nI (bks C b j)) (nI j) M = _
    unfold fX1_rankOfBoat_s0
    rw [h5, if_pos (Int32.le_refl _)]
  | succ s ih =>
    intro j n hj hn
    obtain ⟨n, rfl⟩ : ∃ z, n = z + 1 := ⟨n - 1, by omega⟩
    rw [← ih (j + 1) n (by omega) (by omega)]
    have okj : ml_ok (nI j) 8 := ok_nI (by omega) (by decide)
    have okb : ml_ok (nI b) 8 := ok_nI (by omega) (by decide)
    have cj : (nI j).toNatClampNeg = j := nI_clamp (by omega)
    have cb : (nI b).toNatClampNeg = b := nI_clamp (by omega)
    have hj3 := (hC j (by omega)).2
    have hb3 := (hC b (by omega)).2
    show fX1_rankOfBoat_s0 0 a0 (fX1_rankOfBoat_l 0 a0 n) (nI b) (nI (bks C b j)) (nI j) M = _
    unfold fX1_rankOfBoat_s0
    rw [h5, if_neg (fun z => by have := (nI_leI (by omega) (by omega)).mp z; omega)]
    simp only [if_pos okj, if_pos okb, jn_e, cj, cb, (hC j (by omega)).1, (hC b (by omega)).1, nI_1]
    show _ = fX1_rankOfBoat_l 0 a0 n (nI b) (nI (bks C b j + bkf C b j)) (nI (j + 1)) M
    unfold bkf
    by_cases h1 : C j < C b
    · have e1 : nI (C j) < nI (C b) := (nI_ltI (by omega) (by omega)).mpr h1
      have e2 : ¬ nI (C j) = nI (C b) := fun z => by have := (nI_eq (by omega) (by omega)).mp z; omega
      simp only [if_pos e1, if_neg e2, if_pos h1]
    · have e1 : ¬ nI (C j) < nI (C b) := fun z => h1 ((nI_ltI (by omega) (by omega)).mp z)
      by_cases h2 : C j = C b
      · have e2 : nI (C j) = nI (C b) := congrArg nI h2
        by_cases h3 : b ≤ j
        · have e3 : nI b ≤ nI j := (nI_leI (by omega) (by omega)).mpr h3
          simp only [if_neg e1, if_pos e2, if_1, if_pos e3, if_neg h1, if_pos h2, if_pos h3, Nat.add_zero]
        · have e3 : ¬ nI b ≤ nI j := fun z => h3 ((nI_leI (by omega) (by omega)).mp z)
          simp only [if_neg e1, if_pos e2, if_1, if_neg e3, if_neg h1, if_pos h2, if_neg h3]
      · have e2 : ¬ nI (C j) = nI (C b) := fun z => h2 ((nI_eq (by omega) (by omega)).mp z)
        simp only [if_neg e1, if_neg e2, if_0, if_neg h1, if_neg h2, Nat.add_zero, if_T]
theorem kb_m {C : Nat → Nat} {l b : Nat} {M : ml_M} (hl : l ≤ 8) (hb : b < l) (h6 : M 12 6 = nI l) (hC : ∀ j, j < l → M 12 (40 + 5 * j) = nI (C j) ∧ C j < 3) (x1 a0 : Int32) (m : Nat) : ∀ (s j : Nat), j + s = l → fX7_boatInOrder_l a0 (m + s + 1) 1 x1 (nI b) (nI (bks C b j)) (nI j) M = (if nI (bks C b l) = x1 then some (.inl (nI b), ml_w M 11 0 0) else fX7_boatInOrder_l a0 m 0 x1 (nI (b + 1)) 0 0 (ml_w M 11 0 1)) := by
  intro s
  induction s with
  | zero =>
    intro j hj
    have e : j = l := by omega
    subst e
    show fX7_boatInOrder_s1 a0 (fX7_boatInOrder_l a0 m) x1 (nI b) (nI (bks C b j)) (nI j) M = _
    unfold fX7_boatInOrder_s1
    rw [h6, if_pos (Int32.le_refl _), jn_e]
    by_cases h : nI (bks C b j) = x1
    · rw [if_pos h, if_pos h]
      dsimp only
      rw [fine1, bd_e, if_1]
    · rw [if_neg h, if_neg h]
      dsimp only
      rw [fine0, bd_e, if_0, nI_1]
  | succ s ih =>
    intro j hj
    rw [← ih (j + 1) (by omega)]
    have hj3 := (hC j (by omega)).2
    have hb3 := (hC b (by omega)).2
    have ej : fX7_b (nI j) 0 M = some (.inl (nI (C j)), M) := b_f (f := 0) (by omega) (by decide) _ _ (hC j (by omega)).1
    have eb : fX7_b (nI b) 0 M = some (.inl (nI (C b)), M) := b_f (f := 0) (by omega) (by decide) _ _ (hC b (by omega)).1
    show fX7_boatInOrder_s1 a0 (fX7_boatInOrder_l a0 (m + s + 1)) x1 (nI b) (nI (bks C b j)) (nI j) M = _
    unfold fX7_boatInOrder_s1
    rw [h6, if_neg (fun z => by have := (nI_leI (by omega) (by omega)).mp z; omega)]
    simp only [ej, eb, bd_e, jn_e, nI_1]
    show _ = fX7_boatInOrder_l a0 (m + s + 1) 1 x1 (nI b) (nI (bks C b j + bkf C b j)) (nI (j + 1)) M
    unfold bkf
    have z0 : nI (bks C b j) + 0 = nI (bks C b j) := Int32.add_zero _
    by_cases h1 : C j < C b
    · have e1 : nI (C j) < nI (C b) := (nI_ltI (by omega) (by omega)).mpr h1
      simp only [if_pos e1, if_pos h1]
    · have e1 : ¬ nI (C j) < nI (C b) := fun z => h1 ((nI_ltI (by omega) (by omega)).mp z)
      by_cases h2 : C j = C b
      · have e2 : nI (C j) = nI (C b) := congrArg nI h2
        by_cases h3 : b ≤ j
        · have e3 : nI b ≤ nI j := (nI_leI (by omega) (by omega)).mpr h3
          simp only [if_neg e1, if_pos e2, if_pos e3, if_neg h1, if_pos h2, if_pos h3, Nat.add_zero, z0]
        · have e3 : ¬ nI b ≤ nI j := fun z => h3 ((nI_leI (by omega) (by omega)).mp z)
          simp only [if_neg e1, if_pos e2, if_neg e3, if_neg h1, if_pos h2, if_neg h3]
      · have e2 : ¬ nI (C j) = nI (C b) := fun z => h2 ((nI_eq (by omega) (by omega)).mp z)
        simp only [if_neg e1, if_neg e2, if_neg h1, if_neg h2, Nat.add_zero, z0]
theorem bo_l {l : Nat} {Mc Mm : ml_M} {C : Nat → Nat} (hl : l ≤ 8) (h5 : Mc (ml_fl 0 + 5) 0 = nI l) (h6 : Mm 12 6 = nI l) (hC : ∀ j, j < l → (Mc (ml_fl 0 + 6) j = nI (C j) ∧ C j < 3) ∧ Mm 12 (40 + 5 * j) = nI (C j)) (x1 a0 : Int32) : ∀ (s b m1 m2 : Nat) (Mt : ml_M), b + s = l → s < m1 → 10 * s < m2 → Mt 12 = Mm 12 → (∀ x, ml_w Mt 11 0 x = ml_w Mm 11 0 x) → RD (fun e => if e = 4 then 1 else 0) (fX6_boatInOrder_l a0 m1 x1 (nI b) Mc) (fX7_boatInOrder_l a0 m2 0 x1 (nI b) 0 0 Mt) Mc Mm := by
  intro s
  induction s with
  | zero =>
    intro b m1 m2 Mt hb h1 h2 h12 hw
    obtain ⟨m1, rfl⟩ : ∃ z, m1 = z + 1 := ⟨m1 - 1, by omega⟩
    obtain ⟨m2, rfl⟩ : ∃ z, m2 = z + 1 := ⟨m2 - 1, by omega⟩
    have e : b = l := by omega
    subst e
    refine Or.inr ⟨4, by decide, ?_, ?_⟩
    · show fX6_boatInOrder_s0 a0 (fX6_boatInOrder_l a0 m1) x1 (nI b) Mc = _
      unfold fX6_boatInOrder_s0
      rw [h5, if_pos (Int32.le_refl _)]
    · show fX7_boatInOrder_s0 a0 (fX7_boatInOrder_l a0 m2) x1 (nI b) 0 0 Mt = _
      unfold fX7_boatInOrder_s0
      rw [h12, h6, if_pos (Int32.le_refl _), lt_e, hw]
      rfl
  | succ s ih =>
    intro b m1 m2 Mt hb h1 h2 h12 hw
    obtain ⟨m1, rfl⟩ : ∃ z, m1 = z + 1 := ⟨m1 - 1, by omega⟩
    obtain ⟨m2, rfl⟩ : ∃ z, m2 = z + l + 2 := ⟨m2 - l - 2, by omega⟩
    have e1 : fX6_boatInOrder_l a0 (m1 + 1) x1 (nI b) Mc = if nI (bks C b l) = x1 then some (.inl (nI b), Mc) else fX6_boatInOrder_l a0 m1 x1 (nI (b + 1)) Mc := by
      show fX6_boatInOrder_s0 a0 (fX6_boatInOrder_l a0 m1) x1 (nI b) Mc = _
      unfold fX6_boatInOrder_s0
      have ek : fX1_rankOfBoat 0 (nI b) Mc = some (.inl (nI (bks C b l)), Mc) := kb_c hl (by omega) h5 (fun j hj => (hC j hj).1) (nI b) l 0 ml_fuel (by omega) (by unfold ml_fuel; omega)
      rw [h5, if_neg (fun z => by have := (nI_leI (by omega) (by omega)).mp z; omega), ek, bd_e, nI_1]
    have e2 : fX7_boatInOrder_l a0 (m2 + l + 2) 0 x1 (nI b) 0 0 Mt = fX7_boatInOrder_l a0 (m2 + l + 1) 1 x1 (nI b) 0 0 Mt := by
      show fX7_boatInOrder_s0 a0 (fX7_boatInOrder_l a0 (m2 + l + 1)) x1 (nI b) 0 0 Mt = _
      unfold fX7_boatInOrder_s0
      rw [h12, h6, if_neg (fun z => by have := (nI_leI (by omega) (by omega)).mp z; omega)]
    have e3 := kb_m (M := Mt) hl (show b < l by omega) (by rw [h12]; exact h6) (fun j hj => ⟨by rw [h12]; exact (hC j hj).2, (hC j hj).1.2⟩) x1 a0 m2 l 0 (by omega)
    have e4 : fX7_boatInOrder_l a0 (m2 + l + 1) 1 x1 (nI b) 0 0 Mt = _ := e3
    rw [e1, e2, e4]
    by_cases hx : nI (bks C b l) = x1
    · rw [if_pos hx, if_pos hx, hw]
      exact Or.inl ⟨nI b, rfl, rfl⟩
    · rw [if_neg hx, if_neg hx]
      exact ih (b + 1) m1 m2 (ml_w Mt 11 0 1) (by omega) (by omega) (by omega) (by rw [t11, h12]) (fun x => by rw [w_w, hw])
theorem z_31 {n : Nat} (x1 x2 x3 : Int32) {M : ml_M} (hs : sI n M) : ∃ M9, lw_s31 x1 x2 x3 M M9 ∧ sI (n + 60) M9 := by
  obtain ⟨k, b, M1, M2, M9, a1, a2, a3, a4, a5⟩ := rd_g (cat := fun e => if e = 4 then 1 else 0) (F := fX6_boatInOrder x1) (G := fX7_boatInOrder x1) id hs (fun Mm h => by
    obtain ⟨L, hL, hC, hM, hok⟩ := rB8 h
    refine bo_l (l := L.length) (C := fun j => match L[j]? with | some x => x.1 | none => 0) hL hC.1 hM.1 (fun j hj => ?_) x1 x1 L.length 0 ml_fuel ml_fuel Mm (by omega) (by unfold ml_fuel; omega) (by unfold ml_fuel; omega) rfl (fun _ => rfl)
    obtain ⟨x, hx, hxm⟩ := b_at hj
    rw [hx]
    exact ⟨⟨(hC.2 j x hx).1, (hok x hxm).1⟩, (hM.2 j x hx).1⟩)
  exact ⟨M9, ⟨k, b, M1, M2, a1, a2, a3, a4⟩, a5⟩
theorem z_32 {n : Nat} (x1 x2 x3 : Int32) {M : ml_M} (hs : sI n M) : ∃ M9, lw_s32 x1 x2 x3 M M9 ∧ sI (n + 60) M9 := by
  obtain ⟨k, b, M1, M2, M9, a1, a2, a3, a4, a5⟩ := rd_g (cat := fun e => if e = 1 then 1 else 0) (F := fX6_floats x1 x2) (G := fX7_floats x1 x2) (fun r => if r = 0 then 0 else 1) hs (fun Mm h => by
    obtain ⟨L, hL, hC, hM, hok⟩ := rB8 h
    rcases icase x1 (l := L.length) (by omega) with ⟨b, hb, rfl, hi⟩ | ⟨ho, hi⟩
    · obtain ⟨x, hx, hxm⟩ := b_at hb
      rcases bcase x2 with ⟨k, hk, rfl⟩ | ho2
      · obtain ⟨v, hv⟩ := rV h
        have ok8 : ml_ok (nI b) 8 := ok_nI (by omega) (by decide)
        have cb : (nI b).toNatClampNeg = b := nI_clamp (by omega)
        have hl : v k ≤ 400 := by have := (hv k hk).2.2; have := lim_le k; omega
        have h9 := (hok x hxm).2.2.1
        have eb : fX7_b (nI b) 1 (ml_w Mm 11 0 0) = some (.inl (nI x.2.1), ml_w Mm 11 0 0) := b_f (f := 1) (by omega) (by decide) _ _ (by rw [t11, show 40 + 5 * b + 1 = 41 + 5 * b by omega]; exact (hM.2 b x hx).2.1)
        have ed := id_m (M := ml_w Mm 11 0 0) hk (by rw [t11]; exact (hv k hk).1) hl h9
        have er := re_c (i := 0) (M := M) hk (hv k hk).2.1 hl h9
        by_cases hd : v k < x.2.1 * ar k
        · rw [if_pos hd] at ed er
          exact Or.inl ⟨0, by simp only [fX6_floats, nt_1 hb (by omega) hC.1, nb_c hk, bd_e, if_pos ok8, cb, (hC.2 b x hx).2.1, er, nbi0], by simp only [fX7_floats, ib_1 hi hM.1, bs_m1 hk, bd_e, jn_e, if_1, fine1, eb, ed, if_0, if_T, nbi0]⟩
        · rw [if_neg hd] at ed er
          exact Or.inl ⟨1, by simp only [fX6_floats, nt_1 hb (by omega) hC.1, nb_c hk, bd_e, if_pos ok8, cb, (hC.2 b x hx).2.1, er, nbi1], by simp only [fX7_floats, ib_1 hi hM.1, bs_m1 hk, bd_e, jn_e, if_1, fine1, eb, ed, nbi1]⟩
      · exact RD.bad1 (by simp only [fX6_floats, nt_1 hb (by omega) hC.1, (ho2 M).1, bd_e, bd_x]) (by simp only [fX7_floats, ib_1 hi hM.1, (ho2 Mm).2, bd_e, jn_e, if_1, fine0, if_0, if_T, nbi0])
    · exact RD.bad1 (by simp only [fX6_floats, nt_0 ho hC.1, bd_x]) (by simp only [fX7_floats, ib_0 hi hM.1, bd_e, jn_e, fine0, if_0, if_T, nbi0]))
  exact ⟨M9, ⟨k, b, M1, M2, a1, a2, a3, a4⟩, a5⟩
theorem z_33 {n : Nat} (x1 x2 x3 : Int32) {M : ml_M} (hs : sI n M) : ∃ M9, lw_s33 x1 x2 x3 M M9 ∧ sI (n + 60) M9 := by
  obtain ⟨k, b, M1, M2, M9, a1, a2, a3, a4, a5⟩ := rd_g (cat := fun e => if e = 2 then 1 else 0) (F := fX6_leftTotal (lw_ic x1)) (G := fX7_leftTotal (lw_ic x1)) id hs (fun Mm h => by
    obtain ⟨L, a, ⟨-, -, hG, -⟩, -⟩ := id h
    rcases cn_case (lw_ic x1) with ⟨k, hk, hkc⟩ | hkc
    · have e8 : (8 : Int32) + nI k = nI (8 + k) := nIl 8 k
      have ok9 : ml_ok (nI (8 + k)) 960 := ok_nI (by omega) (by decide)
      have ok3 : ml_ok (nI k) 3 := ok_nI hk (by decide)
      have c3 : (nI k).toNatClampNeg = k := nI_clamp (by omega)
      have c9 : (nI (8 + k)).toNatClampNeg = 8 + k := nI_clamp (by omega)
      have n1 : ¬ nI k = -1 := fun z => by rcases (show k = 0 ∨ k = 1 ∨ k = 2 by omega) with rfl | rfl | rfl <;> exact absurd z (by decide)
      have n2 : ¬ nI k < 0 := nI_pos (by omega)
      exact Or.inl ⟨M (ml_fl 0 + 11) k, by simp only [fX6_leftTotal, cno_c, hkc, bd_e, if_neg n1, if_pos ok3, c3], by simp only [fX7_leftTotal, cof_m, hkc, bd_e, jn_e, if_neg n2, fine1, if_1, e8, if_pos ok9, c9, t11, hG k hk]⟩
    · refine Or.inr ⟨2, by decide, by simp only [fX6_leftTotal, cno_c, hkc, bd_e]; rfl, ?_⟩
      have n2 : (-1 : Int32) < 0 := by decide
      simp only [fX7_leftTotal, cof_m, hkc, bd_e, jn_e, if_pos n2, fine0, if_0, if_T])
  exact ⟨M9, ⟨k, b, M1, M2, a1, a2, a3, a4⟩, a5⟩
/-- events -/
theorem fm_8 : ∀ nx < 8, ∀ a < 8, (if 0 ≤ (((nI nx - 1) - nI a) ^^^ 8) then (nI nx - 1) - nI a - ((nI nx - 1) - nI a) / 8 * 8 else if (nI nx - 1) - nI a - ((nI nx - 1) - nI a) / 8 * 8 = 0 then (nI nx - 1) - nI a - ((nI nx - 1) - nI a) / 8 * 8 else (nI nx - 1) - nI a - ((nI nx - 1) - nI a) / 8 * 8 + 8) = nI ((nx + 7 - a) % 8) := by decide +kernel
theorem pl_c {nx a : Nat} {M : ml_M} (hn : nx < 8) (ha : a < 8) (h2 : M (ml_fl 0 + 12) 2 = nI nx) : fX0_placeOf 0 (nI a) M = some (.inl (nI ((nx + 7 - a) % 8)), M) := by
  have e := fm_8 nx hn a ha
  unfold fX0_placeOf fJ9_floorMod_7cf53
  rw [h2, if_pos (show ¬ (8 : Int32) = 0 by decide), lt_e]
  by_cases c1 : 0 ≤ (((nI nx - 1) - nI a) ^^^ 8)
  · rw [if_pos c1] at e
    rw [if_pos c1, bd_e, e]
  · rw [if_neg c1] at e
    rw [if_neg c1]
    by_cases c2 : (nI nx - 1) - nI a - ((nI nx - 1) - nI a) / 8 * 8 = 0
    · rw [if_pos c2] at e
      rw [if_pos c2, bd_e, e]
    · rw [if_neg c2] at e
      rw [if_neg c2, bd_e, e]
theorem nv_1 {b l : Nat} {M : ml_M} (h : b < l) (hl : l ≤ 100) (h5 : M (ml_fl 0 + 12) 3 = nI l) : fX6_needEvent (nI b) M = some (.inl 0, M) := by
  unfold fX6_needEvent
  rw [if_neg (nI_pos (by omega)), h5, if_pos ((nI_ltI (by omega) (by omega)).mpr h)]
theorem nv_0 {a : Int32} {l : Nat} {M : ml_M} (h : a < 0 ∨ ¬ a < 0 ∧ ¬ a < nI l) (h5 : M (ml_fl 0 + 12) 3 = nI l) : fX6_needEvent a M = some (.inr 4, M) := by
  unfold fX6_needEvent
  rcases h with h | ⟨h, h2⟩
  · rw [if_pos h]
  · rw [if_neg h, h5, if_neg h2]
theorem ie_1 {a : Int32} {l : Nat} {N : ml_M} (h : ∀ N : ml_M, fX7_in a 0 (nI l - 1) N = some (.inl 1, N)) (h6 : N 12 7 = nI l) : fX7_isEvent a N = some (.inl 1, N) := by
  unfold fX7_isEvent
  rw [h6, h, bd_e, nbi1]
theorem ie_0 {a : Int32} {l : Nat} {N : ml_M} (h : ∀ N : ml_M, fX7_in a 0 (nI l - 1) N = some (.inl 0, N)) (h6 : N 12 7 = nI l) : fX7_isEvent a N = some (.inl 0, N) := by
  unfold fX7_isEvent
  rw [h6, h, bd_e, nbi0]
theorem ch_n : ∀ k < 128, narrow .char (.int (nI k)) = .int (nI k) := by decide +kernel
theorem ch_t : ∀ k < 128, ((nI k).toUInt32 % 65536).toInt32 = nI k := by decide +kernel
theorem z_38 {n : Nat} (x1 x2 x3 : Int32) {M : ml_M} (hs : sI n M) : ∃ M9, lw_s38 x1 x2 x3 M M9 ∧ sI (n + 60) M9 := by
  obtain ⟨k, b, M1, M2, M9, a1, a2, a3, a4, a5⟩ := rd_g (cat := fun e => if e = 4 then 1 else 0) (F := fX6_eventKind x1) (G := fX7_eventKind x1) id hs (fun Mm h => by
    obtain ⟨L, a, ⟨-, ⟨nx, c, hn, hc8, h2, h3, h7, hE⟩, -⟩, -⟩ := id h
    rcases icase x1 (l := c) (by omega) with ⟨b, hb, rfl, hi⟩ | ⟨ho, hi⟩
    · obtain ⟨e1, e2, kc, hk, e3⟩ := hE b (by omega)
      have p8 : (nx + 7 - b) % 8 < 8 := Nat.mod_lt _ (by decide)
      have ok8 : ml_ok (nI ((nx + 7 - b) % 8)) 8 := ok_nI p8 (by decide)
      have c8 : (nI ((nx + 7 - b) % 8)).toNatClampNeg = (nx + 7 - b) % 8 := nI_clamp (by omega)
      have x1 : (2 : Int32) * nI b = nI (2 * b) := pk_mul 2 b
      have x2 : (24 : Int32) + nI (2 * b) = nI (24 + 2 * b) := nIl 24 (2 * b)
      have ok9 : ml_ok (nI (24 + 2 * b)) 960 := ok_nI (by omega) (by decide)
      have c9 : (nI (24 + 2 * b)).toNatClampNeg = 24 + 2 * b := nI_clamp (by omega)
      have ek : M (ml_fl 0 + 13) ((nx + 7 - b) % 8) = nI kc := e1.symm.trans e3
      exact Or.inl ⟨nI kc, by simp only [fX6_eventKind, nv_1 hb (by omega) h3, bd_e, pl_c hn (show b < 8 by omega) h2, if_pos ok8, c8, ek, if_pos (ch_n kc hk)], by simp only [fX7_eventKind, ie_1 hi h7, bd_e, jn_e, fine1, if_1, x1, x2, if_pos ok9, c9, t11, e3, ch_t kc hk, if_pos (ch_n kc hk)]⟩
    · exact Or.inr ⟨4, by decide, by simp only [fX6_eventKind, nv_0 ho h3, bd_x], by simp only [fX7_eventKind, ie_0 hi h7, bd_e, jn_e, fine0, if_0, if_T]; rfl⟩)
  exact ⟨M9, ⟨k, b, M1, M2, a1, a2, a3, a4⟩, a5⟩
theorem z_39 {n : Nat} (x1 x2 x3 : Int32) {M : ml_M} (hs : sI n M) : ∃ M9, lw_s39 x1 x2 x3 M M9 ∧ sI (n + 60) M9 := by
  obtain ⟨k, b, M1, M2, M9, a1, a2, a3, a4, a5⟩ := rd_g (cat := fun e => if e = 4 then 1 else 0) (F := fX6_eventNumber x1) (G := fX7_eventNumber x1) id hs (fun Mm h => by
    obtain ⟨L, a, ⟨-, ⟨nx, c, hn, hc8, h2, h3, h7, hE⟩, -⟩, -⟩ := id h
    rcases icase x1 (l := c) (by omega) with ⟨b, hb, rfl, hi⟩ | ⟨ho, hi⟩
    · obtain ⟨e1, e2, kc, hk, e3⟩ := hE b (by omega)
      have p8 : (nx + 7 - b) % 8 < 8 := Nat.mod_lt _ (by decide)
      have ok8 : ml_ok (nI ((nx + 7 - b) % 8)) 8 := ok_nI p8 (by decide)
      have c8 : (nI ((nx + 7 - b) % 8)).toNatClampNeg = (nx + 7 - b) % 8 := nI_clamp (by omega)
      have x1 : (2 : Int32) * nI b = nI (2 * b) := pk_mul 2 b
      have x2 : (24 : Int32) + nI (2 * b) = nI (24 + 2 * b) := nIl 24 (2 * b)
      have x3 : nI (24 + 2 * b) + 1 = nI (25 + 2 * b) := by rw [nI_1]; exact congrArg nI (by omega)
      have ok9 : ml_ok (nI (25 + 2 * b)) 960 := ok_nI (by omega) (by decide)
      have c9 : (nI (25 + 2 * b)).toNatClampNeg = 25 + 2 * b := nI_clamp (by omega)
      exact Or.inl ⟨M (ml_fl 0 + 14) ((nx + 7 - b) % 8), by simp only [fX6_eventNumber, nv_1 hb (by omega) h3, bd_e, pl_c hn (show b < 8 by omega) h2, if_pos ok8, c8], by simp only [fX7_eventNumber, ie_1 hi h7, bd_e, jn_e, fine1, if_1, x1, x2, x3, if_pos ok9, c9, t11, e2]⟩
    · exact Or.inr ⟨4, by decide, by simp only [fX6_eventNumber, nv_0 ho h3, bd_x], by simp only [fX7_eventNumber, ie_0 hi h7, bd_e, jn_e, fine0, if_0, if_T]⟩)
  exact ⟨M9, ⟨k, b, M1, M2, a1, a2, a3, a4⟩, a5⟩
