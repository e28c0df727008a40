/-! Sums, ranks, litres, the check of the whole. -/
theorem sv_c {i : Nat} (M : ml_M) : fX5_sumOfVolumes i M = some (.inl (wsum (M (ml_fl i + 2))), M) := by
  have st : ∀ a c n, a < 5 → fX5_sumOfVolumes_l i (n + 1) c (nI a) M = fX5_sumOfVolumes_l i n (c + M (ml_fl i + 2) a) (nI (a + 1)) M := by
    intro a c n ha
    show fX5_sumOfVolumes_s0 i (fX5_sumOfVolumes_l i n) c (nI a) M = _
    unfold fX5_sumOfVolumes_s0
    rw [if_neg (fun z => by have := (nI_leI (a := 5) (b := a) (by decide) (by omega)).mp z; omega), if_pos (ok_nI ha (by decide)), nI_clamp (by omega), lt_e, nI_1]
  unfold fX5_sumOfVolumes
  obtain ⟨z, hz⟩ : ∃ z, ml_fuel = z + 6 := ⟨ml_fuel - 6, by unfold ml_fuel; omega⟩
  rw [hz]
  refine (st 0 0 (z + 5) (by decide)).trans ((st 1 _ (z + 4) (by decide)).trans ((st 2 _ (z + 3) (by decide)).trans ((st 3 _ (z + 2) (by decide)).trans ((st 4 _ (z + 1) (by decide)).trans ?_))))
  show fX5_sumOfVolumes_s0 i (fX5_sumOfVolumes_l i z) _ (nI 5) M = _
  unfold fX5_sumOfVolumes_s0
  rw [if_pos (by decide)]
  rfl
theorem sa_c {i : Nat} (M : ml_M) : fX5_sumByAccounts i M = some (.inl (wacc (M (ml_fl i + 1))), M) := by
  have st : ∀ a c n, a < 5 → fX5_sumByAccounts_l i (n + 1) c (nI a) M = fX5_sumByAccounts_l i n (c + ml_sv a) (nI (a + 1)) M := by
    intro a c n ha
    show fX5_sumByAccounts_s0 i (fX5_sumByAccounts_l i n) c (nI a) M = _
    unfold fX5_sumByAccounts_s0
    rw [if_neg (fun z => by have := (nI_leI (a := 5) (b := a) (by decide) (by omega)).mp z; omega), if_pos (ok_nI ha (by decide)), nI_clamp (by omega), lt_e, nI_1]
  unfold fX5_sumByAccounts
  rw [lt_e]
  obtain ⟨z, hz⟩ : ∃ z, ml_fuel = z + 6 := ⟨ml_fuel - 6, by unfold ml_fuel; omega⟩
  rw [hz]
  refine (st 0 _ (z + 5) (by decide)).trans ((st 1 _ (z + 4) (by decide)).trans ((st 2 _ (z + 3) (by decide)).trans ((st 3 _ (z + 2) (by decide)).trans ((st 4 _ (z + 1) (by decide)).trans ?_))))
  show fX5_sumByAccounts_s0 i (fX5_sumByAccounts_l i z) _ (nI 5) M = _
  unfold fX5_sumByAccounts_s0
  rw [if_pos (by decide)]
  rfl
theorem su_m (M : ml_M) : fX7_sum M = some (.inl (wsum (fun j => M 12 (11 + j))), M) := by
  unfold fX7_sum wsum
  rw [Int32.zero_add]
theorem wsum_e {n : Nat} {Mc Mm : ml_M} (h : fk n Mc 0 Mm) : wsum (fun j => Mm 12 (11 + j)) = wsum (Mc (ml_fl 0 + 2)) := by
  obtain ⟨v, hv⟩ := rV h
  unfold wsum
  dsimp only
  rw [(hv 0 (by decide)).1, (hv 1 (by decide)).1, (hv 2 (by decide)).1, (hv 3 (by decide)).1, (hv 4 (by decide)).1, (hv 0 (by decide)).2.1, (hv 1 (by decide)).2.1, (hv 2 (by decide)).2.1, (hv 3 (by decide)).2.1, (hv 4 (by decide)).2.1]
theorem tv_m {n : Nat} {M : ml_M} (h : fk n M 0 M) : fX7_totalVolume M = some (.inl (wsum (M (ml_fl 0 + 2))), ml_w M 11 0 0) := by
  unfold fX7_totalVolume
  rw [lt_e, su_m, bd_e, ← wsum_e h, t11]
theorem z_19 {n : Nat} (x1 x2 x3 : Int32) {M : ml_M} (hs : sI n M) : ∃ M9, lw_s19 x1 x2 x3 M M9 ∧ sI (n + 60) M9 := by
  obtain ⟨b, M1, M9, a1, a2, a3⟩ := rd_n (F := fX6_totalVolume) (G := fX7_totalVolume) hs ⟨wsum (M (ml_fl 0 + 2)), by unfold fX6_totalVolume; rw [sv_c, bd_e], tv_m hs.1⟩
  exact ⟨M9, ⟨b, M1, a1, a2⟩, a3⟩
theorem z_20 {n : Nat} (x1 x2 x3 : Int32) {M : ml_M} (hs : sI n M) : ∃ M9, lw_s20 x1 x2 x3 M M9 ∧ sI (n + 60) M9 := by
  obtain ⟨L, a, ⟨⟨v, o, g, r, d, hA, hB, hS⟩, hE, -⟩, -⟩ := id hs.1
  obtain ⟨b, M1, M9, a1, a2, a3⟩ := rd_n (F := fX6_totalVolumeByAccounts) (G := fX7_totalVolumeByAccounts) hs ⟨wsum (M (ml_fl 0 + 2)), by unfold fX6_totalVolumeByAccounts; rw [sa_c, bd_e, ← hS], by unfold fX7_totalVolumeByAccounts; rw [tv_m hs.1, bd_e]⟩
  exact ⟨M9, ⟨b, M1, a1, a2⟩, a3⟩
/-- ranks of basins -/
def rkf (V : Nat → Int32) (b j : Nat) : Nat := if 0 < wd V j b then 1 else if wd V j b = 0 then (if b ≤ j then 0 else 1) else 0
def rkv (V : Nat → Int32) (b : Nat) : Nat := 0 + rkf V b 0 + rkf V b 1 + rkf V b 2 + rkf V b 3 + rkf V b 4
theorem rk_c {i b : Nat} (hb : b < 5) (M : ml_M) : fX5_rankOfBasin i (nI b) M = some (.inl (nI (rkv (M (ml_fl i + 2)) b)), M) := by
  have st : ∀ j c n, j < 5 → fX5_rankOfBasin_l i (nI b) (n + 1) (nI b) (nI c) (nI j) M = fX5_rankOfBasin_l i (nI b) n (nI b) (nI (c + rkf (M (ml_fl i + 2)) b j)) (nI (j + 1)) M := by
    intro j c n hj
    show fX5_rankOfBasin_s0 i (nI b) (fX5_rankOfBasin_l i (nI b) n) (nI b) (nI c) (nI j) M = _
    unfold fX5_rankOfBasin_s0 rkf
    rw [if_neg (fun z => by have := (nI_leI (a := 5) (b := j) (by decide) (by omega)).mp z; omega), wd_c hj hb, bd_e, jn_e, nI_1, nI_1]
    by_cases h1 : 0 < wd (M (ml_fl i + 2)) j b
    · rw [if_pos h1, if_pos h1]
    · rw [if_neg h1, if_neg h1]
      by_cases h2 : wd (M (ml_fl i + 2)) j b = 0
      · rw [if_pos h2, if_pos h2]
        by_cases h3 : b ≤ j
        · rw [if_pos ((nI_leI (by omega) (by omega)).mpr h3), if_pos h3]
          rfl
        · rw [if_neg (fun z => h3 ((nI_leI (by omega) (by omega)).mp z)), if_neg h3]
      · rw [if_neg h2, if_neg h2]
        rfl
  unfold fX5_rankOfBasin
  obtain ⟨z, hz⟩ : ∃ z, ml_fuel = z + 6 := ⟨ml_fuel - 6, by unfold ml_fuel; omega⟩
  rw [hz]
  refine (st 0 0 (z + 5) (by decide)).trans ((st 1 _ (z + 4) (by decide)).trans ((st 2 _ (z + 3) (by decide)).trans ((st 3 _ (z + 2) (by decide)).trans ((st 4 _ (z + 1) (by decide)).trans ?_))))
  show fX5_rankOfBasin_s0 i (nI b) (fX5_rankOfBasin_l i (nI b) z) (nI b) _ (nI 5) M = _
  unfold fX5_rankOfBasin_s0 rkv
  rw [if_pos (by decide)]
theorem rk_m {b : Nat} (x1 : Int32) (hb : b < 5) (M : ml_M) (a0 : Int32) (n : Nat) : fX7_basinByLevel_l a0 (n + 6) 1 x1 (nI b) 0 0 M = (if nI (rkv (fun j => M 12 (11 + j)) b) = x1 then some (.inl (nI b), ml_w M 11 0 0) else fX7_basinByLevel_l a0 n 0 x1 (nI (b + 1)) 0 0 (ml_w M 11 0 1)) := by
  have st : ∀ j c n, j < 5 → fX7_basinByLevel_l a0 (n + 1) 1 x1 (nI b) (nI c) (nI j) M = fX7_basinByLevel_l a0 n 1 x1 (nI b) (nI (c + rkf (fun j => M 12 (11 + j)) b j)) (nI (j + 1)) M := by
    intro j c n hj
    show fX7_basinByLevel_s1 a0 (fX7_basinByLevel_l a0 n) x1 (nI b) (nI c) (nI j) M = _
    unfold fX7_basinByLevel_s1 rkf
    rw [if_neg (fun z => by have := (nI_leI (a := 5) (b := j) (by decide) (by omega)).mp z; omega), wd_m hj hb, bd_e, jn_e, nI_1]
    dsimp only
    by_cases h1 : 0 < wd (fun j => M 12 (11 + j)) j b
    · rw [if_pos h1, if_pos h1, nI_1]
    · rw [if_neg h1, if_neg h1, wd_m hj hb, bd_e]
      by_cases h2 : wd (fun j => M 12 (11 + j)) j b = 0
      · rw [if_pos h2, if_pos h2]
        by_cases h3 : b ≤ j
        · rw [if_pos ((nI_leI (by omega) (by omega)).mpr h3), if_pos h3]
          exact congrArg (fun z => fX7_basinByLevel_l a0 n 1 x1 (nI b) z (nI (j + 1)) M) (nI_add c 0)
        · rw [if_neg (fun z => h3 ((nI_leI (by omega) (by omega)).mp z)), if_neg h3, nI_1]
      · rw [if_neg h2, if_neg h2]
        exact congrArg (fun z => fX7_basinByLevel_l a0 n 1 x1 (nI b) z (nI (j + 1)) M) (nI_add c 0)
  refine (st 0 0 (n + 5) (by decide)).trans ((st 1 _ (n + 4) (by decide)).trans ((st 2 _ (n + 3) (by decide)).trans ((st 3 _ (n + 2) (by decide)).trans ((st 4 _ (n + 1) (by decide)).trans ?_))))
  show fX7_basinByLevel_s1 a0 (fX7_basinByLevel_l a0 n) x1 (nI b) (nI (rkv (fun j => M 12 (11 + j)) b)) (nI 5) M = _
  unfold fX7_basinByLevel_s1
  rw [if_pos (by decide), jn_e]
  by_cases h : nI (rkv (fun j => M 12 (11 + j)) b) = x1
  · rw [if_pos h, if_pos h]
    dsimp only
    rw [fine1, bd_e, if_1]
  · rw [if_neg h, if_neg h]
    dsimp only
    rw [fine0, bd_e, if_0, nI_1]
theorem rkv_congr {V W : Nat → Int32} {b : Nat} (hb : b < 5) (h : ∀ j, j < 5 → V j = W j) : rkv V b = rkv W b := by
  have e : ∀ j, j < 5 → rkf V b j = rkf W b j := fun j hj => by
    unfold rkf
    rw [wd_congr (h j hj) (h b hb)]
  unfold rkv
  rw [e 0 (by decide), e 1 (by decide), e 2 (by decide), e 3 (by decide), e 4 (by decide)]
theorem bl_l {n : Nat} {Mc Mm : ml_M} (h : fk n Mc 0 Mm) (x1 a0 : Int32) : ∀ (s b m1 m2 : Nat) (Mt : ml_M), b + s = 5 → s < m1 → 8 * s < m2 → Mt 12 = Mm 12 → (∀ x, ml_w Mt 11 0 x = ml_w Mm 11 0 x) → RD (fun e => if e = 4 then 1 else 0) (fX6_basinByLevel_l a0 m1 x1 (nI b) Mc) (fX7_basinByLevel_l a0 m2 0 x1 (nI b) 0 0 Mt) Mc Mm := by
  intro s
  induction s with
  | zero =>
    intro b m1 m2 Mt hb h1 h2 h12 hw
    obtain ⟨m1, rfl⟩ : ∃ z, m1 = z + 1 := ⟨m1 - 1, by omega⟩
    obtain ⟨m2, rfl⟩ : ∃ z, m2 = z + 1 := ⟨m2 - 1, by omega⟩
    have e : b = 5 := by omega
    subst e
    refine Or.inr ⟨4, by decide, ?_, ?_⟩
    · show fX6_basinByLevel_s0 a0 (fX6_basinByLevel_l a0 m1) x1 (nI 5) Mc = _
      unfold fX6_basinByLevel_s0
      rw [if_pos (by decide)]
    · show fX7_basinByLevel_s0 a0 (fX7_basinByLevel_l a0 m2) x1 (nI 5) 0 0 Mt = _
      unfold fX7_basinByLevel_s0
      rw [if_pos (by decide), lt_e, hw]
      rfl
  | succ s ih =>
    intro b m1 m2 Mt hb h1 h2 h12 hw
    obtain ⟨m1, rfl⟩ : ∃ z, m1 = z + 1 := ⟨m1 - 1, by omega⟩
    obtain ⟨m2, rfl⟩ : ∃ z, m2 = z + 7 := ⟨m2 - 7, by omega⟩
    obtain ⟨v, hv⟩ := rV h
    have e1 : fX6_basinByLevel_l a0 (m1 + 1) x1 (nI b) Mc = if nI (rkv (Mc (ml_fl 0 + 2)) b) = x1 then some (.inl (nI b), Mc) else fX6_basinByLevel_l a0 m1 x1 (nI (b + 1)) Mc := by
      show fX6_basinByLevel_s0 a0 (fX6_basinByLevel_l a0 m1) x1 (nI b) Mc = _
      unfold fX6_basinByLevel_s0
      rw [if_neg (fun z => by have := (nI_leI (a := 5) (b := b) (by decide) (by omega)).mp z; omega), rk_c (by omega), bd_e, nI_1]
    have e2 : fX7_basinByLevel_l a0 (m2 + 7) 0 x1 (nI b) 0 0 Mt = fX7_basinByLevel_l a0 (m2 + 6) 1 x1 (nI b) 0 0 Mt := by
      show fX7_basinByLevel_s0 a0 (fX7_basinByLevel_l a0 (m2 + 6)) x1 (nI b) 0 0 Mt = _
      unfold fX7_basinByLevel_s0
      rw [if_neg (fun z => by have := (nI_leI (a := 5) (b := b) (by decide) (by omega)).mp z; omega)]
    have er : rkv (fun j => Mt 12 (11 + j)) b = rkv (Mc (ml_fl 0 + 2)) b := rkv_congr (by omega) (fun j hj => by rw [h12, (hv j hj).1, (hv j hj).2.1])
    rw [e1, e2, rk_m x1 (by omega) Mt a0 m2, er]
    by_cases hx : nI (rkv (Mc (ml_fl 0 + 2)) b) = x1
    · rw [if_pos hx, if_pos hx, hw]
      exact Or.inl ⟨nI b, rfl, rfl⟩
    · rw [if_neg hx, if_neg hx]
      exact ih (b + 1) m1 m2 (ml_w Mt 11 0 1) (by omega) (by omega) (by omega) (by rw [t11, h12]) (fun x => by rw [w_w, hw])
theorem z_24 {n : Nat} (x1 x2 x3 : Int32) {M : ml_M} (hs : sI n M) : ∃ M9, lw_s24 x1 x2 x3 M M9 ∧ sI (n + 60) M9 := by
  obtain ⟨k, b, M1, M2, M9, a1, a2, a3, a4, a5⟩ := rd_g (cat := fun e => if e = 4 then 1 else 0) (F := fX6_basinByLevel x1) (G := fX7_basinByLevel x1) id hs (fun Mm h => bl_l h x1 x1 5 0 ml_fuel ml_fuel Mm rfl (by unfold ml_fuel; omega) (by unfold ml_fuel; omega) rfl (fun _ => rfl))
  exact ⟨M9, ⟨k, b, M1, M2, a1, a2, a3, a4⟩, a5⟩
/-- litre by litre -/
theorem sb_c {i f t l : Nat} {M : ml_M} {v : Nat → Nat} (hf : f < 5) (ht : t < 5) (hv : wv (M (ml_fl i + 2)) v) (hl : l ≤ v f) : fX5_staysBelow i (nI f) (nI t) (nI l) M = some (.inl (if (v t + l) * ar f ≤ (v f - l) * ar t then 1 else 0), M) := by
  have okf : ml_ok (nI f) 5 := ok_nI hf (by decide)
  have okt : ml_ok (nI t) 5 := ok_nI ht (by decide)
  have cf : (nI f).toNatClampNeg = f := nI_clamp (by omega)
  have ct : (nI t).toNatClampNeg = t := nI_clamp (by omega)
  have g1 : v f ≤ 400 := lim4 hv hf
  have g2 : v t ≤ 400 := lim4 hv ht
  have b1 : (v f - l) * ar t ≤ 4000 := mul_le_400 (by omega)
  have b2 : (v t + l) * ar f ≤ 8000 := Nat.le_trans (Nat.mul_le_mul (show v t + l ≤ 800 by omega) (ar_le f)) (by decide)
  unfold fX5_staysBelow
  simp only [if_pos okf, if_pos okt, cf, ct, wa_c hf, wa_c ht, bd_e, jn_e, (hv f hf).1, (hv t ht).1, pk_sub hl, nI_add, pk_mul, nbi0, nbi1]
  by_cases h : (v t + l) * ar f ≤ (v f - l) * ar t
  · rw [if_pos h, if_neg (fun z => by have := (nI_ltI (by omega) (by omega)).mp z; omega)]
  · rw [if_neg h, if_pos ((nI_ltI (by omega) (by omega)).mpr (by omega))]
theorem al_l {i f t q : Nat} {M : ml_M} {v : Nat → Nat} (a0 x1 x2 : Int32) (hf : f < 5) (ht : t < 5) (hv : wv (M (ml_fl i + 2)) v) (hd : v t * ar f ≤ v f * ar t) (hq : q = (v f * ar t - v t * ar f) / (ar f + ar t)) : ∀ (s l n : Nat), l + s = q → s < n → fX5_amountByLitres_l i a0 n x1 x2 (nI f) (nI t) (nI l) M = some (.inl (nI q), M) := by
  have okf : ml_ok (nI f) 5 := ok_nI hf (by decide)
  have cf : (nI f).toNatClampNeg = f := nI_clamp (by omega)
  have g1 : v f ≤ 400 := lim4 hv hf
  have A1 := ar_ge f
  have B1 := ar_ge t
  have key : ∀ l, l < v f → ((v t + (l + 1)) * ar f ≤ (v f - (l + 1)) * ar t ↔ l + 1 ≤ q) := by
    intro l hl
    rw [hq, Nat.le_div_iff_mul_le (by omega), Nat.mul_add, Nat.sub_mul, Nat.add_mul]
    have : (l + 1) * ar t ≤ v f * ar t := Nat.mul_le_mul_right _ (by omega)
    omega
  have qf : q ≤ v f := by
    rw [hq]
    have h1 : (v f * ar t - v t * ar f) ≤ v f * (ar f + ar t) := by
      rw [Nat.mul_add]
      omega
    exact Nat.le_trans (Nat.div_le_div_right h1) (Nat.le_of_eq (Nat.mul_div_cancel _ (by omega)))
  intro s
  induction s with
  | zero =>
    intro l n hl hn
    obtain ⟨n, rfl⟩ : ∃ z, n = z + 1 := ⟨n - 1, by omega⟩
    have e : l = q := by omega
    subst e
    show fX5_amountByLitres_s0 i a0 (fX5_amountByLitres_l i a0 n) x1 x2 (nI f) (nI t) (nI l) M = _
    unfold fX5_amountByLitres_s0
    rw [if_pos okf, jn_e, cf, (hv f hf).1]
    by_cases h : v f ≤ l
    · rw [if_pos ((nI_leI (by omega) (by omega)).mpr h)]
    · rw [if_neg (fun z => h ((nI_leI (by omega) (by omega)).mp z)), nI_1, sb_c hf ht hv (by omega), if_neg (fun z => by have := (key l (by omega)).mp z; omega), bd_e, if_0]
  | succ s ih =>
    intro l n hl hn
    obtain ⟨n, rfl⟩ : ∃ z, n = z + 1 := ⟨n - 1, by omega⟩
    rw [← ih (l + 1) n (by omega) (by omega)]
    show fX5_amountByLitres_s0 i a0 (fX5_amountByLitres_l i a0 n) x1 x2 (nI f) (nI t) (nI l) M = _
    unfold fX5_amountByLitres_s0
    rw [if_pos okf, jn_e, cf, (hv f hf).1, if_neg (fun z => by have := (nI_leI (by omega) (by omega)).mp z; omega), nI_1, sb_c hf ht hv (by omega), if_pos ((key l (by omega)).mpr (by omega)), bd_e, if_1]
theorem al_c {i a : Nat} {M : ml_M} {v : Nat → Nat} (ha : a < 4) (hv : wv (M (ml_fl i + 2)) v) : fX5_amountByLitres i (nI a) M = some (.inl (nI (nq v a)), M) := by
  have h1 := mul_le_400 (a := a + 1) (lim4 hv (show a < 5 by omega))
  have h2 := mul_le_400 (a := a) (lim4 hv (show a + 1 < 5 by omega))
  have hqle : nq v a ≤ 4000 := nq_le hv ha
  unfold fX5_amountByLitres
  rw [nI_1, wd_c (by omega) (by omega), bd_e, jn_e]
  by_cases hc : v a * ar (a + 1) ≤ v (a + 1) * ar a
  · have e0 : wd (M (ml_fl i + 2)) a (a + 1) ≤ 0 := by
      rw [wd_neg hv (by omega) (by omega) hc, Int32.le_iff_toInt_le, w_toInt (by omega)]
      have : (0 : Int32).toInt = 0 := by decide
      omega
    rw [if_pos e0]
    dsimp only
    rw [jn_e, if_0]
    dsimp only
    rw [jn_e, if_0]
    have e := al_l (i := i) (M := M) (nI a) (nI a) 0 (show a + 1 < 5 by omega) (show a < 5 by omega) hv hc (q := nq v a) (by unfold nq; rw [show v a * ar (a + 1) - v (a + 1) * ar a = 0 by omega, Nat.zero_add, Nat.add_comm (ar a)]) (nq v a) 0 ml_fuel (by omega) (by unfold ml_fuel; omega)
    exact e
  · have e0 : ¬ wd (M (ml_fl i + 2)) a (a + 1) ≤ 0 := by
      rw [wd_pos hv (by omega) (by omega) (by omega)]
      exact nI_nle (by omega) (by omega)
    rw [if_neg e0]
    dsimp only
    rw [jn_e, if_1]
    dsimp only
    rw [jn_e, if_1]
    have e := al_l (i := i) (M := M) (nI a) (nI a) 1 (show a < 5 by omega) (show a + 1 < 5 by omega) hv (by omega) (q := nq v a) (by unfold nq; rw [show v (a + 1) * ar a - v a * ar (a + 1) = 0 by omega, Nat.add_zero]) (nq v a) 0 ml_fuel (by omega) (by unfold ml_fuel; omega)
    exact e
theorem wvq {n : Nat} {Mc Mm : ml_M} (h : fk n Mc 0 Mm) : ∃ v, wv (Mc (ml_fl 0 + 2)) v := by
  obtain ⟨v, hv⟩ := rV h
  exact ⟨v, fun j hj => (hv j hj).2⟩
theorem z_13 {n : Nat} (x1 x2 x3 : Int32) {M : ml_M} (hs : sI n M) : ∃ M9, lw_s13 x1 x2 x3 M M9 ∧ sI (n + 60) M9 := by
  obtain ⟨k, b, M1, M2, M9, a1, a2, a3, a4, a5⟩ := rd_g (cat := fun e => if e = 1 then 1 else 0) (F := fX6_equalizingAmountByLitres x1) (G := fX7_equalizingAmountByLitres x1) id hs (fun Mm h => by
    rcases gcase x1 with ⟨k, hk, rfl⟩ | ho
    · obtain ⟨v, hv⟩ := wvq h
      exact Or.inl ⟨nI (nq v k), by simp only [fX6_equalizingAmountByLitres, ng_c hk, bd_e, al_c hk hv], by simp only [fX7_equalizingAmountByLitres, fX7_equalizingAmount, gt_m1 hk, bd_e, jn_e, fine1, if_1, wq_m hk, wqe h hk, wq_n hv hk]⟩
    · exact RD.bad1 (by simp only [fX6_equalizingAmountByLitres, ng_x (ho M).1, bd_x]) (by simp only [fX7_equalizingAmountByLitres, fX7_equalizingAmount, (ho Mm).2, bd_e, jn_e, fine0, if_0, if_T]))
  exact ⟨M9, ⟨k, b, M1, M2, a1, a2, a3, a4⟩, a5⟩
/-- the check of the whole -/
theorem aa_c {M : ml_M} {v : Nat → Nat} (hv : wv (M (ml_fl 0 + 2)) v) : fX5_amountsAgree 0 M = some (.inl 1, M) := by
  have st : ∀ a n, a < 4 → fX5_amountsAgree_l 0 (n + 1) (nI a) M = fX5_amountsAgree_l 0 n (nI (a + 1)) M := by
    intro a n ha
    show fX5_amountsAgree_s0 0 (fX5_amountsAgree_l 0 n) (nI a) M = _
    unfold fX5_amountsAgree_s0
    rw [if_neg (fun z => by have := (nI_leI (a := 4) (b := a) (by decide) (by omega)).mp z; omega), wq_c ha, bd_e, al_c ha hv, bd_e, wq_n hv ha, if_pos rfl, nI_1]
  unfold fX5_amountsAgree
  obtain ⟨z, hz⟩ : ∃ z, ml_fuel = z + 5 := ⟨ml_fuel - 5, by unfold ml_fuel; omega⟩
  rw [hz]
  refine (st 0 (z + 4) (by decide)).trans ((st 1 (z + 3) (by decide)).trans ((st 2 (z + 2) (by decide)).trans ((st 3 (z + 1) (by decide)).trans ?_)))
  show fX5_amountsAgree_s0 0 (fX5_amountsAgree_l 0 z) (nI 4) M = _
  unfold fX5_amountsAgree_s0
  rw [if_pos (by decide)]
theorem wl_c {M : ml_M} {v : Nat → Nat} (hv : wv (M (ml_fl 0 + 2)) v) : fX5_isWithinLimits 0 M = some (.inl 1, M) := by
  have st : ∀ a n, a < 5 → fX5_isWithinLimits_l 0 (n + 1) (nI a) M = fX5_isWithinLimits_l 0 n (nI (a + 1)) M := by
    intro a n ha
    show fX5_isWithinLimits_s0 0 (fX5_isWithinLimits_l 0 n) (nI a) M = _
    unfold fX5_isWithinLimits_s0
    have e : (40 : Int32) * nI (ar a) = nI (40 * ar a) := pk_mul 40 (ar a)
    have := ar_le a
    have hl : v a ≤ 40 * ar a := (hv a ha).2
    rw [if_neg (fun z => by have := (nI_leI (a := 5) (b := a) (by decide) (by omega)).mp z; omega), if_pos (ok_nI ha (by decide)), wa_c ha, bd_e, nI_clamp (by omega), (hv a ha).1, e, if_pos ((nI_leI (by omega) (by omega)).mpr hl), nI_1]
  unfold fX5_isWithinLimits
  obtain ⟨z, hz⟩ : ∃ z, ml_fuel = z + 6 := ⟨ml_fuel - 6, by unfold ml_fuel; omega⟩
  rw [hz]
  refine (st 0 (z + 5) (by decide)).trans ((st 1 (z + 4) (by decide)).trans ((st 2 (z + 3) (by decide)).trans ((st 3 (z + 2) (by decide)).trans ((st 4 (z + 1) (by decide)).trans ?_))))
  show fX5_isWithinLimits_s0 0 (fX5_isWithinLimits_l 0 z) (nI 5) M = _
  unfold fX5_isWithinLimits_s0
  rw [if_pos (by decide)]
theorem wr_c {M : ml_M} {L : List fb} (h : bC M 0 L) (hL : L.length ≤ 8) (hok : ∀ x ∈ L, fb_ok x) (hR : rR L) : fX1_isWithinRoom 0 M = some (.inl 1, M) := by
  have st : ∀ a n, 1 ≤ a → a < 4 → fX1_isWithinRoom_l 0 (n + 1) (nI a) M = fX1_isWithinRoom_l 0 n (nI (a + 1)) M := by
    intro a n h1 ha
    have hc := cnt_le L a
    show fX1_isWithinRoom_s0 0 (fX1_isWithinRoom_l 0 n) (nI a) M = _
    unfold fX1_isWithinRoom_s0
    rw [if_neg (fun z => by have := (nI_leI (a := 4) (b := a) (by decide) (by omega)).mp z; omega), ci_c (by omega) h hL hok, bd_e, if_pos (show nI (cnt L a) ≤ (2 : Int32) from (nI_leI (b := 2) (by omega) (by decide)).mpr (hR a h1 (by omega))), nI_1]
  unfold fX1_isWithinRoom
  obtain ⟨z, hz⟩ : ∃ z, ml_fuel = z + 4 := ⟨ml_fuel - 4, by unfold ml_fuel; omega⟩
  rw [hz]
  refine (st 1 (z + 3) (by decide) (by decide)).trans ((st 2 (z + 2) (by decide) (by decide)).trans ((st 3 (z + 1) (by decide) (by decide)).trans ?_))
  show fX1_isWithinRoom_s0 0 (fX1_isWithinRoom_l 0 z) (nI 4) M = _
  unfold fX1_isWithinRoom_s0
  rw [if_pos (by decide)]
theorem z_42 {n : Nat} (x1 x2 x3 : Int32) {M : ml_M} (hs : sI n M) : ∃ M9, lw_s42 x1 x2 x3 M M9 ∧ sI (n + 60) M9 := by
  obtain ⟨v, hv⟩ := wvq hs.1
  obtain ⟨L, a, ⟨⟨-, -, -, -, -, -, -, hS⟩, hE, hG, hC, hM, hok, hL, hR⟩, -⟩ := id hs.1
  obtain ⟨b, M1, M9, a1, a2, a3⟩ := rd_n (F := fX6_isConsistent) (G := fX7_isConsistent) hs ⟨1, by
    unfold rS at hS
    simp only [fX6_isConsistent, aa_c hv, bd_e, jn_e, if_1, sv_c, sa_c, if_pos hS, wl_c hv, wr_c hC hL (fun x hx => (hok x hx).1) hR, nbi1], rfl⟩
  exact ⟨M9, ⟨b, M1, a1, a2⟩, a3⟩
