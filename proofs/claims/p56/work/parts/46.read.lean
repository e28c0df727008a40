/-! The start, the law's changes, the simple readers. -/
theorem if_T {α : Type} {d : Decidable True} {a b : α} : @ite α True d a b = a := if_pos trivial
theorem if_F {α : Type} {d : Decidable False} {a b : α} : @ite α False d a b = b := if_neg (fun z => z)
theorem nbi0 {α : Type} {a b : α} : (if narrow .boolean (.int 0) = .int 0 then a else b) = a := if_pos (nbool (Or.inl rfl))
theorem nbi1 {α : Type} {a b : α} : (if narrow .boolean (.int 1) = .int 1 then a else b) = a := if_pos (nbool (Or.inr rfl))
theorem ar_nz (k : Nat) : ¬ (nI (ar k) = 0) := nI_ne0 (by have := ar_ge k; omega) (by have := ar_le k; omega)
theorem rl_c {k v : Nat} {Mc : ml_M} (hk : k < 5) (hv : Mc (ml_fl 0 + 2) k = nI v) : fX5_roundedLevel 0 (nI k) Mc = some (.inl (nI v / nI (ar k)), Mc) := by
  have ok5 : ml_ok (nI k) 5 := ok_nI hk (by decide)
  have ck : (nI k).toNatClampNeg = k := nI_clamp (by omega)
  unfold fX5_roundedLevel
  simp only [if_pos ok5, wa_c hk, bd_e, ck, hv, if_pos (ar_nz k)]
theorem wd_congr {V W : Nat → Int32} {a b : Nat} (h1 : V a = W a) (h2 : V b = W b) : wd V a b = wd W a b := by
  unfold wd
  rw [h1, h2]
theorem ng_c {k : Nat} (h : k < 4) (M : ml_M) : fX6_needGate (nI k) M = some (.inl 0, M) := by
  unfold fX6_needGate
  rw [gt_c1 h, bd_l, if_1]
theorem nbi {α : Type} {w : Nat} {a b : α} (h : w ≤ 1) : (if narrow .boolean (.int (nI w)) = .int (nI w) then a else b) = a := if_pos (nbool (by rcases (show w = 0 ∨ w = 1 by omega) with rfl | rfl; exact Or.inl rfl; exact Or.inr rfl))
theorem sv_c {i : Nat} (M : ml_M) : fX5_sumOfVolumes i M = some (.inl (wsum (M (ml_fl i + 2))), M) := by
  have st : ∀ a c n, a < 5 → fX5_sumOfVolumes_l i (n + 1) c (nI a) M = fX5_sumOfVolumes_l i n (c + M (ml_fl i + 2) a) (nI (a + 1)) M := by
    intro a c n ha
    show fX5_sumOfVolumes_s0 i (fX5_sumOfVolumes_l i n) c (nI a) M = _
    unfold fX5_sumOfVolumes_s0
    rw [if_neg (fun z => by have := (nI_leI (a := 5) (b := a) (by decide) (by omega)).mp z; omega), if_pos (ok_nI ha (by decide)), nI_clamp (by omega), lt_e, nI_1]
  unfold fX5_sumOfVolumes
  obtain ⟨z, hz⟩ : ∃ z, ml_fuel = z + 6 := ⟨ml_fuel - 6, by unfold ml_fuel; omega⟩
  rw [hz]
  refine (st 0 0 (z + 5) (by decide)).trans ((st 1 _ (z + 4) (by decide)).trans ((st 2 _ (z + 3) (by decide)).trans ((st 3 _ (z + 2) (by decide)).trans ((st 4 _ (z + 1) (by decide)).trans ?_))))
  show fX5_sumOfVolumes_s0 i (fX5_sumOfVolumes_l i z) _ (nI 5) M = _
  unfold fX5_sumOfVolumes_s0
  rw [if_pos (by decide)]
  rfl
theorem sa_c {i : Nat} (M : ml_M) : fX5_sumByAccounts i M = some (.inl (wacc (M (ml_fl i + 1))), M) := by
  have st : ∀ a c n, a < 5 → fX5_sumByAccounts_l i (n + 1) c (nI a) M = fX5_sumByAccounts_l i n (c + ml_sv a) (nI (a + 1)) M := by
    intro a c n ha
    show fX5_sumByAccounts_s0 i (fX5_sumByAccounts_l i n) c (nI a) M = _
    unfold fX5_sumByAccounts_s0
    rw [if_neg (fun z => by have := (nI_leI (a := 5) (b := a) (by decide) (by omega)).mp z; omega), if_pos (ok_nI ha (by decide)), nI_clamp (by omega), lt_e, nI_1]
  unfold fX5_sumByAccounts
  rw [lt_e]
  obtain ⟨z, hz⟩ : ∃ z, ml_fuel = z + 6 := ⟨ml_fuel - 6, by unfold ml_fuel; omega⟩
  rw [hz]
  refine (st 0 _ (z + 5) (by decide)).trans ((st 1 _ (z + 4) (by decide)).trans ((st 2 _ (z + 3) (by decide)).trans ((st 3 _ (z + 2) (by decide)).trans ((st 4 _ (z + 1) (by decide)).trans ?_))))
  show fX5_sumByAccounts_s0 i (fX5_sumByAccounts_l i z) _ (nI 5) M = _
  unfold fX5_sumByAccounts_s0
  rw [if_pos (by decide)]
  rfl
def rkf (V : Nat → Int32) (b j : Nat) : Nat := if 0 < wd V j b then 1 else if wd V j b = 0 then (if b ≤ j then 0 else 1) else 0
def rkv (V : Nat → Int32) (b : Nat) : Nat := 0 + rkf V b 0 + rkf V b 1 + rkf V b 2 + rkf V b 3 + rkf V b 4
theorem rk_c {i b : Nat} (hb : b < 5) (M : ml_M) : fX5_rankOfBasin i (nI b) M = some (.inl (nI (rkv (M (ml_fl i + 2)) b)), M) := by
  have st : ∀ j c n, j < 5 → fX5_rankOfBasin_l i (nI b) (n + 1) (nI b) (nI c) (nI j) M = fX5_rankOfBasin_l i (nI b) n (nI b) (nI (c + rkf (M (ml_fl i + 2)) b j)) (nI (j + 1)) M := by
    intro j c n hj
    show fX5_rankOfBasin_s0 i (nI b) (fX5_rankOfBasin_l i (nI b) n) (nI b) (nI c) (nI j) M = _
    unfold fX5_rankOfBasin_s0 rkf
    rw [if_neg (fun z => by have := (nI_leI (a := 5) (b := j) (by decide) (by omega)).mp z; omega), wd_c hj hb, bd_e, jn_e, nI_1, nI_1]
    by_cases h1 : 0 < wd (M (ml_fl i + 2)) j b
    · rw [if_pos h1, if_pos h1]
    · rw [if_neg h1, if_neg h1]
      by_cases h2 : wd (M (ml_fl i + 2)) j b = 0
      · rw [if_pos h2, if_pos h2]
        by_cases h3 : b ≤ j
        · rw [if_pos ((nI_leI (by omega) (by omega)).mpr h3), if_pos h3]
          rfl
        · rw [if_neg (fun z => h3 ((nI_leI (by omega) (by omega)).mp z)), if_neg h3]
      · rw [if_neg h2, if_neg h2]
        rfl
  unfold fX5_rankOfBasin
  obtain ⟨z, hz⟩ : ∃ z, ml_fuel = z + 6 := ⟨ml_fuel - 6, by unfold ml_fuel; omega⟩
  rw [hz]
  refine (st 0 0 (z + 5) (by decide)).trans ((st 1 _ (z + 4) (by decide)).trans ((st 2 _ (z + 3) (by decide)).trans ((st 3 _ (z + 2) (by decide)).trans ((st 4 _ (z + 1) (by decide)).trans ?_))))
  show fX5_rankOfBasin_s0 i (nI b) (fX5_rankOfBasin_l i (nI b) z) (nI b) _ (nI 5) M = _
  unfold fX5_rankOfBasin_s0 rkv
  rw [if_pos (by decide)]
theorem sb_c {i f t l : Nat} {M : ml_M} {v : Nat → Nat} (hf : f < 5) (ht : t < 5) (hv : wv (M (ml_fl i + 2)) v) (hl : l ≤ v f) : fX5_staysBelow i (nI f) (nI t) (nI l) M = some (.inl (if (v t + l) * ar f ≤ (v f - l) * ar t then 1 else 0), M) := by
  have okf : ml_ok (nI f) 5 := ok_nI hf (by decide)
  have okt : ml_ok (nI t) 5 := ok_nI ht (by decide)
  have cf : (nI f).toNatClampNeg = f := nI_clamp (by omega)
  have ct : (nI t).toNatClampNeg = t := nI_clamp (by omega)
  have g1 : v f ≤ 400 := lim4 hv hf
  have g2 : v t ≤ 400 := lim4 hv ht
  have b1 : (v f - l) * ar t ≤ 4000 := mul_le_400 (by omega)
  have b2 : (v t + l) * ar f ≤ 8000 := Nat.le_trans (Nat.mul_le_mul (show v t + l ≤ 800 by omega) (ar_le f)) (by decide)
  unfold fX5_staysBelow
  simp only [if_pos okf, if_pos okt, cf, ct, wa_c hf, wa_c ht, bd_e, jn_e, (hv f hf).1, (hv t ht).1, pk_sub hl, nI_add, pk_mul, nbi0, nbi1]
  by_cases h : (v t + l) * ar f ≤ (v f - l) * ar t
  · rw [if_pos h, if_neg (fun z => by have := (nI_ltI (by omega) (by omega)).mp z; omega)]
  · rw [if_neg h, if_pos ((nI_ltI (by omega) (by omega)).mpr (by omega))]
theorem al_l {i f t q : Nat} {M : ml_M} {v : Nat → Nat} (a0 x1 x2 : Int32) (hf : f < 5) (ht : t < 5) (hv : wv (M (ml_fl i + 2)) v) (hd : v t * ar f ≤ v f * ar t) (hq : q = (v f * ar t - v t * ar f) / (ar f + ar t)) : ∀ (s l n : Nat), l + s = q → s < n → fX5_amountByLitres_l i a0 n x1 x2 (nI f) (nI t) (nI l) M = some (.inl (nI q), M) := by
  have okf : ml_ok (nI f) 5 := ok_nI hf (by decide)
  have cf : (nI f).toNatClampNeg = f := nI_clamp (by omega)
  have g1 : v f ≤ 400 := lim4 hv hf
  have A1 := ar_ge f
  have B1 := ar_ge t
  have key : ∀ l, l < v f → ((v t + (l + 1)) * ar f ≤ (v f - (l + 1)) * ar t ↔ l + 1 ≤ q) := by
    intro l hl
    rw [hq, Nat.le_div_iff_mul_le (by omega), Nat.mul_add, Nat.sub_mul, Nat.add_mul]
    have : (l + 1) * ar t ≤ v f * ar t := Nat.mul_le_mul_right _ (by omega)
    omega
  have qf : q ≤ v f := by
    rw [hq]
    have h1 : (v f * ar t - v t * ar f) ≤ v f * (ar f + ar t) := by
      rw [Nat.mul_add]
      omega
    exact Nat.le_trans (Nat.div_le_div_right h1) (Nat.le_of_eq (Nat.mul_div_cancel _ (by omega)))
  intro s
  induction s with
  | zero =>
    intro l n hl hn
    obtain ⟨n, rfl⟩ : ∃ z, n = z + 1 := ⟨n - 1, by omega⟩
    have e : l = q := by omega
    subst e
    show fX5_amountByLitres_s0 i a0 (fX5_amountByLitres_l i a0 n) x1 x2 (nI f) (nI t) (nI l) M = _
    unfold fX5_amountByLitres_s0
    rw [if_pos okf, jn_e, cf, (hv f hf).1]
    by_cases h : v f ≤ l
    · rw [if_pos ((nI_leI (by omega) (by omega)).mpr h)]
    · rw [if_neg (fun z => h ((nI_leI (by omega) (by omega)).mp z)), nI_1, sb_c hf ht hv (by omega), if_neg (fun z => by have := (key l (by omega)).mp z; omega), bd_e, if_0]
  | succ s ih =>
    intro l n hl hn
    obtain ⟨n, rfl⟩ : ∃ z, n = z + 1 := ⟨n - 1, by omega⟩
    rw [← ih (l + 1) n (by omega) (by omega)]
    show fX5_amountByLitres_s0 i a0 (fX5_amountByLitres_l i a0 n) x1 x2 (nI f) (nI t) (nI l) M = _
    unfold fX5_amountByLitres_s0
    rw [if_pos okf, jn_e, cf, (hv f hf).1, if_neg (fun z => by have := (nI_leI (by omega) (by omega)).mp z; omega), nI_1, sb_c hf ht hv (by omega), if_pos ((key l (by omega)).mpr (by omega)), bd_e, if_1]
theorem al_c {i a : Nat} {M : ml_M} {v : Nat → Nat} (ha : a < 4) (hv : wv (M (ml_fl i + 2)) v) : fX5_amountByLitres i (nI a) M = some (.inl (nI (nq v a)), M) := by
  have h1 := mul_le_400 (a := a + 1) (lim4 hv (show a < 5 by omega))
  have h2 := mul_le_400 (a := a) (lim4 hv (show a + 1 < 5 by omega))
  have hqle : nq v a ≤ 4000 := nq_le hv ha
  unfold fX5_amountByLitres
  rw [nI_1, wd_c (by omega) (by omega), bd_e, jn_e]
  by_cases hc : v a * ar (a + 1) ≤ v (a + 1) * ar a
  · have e0 : wd (M (ml_fl i + 2)) a (a + 1) ≤ 0 := by
      rw [wd_neg hv (by omega) (by omega) hc, Int32.le_iff_toInt_le, w_toInt (by omega)]
      have : (0 : Int32).toInt = 0 := by decide
      omega
    rw [if_pos e0]
    dsimp only
    rw [jn_e, if_0]
    dsimp only
    rw [jn_e, if_0]
    have e := al_l (i := i) (M := M) (nI a) (nI a) 0 (show a + 1 < 5 by omega) (show a < 5 by omega) hv hc (q := nq v a) (by unfold nq; rw [show v a * ar (a + 1) - v (a + 1) * ar a = 0 by omega, Nat.zero_add, Nat.add_comm (ar a)]) (nq v a) 0 ml_fuel (by omega) (by unfold ml_fuel; omega)
    exact e
  · have e0 : ¬ wd (M (ml_fl i + 2)) a (a + 1) ≤ 0 := by
      rw [wd_pos hv (by omega) (by omega) (by omega)]
      exact nI_nle (by omega) (by omega)
    rw [if_neg e0]
    dsimp only
    rw [jn_e, if_1]
    dsimp only
    rw [jn_e, if_1]
    have e := al_l (i := i) (M := M) (nI a) (nI a) 1 (show a < 5 by omega) (show a + 1 < 5 by omega) hv (by omega) (q := nq v a) (by unfold nq; rw [show v (a + 1) * ar a - v a * ar (a + 1) = 0 by omega, Nat.add_zero]) (nq v a) 0 ml_fuel (by omega) (by unfold ml_fuel; omega)
    exact e
theorem aa_c {M : ml_M} {v : Nat → Nat} (hv : wv (M (ml_fl 0 + 2)) v) : fX5_amountsAgree 0 M = some (.inl 1, M) := by
  have st : ∀ a n, a < 4 → fX5_amountsAgree_l 0 (n + 1) (nI a) M = fX5_amountsAgree_l 0 n (nI (a + 1)) M := by
    intro a n ha
    show fX5_amountsAgree_s0 0 (fX5_amountsAgree_l 0 n) (nI a) M = _
    unfold fX5_amountsAgree_s0
    rw [if_neg (fun z => by have := (nI_leI (a := 4) (b := a) (by decide) (by omega)).mp z; omega), wq_c ha, bd_e, al_c ha hv, bd_e, wq_n hv ha, if_pos rfl, nI_1]
  unfold fX5_amountsAgree
  obtain ⟨z, hz⟩ : ∃ z, ml_fuel = z + 5 := ⟨ml_fuel - 5, by unfold ml_fuel; omega⟩
  rw [hz]
  refine (st 0 (z + 4) (by decide)).trans ((st 1 (z + 3) (by decide)).trans ((st 2 (z + 2) (by decide)).trans ((st 3 (z + 1) (by decide)).trans ?_)))
  show fX5_amountsAgree_s0 0 (fX5_amountsAgree_l 0 z) (nI 4) M = _
  unfold fX5_amountsAgree_s0
  rw [if_pos (by decide)]
theorem wl_c {M : ml_M} {v : Nat → Nat} (hv : wv (M (ml_fl 0 + 2)) v) : fX5_isWithinLimits 0 M = some (.inl 1, M) := by
  have st : ∀ a n, a < 5 → fX5_isWithinLimits_l 0 (n + 1) (nI a) M = fX5_isWithinLimits_l 0 n (nI (a + 1)) M := by
    intro a n ha
    show fX5_isWithinLimits_s0 0 (fX5_isWithinLimits_l 0 n) (nI a) M = _
    unfold fX5_isWithinLimits_s0
    have e : (40 : Int32) * nI (ar a) = nI (40 * ar a) := pk_mul 40 (ar a)
    have := ar_le a
    have hl : v a ≤ 40 * ar a := (hv a ha).2
    rw [if_neg (fun z => by have := (nI_leI (a := 5) (b := a) (by decide) (by omega)).mp z; omega), if_pos (ok_nI ha (by decide)), wa_c ha, bd_e, nI_clamp (by omega), (hv a ha).1, e, if_pos ((nI_leI (by omega) (by omega)).mpr hl), nI_1]
  unfold fX5_isWithinLimits
  obtain ⟨z, hz⟩ : ∃ z, ml_fuel = z + 6 := ⟨ml_fuel - 6, by unfold ml_fuel; omega⟩
  rw [hz]
  refine (st 0 (z + 5) (by decide)).trans ((st 1 (z + 4) (by decide)).trans ((st 2 (z + 3) (by decide)).trans ((st 3 (z + 2) (by decide)).trans ((st 4 (z + 1) (by decide)).trans ?_))))
  show fX5_isWithinLimits_s0 0 (fX5_isWithinLimits_l 0 z) (nI 5) M = _
  unfold fX5_isWithinLimits_s0
  rw [if_pos (by decide)]
theorem wr_c {M : ml_M} {L : List fb} (h : bC M 0 L) (hL : L.length ≤ 8) (hok : ∀ x ∈ L, fb_ok x) (hR : rR L) : fX1_isWithinRoom 0 M = some (.inl 1, M) := by
  have st : ∀ a n, 1 ≤ a → a < 4 → fX1_isWithinRoom_l 0 (n + 1) (nI a) M = fX1_isWithinRoom_l 0 n (nI (a + 1)) M := by
    intro a n h1 ha
    have hc := cnt_le L a
    show fX1_isWithinRoom_s0 0 (fX1_isWithinRoom_l 0 n) (nI a) M = _
    unfold fX1_isWithinRoom_s0
    rw [if_neg (fun z => by have := (nI_leI (a := 4) (b := a) (by decide) (by omega)).mp z; omega), ci_c (by omega) h hL hok, bd_e, if_pos (show nI (cnt L a) ≤ (2 : Int32) from (nI_leI (b := 2) (by omega) (by decide)).mpr (hR a h1 (by omega))), nI_1]
  unfold fX1_isWithinRoom
  obtain ⟨z, hz⟩ : ∃ z, ml_fuel = z + 4 := ⟨ml_fuel - 4, by unfold ml_fuel; omega⟩
  rw [hz]
  refine (st 1 (z + 3) (by decide) (by decide)).trans ((st 2 (z + 2) (by decide) (by decide)).trans ((st 3 (z + 1) (by decide) (by decide)).trans ?_))
  show fX1_isWithinRoom_s0 0 (fX1_isWithinRoom_l 0 z) (nI 4) M = _
  unfold fX1_isWithinRoom_s0
  rw [if_pos (by decide)]
set_option maxRecDepth 100000 in
theorem fp_10 : ∀ v < 401, (FP.ddiv (FP.i2d (nI v)) (FP.i2d (nI 10))) &&& 0x7fffffffffffffff ≤ 0x7ff0000000000000 := by decide +kernel
set_option maxRecDepth 100000 in
theorem fp_6 : ∀ v < 401, (FP.ddiv (FP.i2d (nI v)) (FP.i2d (nI 6))) &&& 0x7fffffffffffffff ≤ 0x7ff0000000000000 := by decide +kernel
set_option maxRecDepth 100000 in
theorem fp_m : ∀ s < 1600, (FP.fdiv (FP.i2f (nI s)) 1108869120) &&& 0x7fffffff ≤ 0x7f800000 := by decide +kernel
theorem fp_a {k v : Nat} (hv : v < 401) : (FP.ddiv (FP.i2d (nI v)) (FP.i2d (nI (ar k)))) &&& 0x7fffffffffffffff ≤ 0x7ff0000000000000 := by
  unfold ar
  split
  · exact fp_10 v hv
  · split
    · exact fp_10 v hv
    · exact fp_6 v hv
theorem wsum_n {V : Nat → Int32} {v : Nat → Nat} (h : ∀ j, j < 5 → V j = nI (v j)) : wsum V = nI (v 0 + v 1 + v 2 + v 3 + v 4) := by
  unfold wsum
  rw [h 0 (by decide), h 1 (by decide), h 2 (by decide), h 3 (by decide), h 4 (by decide), Int32.zero_add, nI_add, nI_add, nI_add, nI_add]
theorem nt_1 {b l : Nat} {M : ml_M} (h : b < l) (hl : l ≤ 100) (h5 : M (ml_fl 0 + 5) 0 = nI l) : fX6_needBoat (nI b) M = some (.inl 0, M) := by
  unfold fX6_needBoat
  rw [if_neg (nI_pos (by omega)), h5, if_pos ((nI_ltI (by omega) (by omega)).mpr h)]
theorem b_at {L : List fb} {b : Nat} (h : b < L.length) : ∃ x, L[b]? = some x ∧ x ∈ L := ⟨L[b], List.getElem?_eq_getElem h, List.getElem_mem h⟩
theorem sg_n {α : Type} {k : Nat} (h : k < 3) {a b : α} : (if narrow .char (.int (ml_cs k)) = .int (ml_cs k) then a else b) = a := by
  rcases (show k = 0 ∨ k = 1 ∨ k = 2 by omega) with rfl | rfl | rfl <;> rfl
theorem sg_c {b : Nat} {M : ml_M} {x : fb} (hb : b < 8) (hx : x.1 < 3) (h : M (ml_fl 0 + 6) b = nI x.1) : fX1_signOf 0 (nI b) M = some (.inl (ml_cs x.1), M) := by
  have ok8 : ml_ok (nI b) 8 := ok_nI hb (by decide)
  have cb : (nI b).toNatClampNeg = b := nI_clamp (by omega)
  have ok3 : ml_ok (nI x.1) 3 := ok_nI hx (by decide)
  have cx : (nI x.1).toNatClampNeg = x.1 := nI_clamp (by omega)
  simp only [fX1_signOf, if_pos ok8, cb, h, if_pos ok3, cx, sg_n hx]
def bkf (C : Nat → Nat) (b j : Nat) : Nat := if C j < C b then 1 else if C j = C b then (if b ≤ j then 0 else 1) else 0
def bks (C : Nat → Nat) (b : Nat) : Nat → Nat
  | 0 => 0
  | j + 1 => bks C b j + bkf C b j
theorem kb_c {C : Nat → Nat} {l b : Nat} {M : ml_M} (hl : l ≤ 8) (hb : b < l) (h5 : M (ml_fl 0 + 5) 0 = nI l) (hC : ∀ j, j < l → M (ml_fl 0 + 6) j = nI (C j) ∧ C j < 3) (a0 : Int32) : ∀ (s j n : Nat), j + s = l → s < n → fX1_rankOfBoat_l 0 a0 n (nI b) (nI (bks C b j)) (nI j) M = some (.inl (nI (bks C b l)), M) := by
  intro s
  induction s with
  | zero =>
    intro j n hj hn
    obtain ⟨n, rfl⟩ : ∃ z, n = z + 1 := ⟨n - 1, by omega⟩
    have e : j = l := by omega
    subst e
    show fX1_rankOfBoat_s0 0 a0 (fX1_rankOfBoat_l 0 a0 n) (nI b) (nI (bks C b j)) (nI j) M = _
    unfold fX1_rankOfBoat_s0
    rw [h5, if_pos (Int32.le_refl _)]
  | succ s ih =>
    intro j n hj hn
    obtain ⟨n, rfl⟩ : ∃ z, n = z + 1 := ⟨n - 1, by omega⟩
    rw [← ih (j + 1) n (by omega) (by omega)]
    have okj : ml_ok (nI j) 8 := ok_nI (by omega) (by decide)
    have okb : ml_ok (nI b) 8 := ok_nI (by omega) (by decide)
    have cj : (nI j).toNatClampNeg = j := nI_clamp (by omega)
    have cb : (nI b).toNatClampNeg = b := nI_clamp (by omega)
    have hj3 := (hC j (by omega)).2
    have hb3 := (hC b (by omega)).2
    show fX1_rankOfBoat_s0 0 a0 (fX1_rankOfBoat_l 0 a0 n) (nI b) (nI (bks C b j)) (nI j) M = _
    unfold fX1_rankOfBoat_s0
    rw [h5, if_neg (fun z => by have := (nI_leI (by omega) (by omega)).mp z; omega)]
    simp only [if_pos okj, if_pos okb, jn_e, cj, cb, (hC j (by omega)).1, (hC b (by omega)).1, nI_1]
    show _ = fX1_rankOfBoat_l 0 a0 n (nI b) (nI (bks C b j + bkf C b j)) (nI (j + 1)) M
    unfold bkf
    by_cases h1 : C j < C b
    · have e1 : nI (C j) < nI (C b) := (nI_ltI (by omega) (by omega)).mpr h1
      have e2 : ¬ nI (C j) = nI (C b) := fun z => by have := (nI_eq (by omega) (by omega)).mp z; omega
      simp only [if_pos e1, if_neg e2, if_pos h1]
    · have e1 : ¬ nI (C j) < nI (C b) := fun z => h1 ((nI_ltI (by omega) (by omega)).mp z)
      by_cases h2 : C j = C b
      · have e2 : nI (C j) = nI (C b) := congrArg nI h2
        by_cases h3 : b ≤ j
        · have e3 : nI b ≤ nI j := (nI_leI (by omega) (by omega)).mpr h3
          simp only [if_neg e1, if_pos e2, if_1, if_pos e3, if_neg h1, if_pos h2, if_pos h3, Nat.add_zero]
        · have e3 : ¬ nI b ≤ nI j := fun z => h3 ((nI_leI (by omega) (by omega)).mp z)
          simp only [if_neg e1, if_pos e2, if_1, if_neg e3, if_neg h1, if_pos h2, if_neg h3]
      · have e2 : ¬ nI (C j) = nI (C b) := fun z => h2 ((nI_eq (by omega) (by omega)).mp z)
        simp only [if_neg e1, if_neg e2, if_0, if_neg h1, if_neg h2, Nat.add_zero, if_T]
def ghM : ml_M := fun p q => if p = 12 then (if q = 11 then 300 else if q = 12 then 144 else if q = 13 then 108 else if q = 14 then 72 else if q = 15 then 60 else 0) else 0
theorem fk_M0 : fk 0 ml_M0 0 ghM := by
  refine ⟨[], 0, ⟨⟨(fun j => if j = 0 then 300 else if j = 1 then 144 else if j = 2 then 108 else if j = 3 then 72 else 60), (fun _ => 0), (fun _ => 0), 0, 0, ⟨?_, ?_, ?_, ?_, ?_, ?_⟩, ?_, ?_⟩, ?_, ?_, ?_, ?_, ?_, ?_, ?_⟩, ?_, ?_, ?_, ?_⟩
  · intro j hj
    rcases i_lt5 hj with rfl | rfl | rfl | rfl | rfl <;> exact ⟨by decide +kernel, by decide⟩
  · intro j hj
    rcases i_lt5 hj with rfl | rfl | rfl | rfl | rfl <;> decide +kernel
  · intro j hj
    rcases i_lt4 hj with rfl | rfl | rfl | rfl <;> exact ⟨by decide +kernel, by decide, by decide +kernel⟩
  · intro j hj
    rcases i_lt4 hj with rfl | rfl | rfl | rfl <;> exact ⟨by decide +kernel, by decide, by decide +kernel⟩
  · exact ⟨by decide +kernel, by decide, by decide +kernel⟩
  · exact ⟨by decide +kernel, by decide, by decide +kernel⟩
  · exact ⟨by decide +kernel, by decide +kernel, by decide +kernel, by decide +kernel⟩
  · unfold rS
    decide +kernel
  · refine ⟨0, 0, by decide, by decide, by decide +kernel, by decide +kernel, by decide +kernel, fun j hj => ?_⟩
    refine ⟨?_, ?_, 0, by decide, ?_, fun h => absurd h (by omega)⟩
    · revert j
      decide +kernel
    · revert j
      decide +kernel
    · revert j
      decide +kernel
  · intro j hj
    revert j
    decide +kernel
  · exact ⟨by decide +kernel, fun b x h => by simp at h⟩
  · exact ⟨by decide +kernel, fun b x h => by simp at h⟩
  · intro x hx
    cases hx
  · decide
  · intro j _ _
    exact Nat.zero_le _
  · decide +kernel
  · decide
  · exact List.nodup_nil
  · intro t ht
    cases ht
theorem jI_M0 : jI ml_M0 := ⟨⟨0, ghM, fk_M0⟩, ⟨0, 0, by decide, by decide, by decide +kernel, by decide +kernel⟩, 0, by decide, by decide +kernel, by decide +kernel⟩
/-- a number of the script's as a choice -/
theorem sign_t (k : Nat) (hk : k < 100) (M : ml_M) : ∃ r, fL_sign (nI k) M = some (.inl r, M) := by
  unfold fL_sign
  rw [jn_e]
  split
  · exact ⟨_, rfl⟩
  · split
    · exact ⟨_, rfl⟩
    · exact ⟨_, rfl⟩
theorem kJ.bd {x : Option ml_R} {f : Int32 → ml_M → Option ml_R} (h : kJ x) (hf : ∀ r M', jI M' → kJ (f r M')) : kJ (ml_bd x f) := by
  obtain ⟨r, M', e, hj⟩ := h
  rw [e, bd_e]
  exact hf r M' hj
theorem kJ.mk {M : ml_M} {r : Int32} (h : jI M) : kJ (some (.inl r, M)) := ⟨r, M, rfl, h⟩
theorem k_acts (z : ml_Y) {k : Nat} (hk : k < 150) {M : ml_M} (hs : jI M) : kJ (fL_acts z (nI k) M) := by
  obtain ⟨m1, h1, e1⟩ := some_t z (k := k + 1) (d := 90) (by omega) (by decide) (by decide) M
  obtain ⟨m2, h2, e2⟩ := some_t z (k := k + 2) (d := 4) (by omega) (by decide) (by decide) M
  obtain ⟨m3, h3, e3⟩ := some_t z (k := k) (d := 14) (by omega) (by decide) (by decide) M
  have e1' : fL_some z (nI k + 1) 90 M = some (.inl (nI m1), M) := by rw [nI_1]; exact e1
  have e2' : fL_some z (nI k + 2) 4 M = some (.inl (nI m2), M) := by rw [show nI k + 2 = nI (k + 2) from nI_add k 2]; exact e2
  have e3' : fL_some z (nI k) 14 M = some (.inl (nI m3), M) := e3
  unfold fL_acts
  rw [e1', bd_e, e2', bd_e, e3', bd_e, jn_e]
  have fin : ∀ (r : Int32) (M' : ml_M), jI M' → kJ ((fun (y7 : Int32) (M8 : ml_M) => (some (.inl 0, M8) : Option ml_R)) r M') := fun r M' h => kJ.mk h
  split
  · refine kJ.bd (f := _) (x := fX6_boatCount M) ⟨_, M, rfl, hs⟩ (fun r M' hj => ?_)
    rw [jn_e]
    split
    · exact kJ.mk hj
    · obtain ⟨c, ec⟩ := sign_t m1 (by omega) M'
      rw [ec, bd_e, jn_e]
      split <;> exact (k_addBoat _ _ _ hj).bd (fun r M' hj => kJ.mk hj)
  split
  · exact (k_setValve _ _ hs).bd (fun r M' hj => kJ.mk hj)
  split
  · exact (k_setValve _ _ hs).bd (fun r M' hj => kJ.mk hj)
  split
  · exact (k_setValve _ _ hs).bd (fun r M' hj => kJ.mk hj)
  split
  · exact (k_openGate _ hs).bd (fun r M' hj => kJ.mk hj)
  split
  · exact (k_openGate _ hs).bd (fun r M' hj => kJ.mk hj)
  split
  · exact (k_openGate _ hs).bd (fun r M' hj => kJ.mk hj)
  split
  · exact (k_shutGate _ hs).bd (fun r M' hj => kJ.mk hj)
  split
  · rw [jn_e]
    split
    · exact (k_setRain _ hs).bd (fun r M' hj => kJ.mk hj)
    · exact (k_setDrain _ hs).bd (fun r M' hj => kJ.mk hj)
  · exact (k_advance _ hs).bd (fun r M' hj => kJ.mk hj)
theorem kb_2 (z : ml_Y) : ∀ (s k n : Nat) (M : ml_M), k + s = 18 → s < n → jI M → kJ (fL_build_l z n 2 (nI k) M) := by
  intro s
  induction s with
  | zero =>
    intro k n M hk hn hs
    obtain ⟨n, rfl⟩ : ∃ z, n = z + 1 := ⟨n - 1, by omega⟩
    have e : k = 18 := by omega
    subst e
    show kJ (fL_build_s2 z (fL_build_l z n) (nI 18) M)
    unfold fL_build_s2
    rw [if_pos (by decide)]
    exact kJ.mk hs
  | succ s ih =>
    intro k n M hk hn hs
    obtain ⟨n, rfl⟩ : ∃ z, n = z + 1 := ⟨n - 1, by omega⟩
    show kJ (fL_build_s2 z (fL_build_l z n) (nI k) M)
    unfold fL_build_s2
    rw [if_neg (fun z => by have := (nI_leI (a := 18) (b := k) (by decide) (by omega)).mp z; omega), show (3 : Int32) * nI k = nI (3 * k) from pk_mul 3 k, show (16 : Int32) + nI (3 * k) = nI (16 + 3 * k) from nIl 16 (3 * k)]
    refine (k_acts z (by omega) hs).bd (fun r M' hj => ?_)
    rw [nI_1]
    exact ih (k + 1) n M' (by omega) (by omega) hj
theorem kb_1 (z : ml_Y) : ∀ (s k n : Nat) (M : ml_M), k + s = 4 → s + 19 < n → jI M → kJ (fL_build_l z n 1 (nI k) M) := by
  intro s
  induction s with
  | zero =>
    intro k n M hk hn hs
    obtain ⟨n, rfl⟩ : ∃ z, n = z + 1 := ⟨n - 1, by omega⟩
    have e : k = 4 := by omega
    subst e
    show kJ (fL_build_s1 z (fL_build_l z n) (nI 4) M)
    unfold fL_build_s1
    rw [if_pos (by decide)]
    exact kb_2 z 18 0 n M (by decide) (by omega) hs
  | succ s ih =>
    intro k n M hk hn hs
    obtain ⟨n, rfl⟩ : ∃ z, n = z + 1 := ⟨n - 1, by omega⟩
    show kJ (fL_build_s1 z (fL_build_l z n) (nI k) M)
    obtain ⟨m1, h1, e1⟩ := some_t z (k := 4 + k) (d := 3) (by omega) (by decide) (by decide) M
    obtain ⟨m2, h2, e2⟩ := some_t z (k := 8 + k) (d := 9) (by omega) (by decide) (by decide) M
    obtain ⟨m3, h3, e3⟩ := some_t z (k := 12 + k) (d := 2) (by omega) (by decide) (by decide) M
    obtain ⟨c, ec⟩ := sign_t m1 (by omega) M
    have e1' : fL_some z (4 + nI k) 3 M = some (.inl (nI m1), M) := by rw [show (4 : Int32) + nI k = nI (4 + k) from nIl 4 k]; exact e1
    have e2' : fL_some z (8 + nI k) 9 M = some (.inl (nI m2), M) := by rw [show (8 : Int32) + nI k = nI (8 + k) from nIl 8 k]; exact e2
    have e3' : fL_some z (12 + nI k) 2 M = some (.inl (nI m3), M) := by rw [show (12 : Int32) + nI k = nI (12 + k) from nIl 12 k]; exact e3
    unfold fL_build_s1
    rw [if_neg (fun z => by have := (nI_leI (a := 4) (b := k) (by decide) (by omega)).mp z; omega), e1', bd_e, ec, bd_e, e2', bd_e, e3', bd_e, jn_e]
    have go : ∀ y, kJ (ml_bd (fL_addBoat c (1 + nI m2) y M) (fun r12 M13 => fL_build_l z n 1 (nI k + 1) M13)) := fun y => (k_addBoat _ _ _ hs).bd (fun r M' hj => by
      rw [nI_1]
      exact ih (k + 1) n M' (by omega) (by omega) hj)
    split
    · exact go 1
    · exact go 0
theorem kb_0 (z : ml_Y) : ∀ (s k n : Nat) (M : ml_M), k + s = 4 → s + 24 < n → jI M → kJ (fL_build_l z n 0 (nI k) M) := by
  intro s
  induction s with
  | zero =>
    intro k n M hk hn hs
    obtain ⟨n, rfl⟩ : ∃ z, n = z + 1 := ⟨n - 1, by omega⟩
    have e : k = 4 := by omega
    subst e
    show kJ (fL_build_s0 z (fL_build_l z n) (nI 4) M)
    unfold fL_build_s0
    rw [if_pos (by decide)]
    exact kb_1 z 4 0 n M (by decide) (by omega) hs
  | succ s ih =>
    intro k n M hk hn hs
    obtain ⟨n, rfl⟩ : ∃ z, n = z + 1 := ⟨n - 1, by omega⟩
    show kJ (fL_build_s0 z (fL_build_l z n) (nI k) M)
    obtain ⟨m1, h1, e1⟩ := some_t z (k := k) (d := 4) (by omega) (by decide) (by decide) M
    have e1' : fL_some z (nI k) 4 M = some (.inl (nI m1), M) := e1
    unfold fL_build_s0
    rw [if_neg (fun z => by have := (nI_leI (a := 4) (b := k) (by decide) (by omega)).mp z; omega), e1', bd_e]
    refine (k_setValve _ _ hs).bd (fun r M' hj => ?_)
    rw [nI_1]
    exact ih (k + 1) n M' (by omega) (by omega) hj
theorem k_build (z : ml_Y) {M : ml_M} (hs : jI M) : kJ (fL_build z M) := kb_0 z 4 0 40 M (by decide) (by decide) hs
/-- what a reader knows -/
def jE (M : ml_M) (nx c : Nat) : Prop := nx < 8 ∧ c ≤ 8 ∧ M (ml_fl 0 + 12) 2 = nI nx ∧ M (ml_fl 0 + 12) 3 = nI c ∧ ∀ j, j < 8 → ∃ kc, kc < 128 ∧ M (ml_fl 0 + 13) ((nx + 7 - j) % 8) = nI kc ∧ (j < c → evk (nI kc) (M (ml_fl 0 + 14) ((nx + 7 - j) % 8)))
def jS (M : ml_M) (v o g : Nat → Nat) (L : List fb) (nx c : Nat) : Prop := wv (M (ml_fl 0 + 2)) v ∧ (∀ j, j < 4 → M (ml_fl 0 + 3) j = nI (o j) ∧ o j ≤ 3) ∧ (∀ j, j < 4 → M (ml_fl 0 + 4) j = nI (g j) ∧ g j ≤ 1) ∧ rS M 0 ∧ bC M 0 L ∧ (∀ x ∈ L, fb_ok x ∧ fa x = false) ∧ L.length ≤ 8 ∧ rR L ∧ jE M nx c
theorem jS_of {M : ml_M} (h : jI M) : ∃ v o g L nx c, jS M v o g L nx c := by
  obtain ⟨⟨n, Mm, L, a, ⟨⟨v, o, g, r, d, hA, hB, hS⟩, ⟨nx, c, e1, e2, e3, e4, e5, e6⟩, hG, hC, hM, hok, hL, hR⟩, -⟩, -⟩ := h
  exact ⟨v, o, g, L, nx, c, hA.1, fun j hj => ⟨(hA.2.2.1 j hj).1, (hA.2.2.1 j hj).2.1⟩, fun j hj => ⟨(hA.2.2.2.1 j hj).1, (hA.2.2.2.1 j hj).2.1⟩, hS, hC, hok, hL, hR, e1, e2, e3, e4, fun j hj => by
    obtain ⟨f1, f2, kc, f3, f4, f5⟩ := e6 j hj
    exact ⟨kc, f3, by rw [← f1]; exact f4, fun hc => by rw [← f2]; exact f5 hc⟩⟩
theorem jS.of {M M' : ml_M} {v o g : Nat → Nat} {L : List fb} {nx c : Nat} (h : jS M v o g L nx c) (k : ∀ p, 16 ≤ p → p < 31 → M' p = M p) : jS M' v o g L nx c := by
  have f : ∀ x, x < 15 → M' (ml_fl 0 + x) = M (ml_fl 0 + x) := fun x hx => k _ (by unfold ml_fl; omega) (by unfold ml_fl; omega)
  obtain ⟨h1, h2, h3, h4, ⟨h5, h5b⟩, h6, h7, h8, e1, e2, e3, e4, e5⟩ := h
  refine ⟨by rw [f 2 (by decide)]; exact h1, by rw [f 3 (by decide)]; exact h2, by rw [f 4 (by decide)]; exact h3, by unfold rS; rw [f 2 (by decide), f 1 (by decide)]; exact h4, ⟨by rw [f 5 (by decide)]; exact h5, by rw [f 6 (by decide), f 7 (by decide), f 8 (by decide), f 9 (by decide), f 10 (by decide)]; exact h5b⟩, h6, h7, h8, e1, e2, by rw [f 12 (by decide)]; exact e3, by rw [f 12 (by decide)]; exact e4, by rw [f 13 (by decide), f 14 (by decide)]; exact e5⟩
section
variable {M : ml_M} {v o g : Nat → Nat} {L : List fb} {nx c : Nat}
theorem q_boatCount (h : jS M v o g L nx c) : fX6_boatCount M = some (.inl (nI L.length), M) := by
  unfold fX6_boatCount
  rw [h.2.2.2.2.1.1]
theorem q_eventCount (h : jS M v o g L nx c) : fX6_eventCount M = some (.inl (nI c), M) := by
  unfold fX6_eventCount
  rw [h.2.2.2.2.2.2.2.2.2.2.2.1]
theorem q_area {k : Nat} (hk : k < 5) : fX6_area (nI k) M = some (.inl (nI (ar k)), M) := by simp only [fX6_area, nb_c hk, bd_e, wa_c hk]
theorem q_volume (h : jS M v o g L nx c) {k : Nat} (hk : k < 5) : fX6_volume (nI k) M = some (.inl (nI (v k)), M) := by
  have ok5 : ml_ok (nI k) 5 := ok_nI hk (by decide)
  have ck : (nI k).toNatClampNeg = k := nI_clamp (by omega)
  simp only [fX6_volume, nb_c hk, bd_e, if_pos ok5, ck, (h.1 k hk).1]
theorem q_level (h : jS M v o g L nx c) {k : Nat} (hk : k < 5) : fX6_level (nI k) M = some (.inl (nI (v k) / nI (ar k)), M) := by simp only [fX6_level, nb_c hk, bd_e, rl_c hk (h.1 k hk).1]
theorem q_exact (h : jS M v o g L nx c) {k : Nat} (hk : k < 5) : fX6_exactLevel (nI k) M = some (.inl 0, ml_w (ml_w M 200 0 (nI (v k))) 200 1 (nI (ar k))) := by
  have ok5 : ml_ok (nI k) 5 := ok_nI hk (by decide)
  have ck : (nI k).toNatClampNeg = k := nI_clamp (by omega)
  have hl : v k < 401 := by have := (h.1 k hk).2; have := lim_le k; omega
  simp only [fX6_exactLevel, nb_c hk, bd_e, if_pos ok5, wa_c hk, ck, (h.1 k hk).1, if_pos (fp_a hl)]
theorem q_higher (h : jS M v o g L nx c) {a b : Nat} (ha : a < 5) (hb : b < 5) : fX6_isHigher (nI a) (nI b) M = some (.inl (if v b * ar a < v a * ar b then 1 else 0), M) := by
  have hw : wd (M (ml_fl 0 + 2)) a b ≤ 0 ↔ ¬ v b * ar a < v a * ar b := by
    have l1 := mul_le_400 (a := b) (lim4 h.1 ha)
    have l2 := mul_le_400 (a := a) (lim4 h.1 hb)
    by_cases hc : v b * ar a < v a * ar b
    · rw [wd_pos h.1 ha hb (by omega)]
      exact ⟨fun z => absurd z (nI_nle (by omega) (by omega)), fun z => absurd hc z⟩
    · rw [wd_neg h.1 ha hb (by omega), Int32.le_iff_toInt_le, w_toInt (by omega)]
      have : (0 : Int32).toInt = 0 := by decide
      constructor
      · intro _; exact hc
      · intro _; omega
  by_cases hc : v b * ar a < v a * ar b
  · rw [if_pos hc]
    simp only [fX6_isHigher, nb_c ha, nb_c hb, bd_e, jn_e, wd_c ha hb, if_neg (fun z => hw.mp z hc), nbi1]
  · rw [if_neg hc]
    simp only [fX6_isHigher, nb_c ha, nb_c hb, bd_e, jn_e, wd_c ha hb, if_pos (hw.mpr hc), nbi0]
theorem q_equal (h : jS M v o g L nx c) {k : Nat} (hk : k < 4) : fX6_equalizingAmount (nI k) M = some (.inl (nI (nq v k)), M) := by simp only [fX6_equalizingAmount, ng_c hk, bd_e, wq_c hk, wq_n h.1 hk]
theorem q_litres (h : jS M v o g L nx c) {k : Nat} (hk : k < 4) : fX6_equalizingAmountByLitres (nI k) M = some (.inl (nI (nq v k)), M) := by simp only [fX6_equalizingAmountByLitres, ng_c hk, bd_e, al_c hk h.1]
theorem q_opening (h : jS M v o g L nx c) {k : Nat} (hk : k < 4) : fX6_opening (nI k) M = some (.inl (nI (o k)), M) := by
  have ok5 : ml_ok (nI k) 4 := ok_nI hk (by decide)
  have ck : (nI k).toNatClampNeg = k := nI_clamp (by omega)
  simp only [fX6_opening, ng_c hk, bd_e, if_pos ok5, ck, (h.2.1 k hk).1]
theorem q_isOpen (h : jS M v o g L nx c) {k : Nat} (hk : k < 4) : fX6_isOpen (nI k) M = some (.inl (nI (g k)), M) := by
  have ok5 : ml_ok (nI k) 4 := ok_nI hk (by decide)
  have ck : (nI k).toNatClampNeg = k := nI_clamp (by omega)
  simp only [fX6_isOpen, ng_c hk, bd_e, if_pos ok5, ck, (h.2.2.1 k hk).1, nbi (h.2.2.1 k hk).2]
theorem q_flow (h : jS M v o g L nx c) {k : Nat} (hk : k < 4) : fX6_flow (nI k) M = some (.inl (if v (k + 1) * ar k ≤ v k * ar (k + 1) then nI (nfl v (o k) (g k) k) else -nI (nfl v (o k) (g k) k)), M) := by
  have e := wfl_c (i := 0) (M := M) hk (h.2.1 k hk).2 (h.2.1 k hk).1
  rw [(h.2.1 k hk).1, (h.2.2.1 k hk).1, wfl_n h.1 hk (h.2.1 k hk).2 (h.2.2.1 k hk).2] at e
  simp only [fX6_flow, ng_c hk, bd_e, e]
theorem q_llitres (h : jS M v o g L nx c) {k : Nat} (hk : k < 4) : fL_litres (nI (v k)) (nI (ar k)) (nI (v (k + 1))) (nI (ar (k + 1))) M = some (.inl (nI (nq v k)), M) := by
  have e := wq_n h.1 hk
  unfold wq at e
  have l1 := ar_le k
  have l2 := ar_le (k + 1)
  have l3 := ar_ge k
  unfold fL_litres
  rw [nI_add, if_pos (nI_ne0 (by omega) (by omega))]
  unfold wd at e
  rw [(h.1 k (by omega)).1, (h.1 (k + 1) (by omega)).1] at e
  simp only [nz_sub]
  rw [e]
theorem q_total (h : jS M v o g L nx c) : fX6_totalVolume M = some (.inl (nI (v 0 + v 1 + v 2 + v 3 + v 4)), M) := by
  unfold fX6_totalVolume
  rw [sv_c, bd_e, wsum_n (v := v) (fun j hj => (h.1 j hj).1)]
theorem q_acc (h : jS M v o g L nx c) : wacc (M (ml_fl 0 + 1)) = nI (v 0 + v 1 + v 2 + v 3 + v 4) := by
  rw [← wsum_n (v := v) (fun j hj => (h.1 j hj).1)]
  exact h.2.2.2.1.symm
theorem q_accounts (h : jS M v o g L nx c) : fX6_totalVolumeByAccounts M = some (.inl (nI (v 0 + v 1 + v 2 + v 3 + v 4)), M) := by
  unfold fX6_totalVolumeByAccounts
  rw [sa_c, bd_e, q_acc h]
theorem q_684 (h : jS M v o g L nx c) : 684 + M (ml_fl 0 + 1) 5 - M (ml_fl 0 + 1) 6 - M (ml_fl 0 + 1) 7 = nI (v 0 + v 1 + v 2 + v 3 + v 4) := by
  rw [← q_acc h]
  unfold wacc
  have e : (684 : Int32) = 300 + 144 + 108 + 72 + 60 := by decide
  rw [e]
  simp only [Int32.sub_eq_add_neg]
  ac_rfl
theorem q_sum (h : jS M v o g L nx c) : v 0 + v 1 + v 2 + v 3 + v 4 < 1600 := by
  have h0 := (h.1 0 (by decide)).2
  have h1 := (h.1 1 (by decide)).2
  have h2 := (h.1 2 (by decide)).2
  have h3 := (h.1 3 (by decide)).2
  have h4 := (h.1 4 (by decide)).2
  simp [lim, ar] at h0 h1 h2 h3 h4
  omega
theorem q_mean (h : jS M v o g L nx c) : fX6_meanLevel M = some (.inl 0, ml_w (ml_w M 200 0 (nI (v 0 + v 1 + v 2 + v 3 + v 4))) 200 1 38) := by
  unfold fX6_meanLevel
  rw [sv_c, bd_e, wsum_n (v := v) (fun j hj => (h.1 j hj).1), if_pos (fp_m _ (q_sum h))]
theorem q_consistent (h : jS M v o g L nx c) : fX6_isConsistent M = some (.inl 1, M) := by
  obtain ⟨h1, h2, h3, hS, hC, hok, hL, hR, hE⟩ := h
  unfold rS at hS
  simp only [fX6_isConsistent, aa_c h1, bd_e, jn_e, if_1, sv_c, sa_c, if_pos hS, wl_c h1, wr_c hC hL (fun x hx => (hok x hx).1) hR, nbi1]
theorem q_boatsIn (h : jS M v o g L nx c) {k : Nat} (hk : k < 5) : fX6_boatsIn (nI k) M = some (.inl (nI (cnt L k)), M) := by
  simp only [fX6_boatsIn, nb_c hk, bd_e, ci_c (show k ≤ 4 by omega) h.2.2.2.2.1 h.2.2.2.2.2.2.1 (fun x hx => (h.2.2.2.2.2.1 x hx).1)]
theorem q_boat (h : jS M v o g L nx c) {b : Nat} (hb : b < L.length) : ∃ x, L[b]? = some x ∧ fb_ok x ∧ fa x = false ∧ fX6_colour (nI b) M = some (.inl (ml_cs x.1), M) ∧ fX6_draught (nI b) M = some (.inl (nI x.2.1), M) ∧ fX6_isGoingDown (nI b) M = some (.inl (nI x.2.2.1), M) ∧ fX6_basinOf (nI b) M = some (.inl (nI x.2.2.2.1), M) ∧ ∀ k, k < 5 → fX6_floats (nI b) (nI k) M = some (.inl (if v k < x.2.1 * ar k then 0 else 1), M) := by
  obtain ⟨h1, h2, h3, hS, hC, hok, hL, hR, hE⟩ := h
  obtain ⟨x, hx, hxm⟩ := b_at hb
  have ok8 : ml_ok (nI b) 8 := ok_nI (by omega) (by decide)
  have cb : (nI b).toNatClampNeg = b := nI_clamp (by omega)
  have hx3 := (hok x hxm).1.1
  have hw := (hok x hxm).1.2.2.2.1
  have h9 := (hok x hxm).1.2.2.1
  refine ⟨x, hx, (hok x hxm).1, (hok x hxm).2, by simp only [fX6_colour, nt_1 hb (by omega) hC.1, bd_e, sg_c (show b < 8 by omega) hx3 (hC.2 b x hx).1, sg_n hx3], by simp only [fX6_draught, nt_1 hb (by omega) hC.1, bd_e, if_pos ok8, cb, (hC.2 b x hx).2.1], by simp only [fX6_isGoingDown, nt_1 hb (by omega) hC.1, bd_e, if_pos ok8, cb, (hC.2 b x hx).2.2.1, nbi hw], by simp only [fX6_basinOf, nt_1 hb (by omega) hC.1, bd_e, if_pos ok8, cb, (hC.2 b x hx).2.2.2.1], fun k hk => ?_⟩
  have er := re_c (i := 0) (M := M) hk (h1 k hk).1 (lim4 h1 hk) h9
  by_cases hd : v k < x.2.1 * ar k
  · rw [if_pos hd] at er ⊢
    simp only [fX6_floats, nt_1 hb (by omega) hC.1, nb_c hk, bd_e, if_pos ok8, cb, (hC.2 b x hx).2.1, er, nbi0]
  · rw [if_neg hd] at er ⊢
    simp only [fX6_floats, nt_1 hb (by omega) hC.1, nb_c hk, bd_e, if_pos ok8, cb, (hC.2 b x hx).2.1, er, nbi1]
end
