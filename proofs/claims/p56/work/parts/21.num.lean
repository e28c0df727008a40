/-! THE PURE PART. Numbers of the water: areas, differences, flows. -/
def ar (j : Nat) : Nat := if j = 0 then 10 else if j = 4 then 10 else 6
def lim (j : Nat) : Nat := 40 * ar j
theorem i_lt5 {a : Nat} (h : a < 5) : a = 0 ∨ a = 1 ∨ a = 2 ∨ a = 3 ∨ a = 4 := by omega
theorem i_lt4 {a : Nat} (h : a < 4) : a = 0 ∨ a = 1 ∨ a = 2 ∨ a = 3 := by omega
theorem wa_c {a : Nat} (ha : a < 5) (M : ml_M) : fX6_areaOf (nI a) M = some (.inl (nI (ar a)), M) := by
  rcases i_lt5 ha with rfl | rfl | rfl | rfl | rfl <;> rfl
theorem wa_m {a : Nat} (ha : a < 5) (M : ml_M) : fX7_size (nI a) M = some (.inl (nI (ar a)), M) := by
  rcases i_lt5 ha with rfl | rfl | rfl | rfl | rfl <;> rfl
/-- the difference of two levels, times both areas -/
def wd (V : Nat → Int32) (a b : Nat) : Int32 := V a * nI (ar b) - V b * nI (ar a)
theorem wd_c {i a b : Nat} (ha : a < 5) (hb : b < 5) (M : ml_M) : fX5_difference i (nI a) (nI b) M = some (.inl (wd (M (ml_fl i + 2)) a b), M) := by
  rcases i_lt5 ha with rfl | rfl | rfl | rfl | rfl <;> rcases i_lt5 hb with rfl | rfl | rfl | rfl | rfl <;> rfl
theorem wd_m {a b : Nat} (ha : a < 5) (hb : b < 5) (M : ml_M) : fX7_above (nI a) (nI b) M = some (.inl (wd (fun j => M 12 (11 + j)) a b), M) := by
  rcases i_lt5 ha with rfl | rfl | rfl | rfl | rfl <;> rcases i_lt5 hb with rfl | rfl | rfl | rfl | rfl <;> rfl
/-- the equalizing amount -/
def wq (V : Nat → Int32) (a : Nat) : Int32 := (if 0 ≤ wd V a (a + 1) then wd V a (a + 1) else -wd V a (a + 1)) / nI (ar a + ar (a + 1))
theorem nz_sub (x : Int32) : 0 - x = -x := Int32.zero_sub x
theorem wq_c {i a : Nat} (ha : a < 4) (M : ml_M) : fX5_amountByDivision i (nI a) M = some (.inl (wq (M (ml_fl i + 2)) a), M) := by
  unfold fX5_amountByDivision
  rw [nI_1, wd_c (by omega) (by omega)]
  show ml_bd (fX6_areaOf (nI a) M) _ = _
  rw [wa_c (by omega)]
  show ml_bd (fX6_areaOf (nI (a + 1)) M) _ = _
  rw [wa_c (by omega)]
  show (if ¬ ((nI (ar a) + nI (ar (a + 1))) = 0) then some (Sum.inl ((if 0 ≤ wd (M (ml_fl i + 2)) a (a + 1) then wd (M (ml_fl i + 2)) a (a + 1) else 0 - wd (M (ml_fl i + 2)) a (a + 1)) / (nI (ar a) + nI (ar (a + 1)))), M) else none) = _
  rw [nI_add, nz_sub, if_pos (by rcases i_lt4 ha with rfl | rfl | rfl | rfl <;> decide)]
  rfl
theorem wq_m {a : Nat} (ha : a < 4) (M : ml_M) : fX7_equal (nI a) M = some (.inl (wq (fun j => M 12 (11 + j)) a), M) := by
  unfold fX7_equal
  rw [nI_1, wd_m (by omega) (by omega)]
  have hne : ¬ (nI (ar a) + nI (ar (a + 1))) = 0 := by rw [nI_add]; rcases i_lt4 ha with rfl | rfl | rfl | rfl <;> decide
  unfold wq
  by_cases h : 0 ≤ wd (fun j => M 12 (11 + j)) a (a + 1)
  · rw [if_pos h]
    show (if 0 ≤ wd (fun j => M 12 (11 + j)) a (a + 1) then ml_bd (fX7_size (nI a) M) _ else ml_bd (fX7_size (nI a) M) _) = _
    rw [if_pos h, wa_m (by omega)]
    show ml_bd (fX7_size (nI (a + 1)) M) _ = _
    rw [wa_m (by omega)]
    show (if ¬ _ then some _ else none) = _
    rw [if_pos hne, nI_add]
  · rw [if_neg h]
    show (if 0 ≤ wd (fun j => M 12 (11 + j)) a (a + 1) then ml_bd (fX7_size (nI a) M) _ else ml_bd (fX7_size (nI a) M) _) = _
    rw [if_neg h, wa_m (by omega)]
    show ml_bd (fX7_size (nI (a + 1)) M) _ = _
    rw [wa_m (by omega)]
    show (if ¬ _ then some _ else none) = _
    rw [if_pos hne, nI_add]
/-- the flow in litres, as the reference has it: the opening's number is s, the gate's is g -/
def wfl (V : Nat → Int32) (s g : Int32) (a : Nat) : Int32 := (fun y => if 0 ≤ wd V a (a + 1) then y else -y) (if g = 0 then (if wq V a ≤ 5 * s then wq V a else 5 * s) else wq V a)
theorem wq_0 {V : Nat → Int32} {a : Nat} (ha : a < 4) (h : wd V a (a + 1) = 0) : wq V a = 0 := by
  unfold wq
  rw [h]
  rcases i_lt4 ha with rfl | rfl | rfl | rfl <;> decide
theorem n5_nn {o : Nat} (h : o ≤ 3) : 0 ≤ 5 * nI o := by
  rcases (show o = 0 ∨ o = 1 ∨ o = 2 ∨ o = 3 by omega) with rfl | rfl | rfl | rfl <;> decide
theorem wfl_c {i a o : Nat} (ha : a < 4) {M : ml_M} (ho : o ≤ 3) (hO : M (ml_fl i + 3) a = nI o) : fX5_flowDown i (nI a) M = some (.inl (wfl (M (ml_fl i + 2)) (M (ml_fl i + 3) a) (M (ml_fl i + 4) a) a), M) := by
  have ok : ml_ok (nI a) 4 := ⟨nI_pos (by omega), by rw [nI_clamp (by omega)]; exact ha⟩
  have hcl : (nI a).toNatClampNeg = a := nI_clamp (by omega)
  unfold fX5_flowDown
  rw [wq_c ha]
  show (if ml_ok (nI a) 4 then _ else none) = _
  rw [if_pos ok]
  have key : ∀ y : Int32, ml_bd (fX5_difference i (nI a) (nI a + 1) M) (fun r6 M7 => ml_jn (fun (y8 : Int32) => some ((Sum.inl y8, M7) : ml_R)) (fun B9 => (if r6 ≤ 0 then B9 (-y) else B9 y))) = some (.inl (if wd (M (ml_fl i + 2)) a (a + 1) ≤ 0 then -y else y), M) := by
    intro y
    rw [nI_1, wd_c (by omega) (by omega)]
    show (if wd (M (ml_fl i + 2)) a (a + 1) ≤ 0 then some ((Sum.inl (-y), M) : ml_R) else some (.inl y, M)) = _
    split <;> rfl
  have sgn : ∀ y : Int32, (wd (M (ml_fl i + 2)) a (a + 1) = 0 → y = 0) → (if wd (M (ml_fl i + 2)) a (a + 1) ≤ 0 then -y else y) = (if 0 ≤ wd (M (ml_fl i + 2)) a (a + 1) then y else -y) := by
    intro y hy
    by_cases h0 : wd (M (ml_fl i + 2)) a (a + 1) = 0
    · rw [hy h0]
      split <;> split <;> rfl
    · by_cases h1 : wd (M (ml_fl i + 2)) a (a + 1) ≤ 0
      · rw [if_pos h1, if_neg]
        intro h2
        exact h0 (Int32.le_antisymm h1 h2)
      · rw [if_neg h1, if_pos]
        rcases Int32.le_total 0 (wd (M (ml_fl i + 2)) a (a + 1)) with h2 | h2
        · exact h2
        · exact absurd h2 h1
  unfold wfl
  by_cases hg : M (ml_fl i + 4) a = 0
  · show (if M (ml_fl i + 4) (nI a).toNatClampNeg = 0 then if ml_ok (nI a) 4 then ml_bd (fX5_difference i (nI a) (nI a + 1) M) (fun r6 M7 => ml_jn (fun (y8 : Int32) => some ((Sum.inl y8, M7) : ml_R)) (fun B9 => (if r6 ≤ 0 then B9 (-(if (5 * (M (ml_fl i + 3) (nI a).toNatClampNeg)) < wq (M (ml_fl i + 2)) a then (5 * (M (ml_fl i + 3) (nI a).toNatClampNeg)) else wq (M (ml_fl i + 2)) a)) else B9 (if (5 * (M (ml_fl i + 3) (nI a).toNatClampNeg)) < wq (M (ml_fl i + 2)) a then (5 * (M (ml_fl i + 3) (nI a).toNatClampNeg)) else wq (M (ml_fl i + 2)) a)))) else none else _) = _
    rw [if_pos (show M (ml_fl i + 4) (nI a).toNatClampNeg = 0 by rw [hcl]; exact hg), if_pos ok, key, hcl, if_pos hg]
    have e : (if (5 * (M (ml_fl i + 3) a)) < wq (M (ml_fl i + 2)) a then (5 * (M (ml_fl i + 3) a)) else wq (M (ml_fl i + 2)) a) = (if wq (M (ml_fl i + 2)) a ≤ 5 * M (ml_fl i + 3) a then wq (M (ml_fl i + 2)) a else 5 * M (ml_fl i + 3) a) := by
      by_cases h : wq (M (ml_fl i + 2)) a ≤ 5 * M (ml_fl i + 3) a
      · rw [if_pos h, if_neg (Int32.not_lt.mpr h)]
      · rw [if_neg h, if_pos (Int32.not_le.mp h)]
    rw [e, sgn _ (fun h0 => by rw [wq_0 ha h0, hO, if_pos (n5_nn ho)])]
  · show (if M (ml_fl i + 4) (nI a).toNatClampNeg = 0 then _ else ml_bd (fX5_difference i (nI a) (nI a + 1) M) (fun r6 M7 => ml_jn (fun (y8 : Int32) => some ((Sum.inl y8, M7) : ml_R)) (fun B9 => (if r6 ≤ 0 then B9 (-(wq (M (ml_fl i + 2)) a)) else B9 (wq (M (ml_fl i + 2)) a))))) = _
    rw [if_neg (show ¬ M (ml_fl i + 4) (nI a).toNatClampNeg = 0 by rw [hcl]; exact hg), key, if_neg hg, sgn _ (fun h0 => wq_0 ha h0)]
theorem wfl_m {a : Nat} (ha : a < 4) (M : ml_M) : fX7_flows (nI a) M = some (.inl (wfl (fun j => M 12 (11 + j)) (M 12 (16 + a)) (M 12 (20 + a)) a), M) := by
  have c1 : (16 + nI a).toNatClampNeg = 16 + a := by rcases i_lt4 ha with rfl | rfl | rfl | rfl <;> rfl
  have c2 : (20 + nI a).toNatClampNeg = 20 + a := by rcases i_lt4 ha with rfl | rfl | rfl | rfl <;> rfl
  have k1 : ml_ok (16 + nI a) 960 := by rcases i_lt4 ha with rfl | rfl | rfl | rfl <;> decide
  have k2 : ml_ok (20 + nI a) 960 := by rcases i_lt4 ha with rfl | rfl | rfl | rfl <;> decide
  unfold fX7_flows
  rw [wq_m ha]
  show (if ml_ok (16 + nI a) 960 then (if ml_ok (20 + nI a) 960 then _ else none) else none) = _
  rw [if_pos k1, if_pos k2]
  have key : ∀ y : Int32, ml_bd (fX7_above (nI a) (nI a + 1) M) (fun r7 M8 => ml_jn (fun (y9 : Int32) => some ((Sum.inl y9, M8) : ml_R)) (fun B10 => (if 0 ≤ r7 then B10 y else B10 (-y)))) = some (.inl (if 0 ≤ wd (fun j => M 12 (11 + j)) a (a + 1) then y else -y), M) := by
    intro y
    rw [nI_1, wd_m (by omega) (by omega)]
    show (if 0 ≤ wd (fun j => M 12 (11 + j)) a (a + 1) then some ((Sum.inl y, M) : ml_R) else some (.inl (-y), M)) = _
    split <;> rfl
  unfold wfl
  dsimp only
  rw [← c1, ← c2]
  show (if (M 12 (20 + nI a).toNatClampNeg) = 0 then (if wq (fun j => M 12 (11 + j)) a ≤ 5 * (M 12 (16 + nI a).toNatClampNeg) then ml_bd (fX7_above (nI a) (nI a + 1) M) _ else ml_bd (fX7_above (nI a) (nI a + 1) M) _) else ml_bd (fX7_above (nI a) (nI a + 1) M) _) = _
  by_cases hg : (M 12 (20 + nI a).toNatClampNeg) = 0
  · rw [if_pos hg, if_pos hg]
    by_cases h : wq (fun j => M 12 (11 + j)) a ≤ 5 * (M 12 (16 + nI a).toNatClampNeg)
    · rw [if_pos h, if_pos h]
      exact key _
    · rw [if_neg h, if_neg h]
      exact key _
  · rw [if_neg hg, if_neg hg]
    exact key _
/-- volumes within their limits -/
def wv (V : Nat → Int32) (v : Nat → Nat) : Prop := ∀ j, j < 5 → V j = nI (v j) ∧ v j ≤ lim j
theorem w_neg {a b : Nat} (h : a ≤ b) : nI a - nI b = -nI (b - a) := by
  rw [← pk_sub h]
  exact Int32.neg_sub.symm
theorem w_toInt {a : Nat} (h : a < 2 ^ 30) : (-nI a).toInt = -(a : Int) := by
  rw [← Int32.zero_sub]
  have e := pk_sub_toInt (a := 0) (b := a) (by decide) h
  rw [show nI 0 = 0 from rfl] at e
  rw [e]
  omega
theorem w_ge {a : Nat} (h : a < 2 ^ 30) : 0 ≤ -nI a ↔ a = 0 := by
  rw [Int32.le_iff_toInt_le, w_toInt h]
  have : (0 : Int32).toInt = 0 := by decide
  omega
/-- the equalizing amount in whole numbers -/
def nq (v : Nat → Nat) (a : Nat) : Nat := (v a * ar (a + 1) - v (a + 1) * ar a + (v (a + 1) * ar a - v a * ar (a + 1))) / (ar a + ar (a + 1))
theorem ar_le (a : Nat) : ar a ≤ 10 := by unfold ar; split; omega; split <;> omega
theorem ar_ge (a : Nat) : 6 ≤ ar a := by unfold ar; split; omega; split <;> omega
theorem lim_le (a : Nat) : lim a ≤ 400 := by unfold lim; have := ar_le a; omega
theorem mul_le_400 {x a : Nat} (h : x ≤ 400) : x * ar a ≤ 4000 := Nat.le_trans (Nat.mul_le_mul h (ar_le a)) (by decide)
theorem wd_pos {V : Nat → Int32} {v : Nat → Nat} (h : wv V v) {a b : Nat} (ha : a < 5) (hb : b < 5) (hc : v b * ar a ≤ v a * ar b) : wd V a b = nI (v a * ar b - v b * ar a) := by
  unfold wd
  rw [(h a ha).1, (h b hb).1, pk_mul, pk_mul, pk_sub hc]
theorem wd_neg {V : Nat → Int32} {v : Nat → Nat} (h : wv V v) {a b : Nat} (ha : a < 5) (hb : b < 5) (hc : v a * ar b ≤ v b * ar a) : wd V a b = -nI (v b * ar a - v a * ar b) := by
  unfold wd
  rw [(h a ha).1, (h b hb).1, pk_mul, pk_mul, w_neg hc]
theorem wq_n {V : Nat → Int32} {v : Nat → Nat} (h : wv V v) {a : Nat} (ha : a < 4) : wq V a = nI (nq v a) := by
  have h1 := mul_le_400 (a := a + 1) (Nat.le_trans (h a (by omega)).2 (lim_le a))
  have h2 := mul_le_400 (a := a) (Nat.le_trans (h (a + 1) (by omega)).2 (lim_le (a + 1)))
  have g1 := ar_ge a
  have g2 := ar_le a
  have g3 := ar_le (a + 1)
  unfold wq nq
  rcases Nat.le_total (v (a + 1) * ar a) (v a * ar (a + 1)) with hc | hc
  · rw [wd_pos h (by omega) (by omega) hc, if_pos (nI_pos' (by omega)), pk_div (by omega) (by omega) (by omega), show v (a + 1) * ar a - v a * ar (a + 1) = 0 by omega]
    rfl
  · rw [wd_neg h (by omega) (by omega) hc]
    have e : (if 0 ≤ -nI (v (a + 1) * ar a - v a * ar (a + 1)) then -nI (v (a + 1) * ar a - v a * ar (a + 1)) else -(-nI (v (a + 1) * ar a - v a * ar (a + 1)))) = nI (v (a + 1) * ar a - v a * ar (a + 1)) := by
      split
      · rename_i h9
        rw [(w_ge (by omega)).mp h9]
        rfl
      · exact Int32.neg_neg
    rw [e, pk_div (by omega) (by omega) (by omega), show v a * ar (a + 1) - v (a + 1) * ar a = 0 by omega, Nat.zero_add]
/-- the litres that go over, without their direction -/
def nfl (v : Nat → Nat) (o g a : Nat) : Nat := if g = 0 then (if nq v a ≤ 5 * o then nq v a else 5 * o) else nq v a
theorem nfl_le (v : Nat → Nat) (o g a : Nat) : nfl v o g a ≤ nq v a := by
  unfold nfl
  split
  · split <;> omega
  · omega
theorem nq_le {V : Nat → Int32} {v : Nat → Nat} (h : wv V v) {a : Nat} (ha : a < 4) : nq v a ≤ 4000 := by
  have h1 := mul_le_400 (a := a + 1) (Nat.le_trans (h a (by omega)).2 (lim_le a))
  have h2 := mul_le_400 (a := a) (Nat.le_trans (h (a + 1) (by omega)).2 (lim_le (a + 1)))
  unfold nq
  exact Nat.le_trans (Nat.div_le_self _ _) (by omega)
theorem wfl_n {V : Nat → Int32} {v : Nat → Nat} (h : wv V v) {a o g : Nat} (ha : a < 4) (ho : o ≤ 3) (hg : g ≤ 1) : wfl V (nI o) (nI g) a = if v (a + 1) * ar a ≤ v a * ar (a + 1) then nI (nfl v o g a) else -nI (nfl v o g a) := by
  have h1 := mul_le_400 (a := a + 1) (Nat.le_trans (h a (by omega)).2 (lim_le a))
  have h2 := mul_le_400 (a := a) (Nat.le_trans (h (a + 1) (by omega)).2 (lim_le (a + 1)))
  have hq := nq_le h ha
  have e5 : (5 : Int32) * nI o = nI (5 * o) := by
    rcases (show o = 0 ∨ o = 1 ∨ o = 2 ∨ o = 3 by omega) with rfl | rfl | rfl | rfl <;> rfl
  have ey : (if nI g = 0 then (if wq V a ≤ 5 * nI o then wq V a else 5 * nI o) else wq V a) = nI (nfl v o g a) := by
    rw [wq_n h ha, e5]
    unfold nfl
    rcases (show g = 0 ∨ g = 1 by omega) with rfl | rfl
    · rw [if_pos (show nI 0 = 0 from rfl), if_pos rfl]
      by_cases hc : nq v a ≤ 5 * o
      · rw [if_pos hc, if_pos ((nI_leI (by omega) (by omega)).mpr hc)]
      · rw [if_neg hc, if_neg (fun z => hc ((nI_leI (by omega) (by omega)).mp z))]
    · rw [if_neg (by decide), if_neg (by decide)]
  unfold wfl
  dsimp only
  rw [ey]
  by_cases hc : v (a + 1) * ar a ≤ v a * ar (a + 1)
  · rw [if_pos hc, wd_pos h (by omega) (by omega) hc, if_pos (nI_pos' (by omega))]
  · rw [if_neg hc, wd_neg h (by omega) (by omega) (by omega), if_neg]
    intro z
    have := (w_ge (by omega)).mp z
    omega
/-- the volumes behind a flow -/
def nv (v : Nat → Nat) (o g a : Nat) : Nat → Nat := fun j => if j = a then (if v (a + 1) * ar a ≤ v a * ar (a + 1) then v a - nfl v o g a else v a + nfl v o g a) else if j = a + 1 then (if v (a + 1) * ar a ≤ v a * ar (a + 1) then v (a + 1) + nfl v o g a else v (a + 1) - nfl v o g a) else v j
theorem nv_ok {V : Nat → Int32} {v : Nat → Nat} (h : wv V v) {a o g : Nat} (ha : a < 4) (ho : o ≤ 3) (hg : g ≤ 1) : wv (upd (upd V a (V a - wfl V (nI o) (nI g) a)) (a + 1) (V (a + 1) + wfl V (nI o) (nI g) a)) (nv v o g a) := by
  have l1 := (h a (by omega)).2
  have l2 := (h (a + 1) (by omega)).2
  have hx := nfl_le v o g a
  have hdm : nq v a * (ar a + ar (a + 1)) ≤ v a * ar (a + 1) - v (a + 1) * ar a + (v (a + 1) * ar a - v a * ar (a + 1)) := Nat.div_mul_le_self _ _
  rw [wfl_n h ha ho hg]
  intro j hj
  by_cases c2 : j = a + 1
  · subst c2
    rw [pk_us, (h (a + 1) hj).1]
    unfold nv
    rw [if_neg (show ¬ a + 1 = a by omega), if_pos (show a + 1 = a + 1 from rfl)]
    by_cases hc : v (a + 1) * ar a ≤ v a * ar (a + 1)
    · rw [if_pos hc, if_pos hc, nI_add]
      refine ⟨rfl, ?_⟩
      rcases i_lt4 ha with rfl | rfl | rfl | rfl <;> simp [ar, lim] at * <;> omega
    · rw [if_neg hc, if_neg hc]
      have hle : nfl v o g a ≤ v (a + 1) := by
        rcases i_lt4 ha with rfl | rfl | rfl | rfl <;> simp [ar, lim] at * <;> omega
      refine ⟨?_, by omega⟩
      rw [← pk_sub hle]
      exact (Int32.sub_eq_add_neg ..).symm
  · rw [pk_un c2]
    by_cases c1 : j = a
    · subst c1
      rw [pk_us, (h j hj).1]
      unfold nv
      rw [if_pos (show j = j from rfl)]
      by_cases hc : v (j + 1) * ar j ≤ v j * ar (j + 1)
      · rw [if_pos hc, if_pos hc]
        have hle : nfl v o g j ≤ v j := by
          rcases i_lt4 ha with rfl | rfl | rfl | rfl <;> simp [ar, lim] at * <;> omega
        exact ⟨pk_sub hle, by omega⟩
      · rw [if_neg hc, if_neg hc]
        refine ⟨?_, ?_⟩
        · rw [← nI_add]
          exact Int32.sub_neg ..
        · rcases i_lt4 ha with rfl | rfl | rfl | rfl <;> simp [ar, lim] at * <;> omega
    · rw [pk_un c1]
      unfold nv
      rw [if_neg c1, if_neg c2]
      exact h j hj
