/-! The boats: rows of the class's fleet and of the reference as lists. -/
/-- colour, draught, down, basin, tag -/
abbrev fb : Type := Nat × Nat × Nat × Nat × Nat
def fb_ok (x : fb) : Prop := x.1 < 3 ∧ 1 ≤ x.2.1 ∧ x.2.1 ≤ 9 ∧ x.2.2.1 ≤ 1 ∧ x.2.2.2.1 ≤ 4
def bC (Mc : ml_M) (i : Nat) (L : List fb) : Prop := Mc (ml_fl i + 5) 0 = nI L.length ∧ ∀ b x, L[b]? = some x → Mc (ml_fl i + 6) b = nI x.1 ∧ Mc (ml_fl i + 7) b = nI x.2.1 ∧ Mc (ml_fl i + 8) b = nI x.2.2.1 ∧ Mc (ml_fl i + 9) b = nI x.2.2.2.1 ∧ Mc (ml_fl i + 10) b = nI x.2.2.2.2
def bM (Mm : ml_M) (mk : Nat → Int32) (L : List fb) : Prop := Mm 12 6 = nI L.length ∧ ∀ b x, L[b]? = some x → Mm 12 (40 + 5 * b) = nI x.1 ∧ Mm 12 (41 + 5 * b) = nI x.2.1 ∧ Mm 12 (42 + 5 * b) = nI x.2.2.1 ∧ Mm 12 (43 + 5 * b) = nI x.2.2.2.1 ∧ Mm 12 (44 + 5 * b) = mk x.2.2.2.2
/-- has the boat arrived -/
def fa (x : fb) : Bool := x.2.2.2.1 == (if x.2.2.1 = 0 then 0 else 4)
def cnt (L : List fb) (j : Nat) : Nat := L.countP (fun x => x.2.2.2.1 == j)
theorem bC.of {Mc Mc' : ml_M} {i : Nat} {L : List fb} (h : bC Mc i L) (k : ∀ o, 5 ≤ o → o ≤ 10 → Mc' (ml_fl i + o) = Mc (ml_fl i + o)) : bC Mc' i L := by
  refine ⟨by rw [k 5 (by decide) (by decide)]; exact h.1, fun b x hx => ?_⟩
  rw [k 6 (by decide) (by decide), k 7 (by decide) (by decide), k 8 (by decide) (by decide), k 9 (by decide) (by decide), k 10 (by decide) (by decide)]
  exact h.2 b x hx
theorem bM.of {Mm Mm' : ml_M} {mk : Nat → Int32} {L : List fb} (h : bM Mm mk L) (k6 : Mm' 12 6 = Mm 12 6) (k : ∀ q, 40 ≤ q → Mm' 12 q = Mm 12 q) : bM Mm' mk L := by
  refine ⟨by rw [k6]; exact h.1, fun b x hx => ?_⟩
  rw [k _ (by omega), k _ (by omega), k _ (by omega), k _ (by omega), k _ (by omega)]
  exact h.2 b x hx
theorem ga_c {i b w s : Nat} {M : ml_M} (hb : b < 8) (hw : w ≤ 1) (h8 : M (ml_fl i + 8) b = nI w) (h9 : M (ml_fl i + 9) b = nI s) : fX1_gateAhead i (nI b) M = some (.inl (if w = 0 then nI s - 1 else nI s), M) := by
  have ok : ml_ok (nI b) 8 := ok_nI hb (by decide)
  unfold fX1_gateAhead ml_jn
  rw [if_pos ok]
  dsimp only
  rw [if_pos ok, if_pos ok, nI_clamp (by omega), h8, h9]
  rcases (show w = 0 ∨ w = 1 by omega) with rfl | rfl
  · rw [if_pos (show nI 0 = 0 from rfl), if_pos rfl]
  · rw [if_neg (by decide), if_neg (by decide)]
theorem ba_c {i b w s : Nat} {M : ml_M} (hb : b < 8) (hw : w ≤ 1) (h8 : M (ml_fl i + 8) b = nI w) (h9 : M (ml_fl i + 9) b = nI s) : fX1_basinAhead i (nI b) M = some (.inl (if w = 0 then nI s - 1 else nI (s + 1)), M) := by
  have ok : ml_ok (nI b) 8 := ok_nI hb (by decide)
  unfold fX1_basinAhead ml_jn
  rw [if_pos ok]
  dsimp only
  rw [if_pos ok, if_pos ok, nI_clamp (by omega), h8, h9]
  rcases (show w = 0 ∨ w = 1 by omega) with rfl | rfl
  · rw [if_pos (show nI 0 = 0 from rfl), if_pos rfl]
  · rw [if_neg (by decide), if_neg (by decide), nI_1]
theorem nbool {x : Int32} (h : x = 0 ∨ x = 1) : narrow .boolean (.int x) = .int x := by rcases h with rfl | rfl <;> rfl
theorem ha_c {i b : Nat} {x : fb} {M : ml_M} (hb : b < 8) (hw : x.2.2.1 ≤ 1) (h8 : M (ml_fl i + 8) b = nI x.2.2.1) (h9 : M (ml_fl i + 9) b = nI x.2.2.2.1) (hs : x.2.2.2.1 ≤ 4) : fX1_hasArrived i (nI b) M = some (.inl (if fa x then 1 else 0), M) := by
  have ok : ml_ok (nI b) 8 := ok_nI hb (by decide)
  unfold fX1_hasArrived ml_jn
  rw [if_pos ok, if_pos ok, nI_clamp (by omega), h8, h9]
  dsimp only
  rw [if_pos (nbool (Or.inr rfl)), if_pos (nbool (Or.inl rfl))]
  unfold fa
  rcases (show x.2.2.1 = 0 ∨ x.2.2.1 = 1 by omega) with hw | hw <;> rw [hw]
  · rw [if_pos (show nI 0 = 0 from rfl), if_pos (show (0 : Nat) = 0 from rfl)]
    by_cases h : x.2.2.2.1 = 0
    · rw [h]; rfl
    · rw [if_neg (nI_ne0 (by omega) (by omega)), if_neg (by simp [h])]
  · rw [if_neg (show ¬ nI 1 = 0 by decide), if_neg (show ¬ (1 : Nat) = 0 by decide)]
    by_cases h : x.2.2.2.1 = 4
    · rw [h]; rfl
    · rw [if_neg (show ¬ nI x.2.2.2.1 = 4 from fun z => h ((nI_eq (a := x.2.2.2.1) (b := 4) (by omega) (by decide)).mp z)), if_neg (by simp [h])]
theorem getA {L A B : List fb} {x : fb} (h : L = A ++ x :: B) : L[A.length]? = some x := by subst h; simp
/-- how many boats lie in a basin: the class's loop -/
theorem ci_l {i j : Nat} {M : ml_M} (hj : j ≤ 4) {L : List fb} (h : bC M i L) (hL : L.length ≤ 8) (hok : ∀ x ∈ L, fb_ok x) (a0 : Int32) : ∀ (B A : List fb) (c n : Nat), L = A ++ B → B.length < n → fX1_countIn_l i a0 n (nI j) (nI c) (nI A.length) M = some (.inl (nI (c + cnt B j)), M) := by
  intro B
  induction B with
  | nil =>
    intro A c n hA hn
    obtain ⟨n, rfl⟩ : ∃ z, n = z + 1 := ⟨n - 1, by simp at hn; omega⟩
    show fX1_countIn_s0 i a0 (fX1_countIn_l i a0 n) (nI j) (nI c) (nI A.length) M = _
    unfold fX1_countIn_s0
    rw [List.append_nil] at hA
    subst hA
    rw [if_pos (by rw [h.1]; exact Int32.le_refl _)]
    rfl
  | cons x B ih =>
    intro A c n hA hn
    obtain ⟨n, rfl⟩ : ∃ z, n = z + 1 := ⟨n - 1, by simp at hn; omega⟩
    show fX1_countIn_s0 i a0 (fX1_countIn_l i a0 n) (nI j) (nI c) (nI A.length) M = _
    have hlen : L.length = A.length + (B.length + 1) := by rw [hA]; simp
    have hx := h.2 _ _ (getA hA)
    have hs := (hok x (by rw [hA]; simp)).2.2.2.2
    unfold fX1_countIn_s0 ml_jn
    rw [if_neg (by rw [h.1]; exact fun z => by have := (nI_leI (by omega) (by omega)).mp z; omega), if_pos (ok_nI (by omega) (by decide)), nI_clamp (by omega), hx.2.2.2.1]
    dsimp only
    have hA2 : L = (A ++ [x]) ++ B := by rw [hA]; simp
    have e9 : nI A.length + 1 = nI (A ++ [x]).length := by rw [nI_1]; simp
    rw [e9]
    unfold cnt
    by_cases hq : x.2.2.2.1 = j
    · rw [if_pos (congrArg nI hq), nI_1, ih (A ++ [x]) (c + 1) n hA2 (by simp at hn; omega), List.countP_cons_of_pos (by simp [hq])]
      unfold cnt
      rw [show c + 1 + List.countP (fun x => x.2.2.2.1 == j) B = c + (List.countP (fun x => x.2.2.2.1 == j) B + 1) by omega]
    · rw [if_neg (fun z => hq ((nI_eq (by omega) (by omega)).mp z)), show nI c + 0 = nI c from nI_add c 0, ih (A ++ [x]) c n hA2 (by simp at hn; omega), List.countP_cons_of_neg (by simp [hq])]
      rfl
theorem ci_c {i j : Nat} {M : ml_M} (hj : j ≤ 4) {L : List fb} (h : bC M i L) (hL : L.length ≤ 8) (hok : ∀ x ∈ L, fb_ok x) : fX1_countIn i (nI j) M = some (.inl (nI (cnt L j)), M) := by
  have := ci_l hj h hL hok (nI j) L [] 0 ml_fuel rfl (by unfold ml_fuel; omega)
  rw [Nat.zero_add] at this
  exact this
theorem b_ix (k f : Nat) : (40 + 5 * nI k) + nI f = nI (40 + 5 * k + f) := by
  have e : (5 : Int32) * nI k = nI (5 * k) := pk_mul 5 k
  rw [e]
  have e2 : (40 : Int32) + nI (5 * k) = nI (40 + 5 * k) := nIl 40 (5 * k)
  rw [e2, nI_add]
theorem b_m {k f : Nat} (hk : k < 8) (hf : f < 5) (M : ml_M) : fX7_b (nI k) (nI f) M = some (.inl (M 12 (40 + 5 * k + f)), M) := by
  unfold fX7_b
  rw [b_ix, if_pos (ok_nI (by omega) (by decide)), nI_clamp (by omega)]
theorem set_m {k f : Nat} (hk : k < 8) (hf : f < 5) (x : Int32) (M : ml_M) : fX7_set (nI k) (nI f) x M = some (.inl 0, ml_w M 12 (40 + 5 * k + f) x) := by
  unfold fX7_set ml_lt
  rw [b_ix, if_pos (ok_nI (by omega) (by decide)), nI_clamp (by omega)]
theorem ib_l {j : Nat} {M : ml_M} {mk : Nat → Int32} (hj : j ≤ 4) {L : List fb} (h : bM M mk L) (hL : L.length ≤ 8) (hok : ∀ x ∈ L, fb_ok x) (a0 : Int32) : ∀ (B A : List fb) (c n : Nat), L = A ++ B → B.length < n → fX7_inBasin_l a0 n (nI j) (nI c) (nI A.length) M = some (.inl (nI (c + cnt B j)), M) := by
  intro B
  induction B with
  | nil =>
    intro A c n hA hn
    obtain ⟨n, rfl⟩ : ∃ z, n = z + 1 := ⟨n - 1, by simp at hn; omega⟩
    show fX7_inBasin_s0 a0 (fX7_inBasin_l a0 n) (nI j) (nI c) (nI A.length) M = _
    unfold fX7_inBasin_s0
    rw [List.append_nil] at hA
    subst hA
    rw [if_pos (by rw [h.1]; exact Int32.le_refl _)]
    rfl
  | cons x B ih =>
    intro A c n hA hn
    obtain ⟨n, rfl⟩ : ∃ z, n = z + 1 := ⟨n - 1, by simp at hn; omega⟩
    show fX7_inBasin_s0 a0 (fX7_inBasin_l a0 n) (nI j) (nI c) (nI A.length) M = _
    have hlen : L.length = A.length + (B.length + 1) := by rw [hA]; simp
    have hx := h.2 _ _ (getA hA)
    have hs := (hok x (by rw [hA]; simp)).2.2.2.2
    unfold fX7_inBasin_s0 ml_jn
    rw [if_neg (by rw [h.1]; exact fun z => by have := (nI_leI (by omega) (by omega)).mp z; omega), show (3 : Int32) = nI 3 from rfl, b_m (by omega) (by decide), bd_l, show 40 + 5 * A.length + 3 = 43 + 5 * A.length by omega, hx.2.2.2.1]
    have hA2 : L = (A ++ [x]) ++ B := by rw [hA]; simp
    have e9 : nI A.length + 1 = nI (A ++ [x]).length := by rw [nI_1]; simp
    dsimp only
    rw [e9]
    unfold cnt
    by_cases hq : x.2.2.2.1 = j
    · rw [if_pos (congrArg nI hq), nI_1, ih (A ++ [x]) (c + 1) n hA2 (by simp at hn; omega), List.countP_cons_of_pos (by simp [hq])]
      unfold cnt
      rw [show c + 1 + List.countP (fun x => x.2.2.2.1 == j) B = c + (List.countP (fun x => x.2.2.2.1 == j) B + 1) by omega]
    · rw [if_neg (fun z => hq ((nI_eq (by omega) (by omega)).mp z)), show nI c + 0 = nI c from nI_add c 0, ih (A ++ [x]) c n hA2 (by simp at hn; omega), List.countP_cons_of_neg (by simp [hq])]
      rfl
theorem ib_m {j : Nat} {M : ml_M} {mk : Nat → Int32} (hj : j ≤ 4) {L : List fb} (h : bM M mk L) (hL : L.length ≤ 8) (hok : ∀ x ∈ L, fb_ok x) : fX7_inBasin (nI j) M = some (.inl (nI (cnt L j)), M) := by
  have := ib_l hj h hL hok (nI j) L [] 0 ml_fuel rfl (by unfold ml_fuel; omega)
  rw [Nat.zero_add] at this
  exact this
/-- the gate and the basin ahead of a boat that has not arrived -/
def gh (x : fb) : Nat := if x.2.2.1 = 0 then x.2.2.2.1 - 1 else x.2.2.2.1
def bh (x : fb) : Nat := if x.2.2.1 = 0 then x.2.2.2.1 - 1 else x.2.2.2.1 + 1
theorem fa_no {x : fb} (h : fb_ok x) (hf : fa x = false) : gh x < 4 ∧ bh x ≤ 4 ∧ (x.2.2.1 = 0 → 1 ≤ x.2.2.2.1) ∧ (x.2.2.1 = 1 → x.2.2.2.1 ≤ 3) := by
  obtain ⟨h1, h2, h3, h4, h5⟩ := h
  unfold fa at hf
  unfold gh bh
  rcases (show x.2.2.1 = 0 ∨ x.2.2.1 = 1 by omega) with hw | hw <;> rw [hw] at hf ⊢ <;> simp at hf ⊢ <;> omega
theorem ga_n {x : fb} (h : fb_ok x) (hf : fa x = false) : (if x.2.2.1 = 0 then nI x.2.2.2.1 - 1 else nI x.2.2.2.1) = nI (gh x) := by
  obtain ⟨a1, a2, a3, a4⟩ := fa_no h hf
  unfold gh
  by_cases hw : x.2.2.1 = 0
  · rw [if_pos hw, if_pos hw]
    exact pk_sub (b := 1) (a3 hw)
  · rw [if_neg hw, if_neg hw]
theorem ba_n {x : fb} (h : fb_ok x) (hf : fa x = false) : (if x.2.2.1 = 0 then nI x.2.2.2.1 - 1 else nI (x.2.2.2.1 + 1)) = nI (bh x) := by
  obtain ⟨a1, a2, a3, a4⟩ := fa_no h hf
  unfold bh
  by_cases hw : x.2.2.1 = 0
  · rw [if_pos hw, if_pos hw]
    exact pk_sub (b := 1) (a3 hw)
  · rw [if_neg hw, if_neg hw]
/-- is the water of the basin deep enough -/
theorem re_c {i a b v : Nat} {M : ml_M} (ha : a < 5) (hv : M (ml_fl i + 2) a = nI v) (hv4 : v ≤ 400) (hb : b ≤ 9) : fX5_reaches i (nI a) (nI b) M = some (.inl (if v < b * ar a then 0 else 1), M) := by
  have l1 : b * ar a ≤ 4000 := mul_le_400 (by omega)
  unfold fX5_reaches ml_jn
  rw [if_pos (ok_nI ha (by decide)), wa_c ha, bd_l, nI_clamp (by omega), hv, pk_mul]
  dsimp only
  rw [if_pos (nbool (Or.inl rfl)), if_pos (nbool (Or.inr rfl))]
  by_cases h : v < b * ar a
  · rw [if_pos ((nI_ltI (by omega) (by omega)).mpr h), if_pos h]
  · rw [if_neg (fun z => h ((nI_ltI (by omega) (by omega)).mp z)), if_neg h]
theorem id_m {a b v : Nat} {M : ml_M} (ha : a < 5) (hv : M 12 (11 + a) = nI v) (hv4 : v ≤ 400) (hb : b ≤ 9) : fX7_isDeep (nI a) (nI b) M = some (.inl (if v < b * ar a then 0 else 1), M) := by
  have l1 : b * ar a ≤ 4000 := mul_le_400 (by omega)
  have e1 : (11 : Int32) + nI a = nI (11 + a) := nIl 11 a
  unfold fX7_isDeep ml_jn
  rw [e1, if_pos (ok_nI (by omega) (by decide)), wa_m ha, bd_l, nI_clamp (by omega), hv, pk_mul]
  dsimp only
  rw [if_pos (nbool (Or.inl rfl)), if_pos (nbool (Or.inr rfl))]
  by_cases h : v < b * ar a
  · rw [if_pos ((nI_ltI (by omega) (by omega)).mpr h), if_pos h]
  · rw [if_neg (fun z => h ((nI_ltI (by omega) (by omega)).mp z)), if_neg h]
/-- the gates that were passed: four bits -/
def pb (p g : Nat) : Bool := (p >>> g) &&& 1 == 1
theorem pb_c : ∀ p < 16, ∀ g < 4, (nI p &&& (1 <<< (nI g &&& 31))) = 0 ↔ pb p g = false := by decide +kernel
theorem pb_m : ∀ p < 16, ∀ g < 4, (((nI p) >>> (nI g &&& 31)) &&& 1) = 1 ↔ pb p g = true := by decide +kernel
theorem pb_o : ∀ p < 16, ∀ g < 4, nI p ||| (1 <<< (nI g &&& 31)) = nI (p ||| (1 <<< g)) ∧ p ||| (1 <<< g) < 16 := by decide +kernel
