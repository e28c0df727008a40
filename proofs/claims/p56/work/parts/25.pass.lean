/-! A boat passes its gate: both sides. -/
def rW (Mc : ml_M) (i : Nat) (Mm : ml_M) (v o g : Nat → Nat) (r d : Nat) : Prop := rA Mc i Mm v o g r d ∧ rB Mc i Mm ∧ rS Mc i
theorem rW.of {Mc Mc' Mm Mm' : ml_M} {i : Nat} {v o g : Nat → Nat} {r d : Nat} (h : rW Mc i Mm v o g r d) (h0 : Mc' (ml_fl i) = Mc (ml_fl i)) (h1 : ∀ k, 1 ≤ k → k ≤ 4 → Mc' (ml_fl i + k) = Mc (ml_fl i + k)) (h2 : ∀ q, (q < 6 ∨ 11 ≤ q ∧ q < 24) → Mm' 12 q = Mm 12 q) : rW Mc' i Mm' v o g r d := by
  obtain ⟨⟨hv, hV, hO, hG, hr, hd⟩, ⟨b1, b2, b3, b4⟩, hS⟩ := h
  have e1 := h1 1 (by decide) (by decide)
  have e2 := h1 2 (by decide) (by decide)
  have e3 := h1 3 (by decide) (by decide)
  have e4 := h1 4 (by decide) (by decide)
  refine ⟨⟨by rw [e2]; exact hv, fun j hj => by rw [h2 _ (by omega)]; exact hV j hj, fun j hj => by rw [e3, h2 _ (by omega)]; exact hO j hj, fun j hj => by rw [e4, h2 _ (by omega)]; exact hG j hj, by rw [e1, h2 _ (by omega)]; exact hr, by rw [e1, h2 _ (by omega)]; exact hd⟩, ⟨by rw [e1, h2 _ (by omega)]; exact b1, by rw [e1, h2 _ (by omega)]; exact b2, by rw [e1, h2 _ (by omega)]; exact b3, by rw [h0, h2 _ (by omega)]; exact b4⟩, ?_⟩
  unfold rS
  rw [e1, e2]
  exact hS
theorem ig_1 {a : Nat} (h : a < 4) (M : ml_M) : fX6_isGate (nI a) M = some (.inl 1, M) := by
  rcases i_lt4 h with rfl | rfl | rfl | rfl <;> rfl
def hr (L : List fb) (a : Nat) : Bool := a == 0 || a == 4 || decide (cnt L a < 2)
theorem cnt_le (L : List fb) (j : Nat) : cnt L j ≤ L.length := List.countP_le_length
theorem hr_c {i a : Nat} {M : ml_M} (ha : a ≤ 4) {L : List fb} (h : bC M i L) (hL : L.length ≤ 8) (hok : ∀ x ∈ L, fb_ok x) : fX1_hasRoom i (nI a) M = some (.inl (if hr L a then 1 else 0), M) := by
  have hc := cnt_le L a
  unfold fX1_hasRoom ml_jn hr
  dsimp only
  rw [if_pos (nbool (Or.inr rfl)), ci_c ha h hL hok, bd_l, if_pos (nbool (Or.inl rfl))]
  by_cases h0 : a = 0
  · subst h0; rfl
  rw [if_neg (nI_ne0 (by omega) (by omega))]
  by_cases h4 : a = 4
  · subst h4; rfl
  rw [if_neg (show ¬ nI a = 4 from fun z => h4 ((nI_eq (a := a) (b := 4) (by omega) (by decide)).mp z))]
  by_cases h2 : cnt L a < 2
  · rw [if_neg (fun z => by have := (nI_leI (a := 2) (b := cnt L a) (by decide) (by omega)).mp z; omega), if_pos (nbool (Or.inr rfl))]
    simp [h2]
  · rw [if_pos (show (2 : Int32) ≤ nI (cnt L a) from (nI_leI (a := 2) (b := cnt L a) (by decide) (by omega)).mpr (by omega))]
    simp [h2, h0, h4]
/-- may the boat x pass -/
def mp (L : List fb) (v g : Nat → Nat) (p : Nat) (x : fb) : Bool := !(g (gh x) == 0) && (!(pb p (gh x)) && (hr L (bh x) && !(decide (v (bh x) < x.2.1 * ar (bh x)))))
theorem lim4 {V : Nat → Int32} {v : Nat → Nat} (h : wv V v) {a : Nat} (ha : a < 5) : v a ≤ 400 := Nat.le_trans (h a ha).2 (lim_le a)
theorem mp_c {i b p : Nat} {Mc Mm : ml_M} {v o g : Nat → Nat} {r d : Nat} {L : List fb} {x : fb} (hW : rW Mc i Mm v o g r d) (h : bC Mc i L) (hL : L.length ≤ 8) (hok : ∀ x ∈ L, fb_ok x) (hb : L[b]? = some x) (hx : fa x = false) (hp : p < 16) : fX2_mayPass i (nI b) (nI p) Mc = some (.inl (if mp L v g p x then 1 else 0), Mc) := by
  obtain ⟨⟨hv, hV, hO, hG, hr9, hd9⟩, hB, hS⟩ := hW
  have hbl := (List.getElem?_eq_some_iff.mp hb).1
  have hxo := hok x (List.mem_of_getElem? hb)
  obtain ⟨f1, f2, f3, f4, f5⟩ := h.2 b x hb
  obtain ⟨g4, b4, -, -⟩ := fa_no hxo hx
  have okg : ml_ok (nI (gh x)) 4 := ok_nI g4 (by decide)
  unfold fX2_mayPass ml_jn
  rw [ga_c (by omega) hxo.2.2.2.1 f3 f4, bd_l, ba_c (by omega) hxo.2.2.2.1 f3 f4, bd_l, ga_n hxo hx, ba_n hxo hx, ig_1 g4, bd_l]
  dsimp only
  rw [if_neg (show ¬ (1 : Int32) = 0 by decide), if_pos okg, nI_clamp (by omega), (hG _ g4).1, hr_c b4 h hL hok, bd_l, if_pos (ok_nI (by omega) (by decide)), nI_clamp (by omega), f2, re_c (by omega) (hv _ (by omega)).1 (lim4 hv (by omega)) hxo.2.2.1, bd_l]
  rw [if_pos (nbool (Or.inl rfl)), if_pos (nbool (Or.inr rfl))]
  have hg1 := (hG _ g4).2.1
  unfold mp
  by_cases c1 : g (gh x) = 0
  · rw [if_pos (by rw [c1]; rfl)]
    simp [c1]
  rw [if_neg (nI_ne0 (by omega) (by omega))]
  by_cases c2 : pb p (gh x) = false
  · rw [if_pos ((pb_c p hp _ g4).mpr c2)]
    by_cases c3 : hr L (bh x) = true
    · rw [c3, if_pos rfl, if_neg (show ¬ (1 : Int32) = 0 by decide)]
      by_cases c4 : v (bh x) < x.2.1 * ar (bh x)
      · rw [if_pos c4, if_pos rfl]
        simp [c1, c2, c4]
      · rw [if_neg c4, if_neg (show ¬ (1 : Int32) = 0 by decide)]
        simp [c1, c2, c4]
    · have c3' : hr L (bh x) = false := by simpa using c3
      rw [c3']
      simp
  · rw [if_neg (fun z => c2 ((pb_c p hp _ g4).mp z))]
    have c2' : pb p (gh x) = true := by simpa using c2
    simp [c2']
theorem mp_a {i b : Nat} {p : Int32} {Mc : ml_M} {L : List fb} {x : fb} (h : bC Mc i L) (hL : L.length ≤ 8) (hok : ∀ x ∈ L, fb_ok x) (hb : L[b]? = some x) (hx : fa x = true) : fX2_mayPass i (nI b) p Mc = some (.inl 0, Mc) := by
  have hbl := (List.getElem?_eq_some_iff.mp hb).1
  have hxo := hok x (List.mem_of_getElem? hb)
  obtain ⟨f1, f2, f3, f4, f5⟩ := h.2 b x hb
  unfold fX2_mayPass ml_jn
  rw [ga_c (by omega) hxo.2.2.2.1 f3 f4, bd_l, ba_c (by omega) hxo.2.2.2.1 f3 f4, bd_l]
  unfold fa at hx
  rcases (show x.2.2.1 = 0 ∨ x.2.2.1 = 1 by have := hxo.2.2.2.1; omega) with hw | hw <;> rw [hw] at hx ⊢ <;> simp at hx <;> rw [hx] <;> rfl
/-- the same boat in another basin -/
def mv (x : fb) : fb := (x.1, x.2.1, x.2.2.1, bh x, x.2.2.2.2)
theorem mv_fa {x : fb} (h : fb_ok x) (hx : fa x = false) : fa (mv x) = (bh x == 0 || bh x == 4) := by
  obtain ⟨g4, b4, a3, a4⟩ := fa_no h hx
  unfold fa mv
  unfold bh at b4 ⊢
  rcases (show x.2.2.1 = 0 ∨ x.2.2.1 = 1 by have := h.2.2.2.1; omega) with hw | hw
  · have := a3 hw
    have := h.2.2.2.2
    simp only [hw, if_pos]
    rw [show (x.2.2.2.1 - 1 == 4) = false by simp; omega, Bool.or_false]
  · simp only [hw]
    simp
theorem mv_ok {x : fb} (h : fb_ok x) (hx : fa x = false) : fb_ok (mv x) := ⟨h.1, h.2.1, h.2.2.1, h.2.2.2.1, (fa_no h hx).2.1⟩
theorem bC.set {i b : Nat} {M : ml_M} {L : List fb} {x : fb} (h : bC M i L) (hb : L[b]? = some x) : bC (ml_w M (ml_fl i + 9) b (nI (bh x))) i (L.set b (mv x)) := by
  refine ⟨by rw [ml_w_ne (by omega), List.length_set]; exact h.1, fun k y hy => ?_⟩
  rw [ml_w_ne (show ml_fl i + 6 ≠ ml_fl i + 9 by omega), ml_w_ne (show ml_fl i + 7 ≠ ml_fl i + 9 by omega), ml_w_ne (show ml_fl i + 8 ≠ ml_fl i + 9 by omega), ml_w_ne (show ml_fl i + 10 ≠ ml_fl i + 9 by omega)]
  by_cases hk : b = k
  · subst hk
    rw [List.getElem?_set_self (List.getElem?_eq_some_iff.mp hb).1] at hy
    cases hy
    obtain ⟨f1, f2, f3, f4, f5⟩ := h.2 b x hb
    exact ⟨f1, f2, f3, w_at, f5⟩
  · rw [List.getElem?_set_ne hk] at hy
    rw [w_un (Ne.symm hk)]
    exact h.2 k y hy
theorem set_app {A B : List fb} {x y : fb} : (A ++ x :: B).set A.length y = A ++ y :: B := by simp
theorem bM.set {k : Nat} {M : ml_M} {mk : Nat → Int32} {A B : List fb} {x : fb} (h : bM M mk (A ++ x :: B)) (hk : k = A.length) : bM (ml_w M 12 (43 + 5 * k) (nI (bh x))) mk (A ++ mv x :: B) := by
  subst hk
  refine ⟨by rw [w_un (by omega)]; have := h.1; simpa using this, fun b y hy => ?_⟩
  rw [w_un (show 40 + 5 * b ≠ 43 + 5 * A.length by omega), w_un (show 41 + 5 * b ≠ 43 + 5 * A.length by omega), w_un (show 42 + 5 * b ≠ 43 + 5 * A.length by omega), w_un (show 44 + 5 * b ≠ 43 + 5 * A.length by omega)]
  rw [← set_app (x := x)] at hy
  by_cases hb : A.length = b
  · subst hb
    rw [List.getElem?_set_self (by simp)] at hy
    cases hy
    obtain ⟨f1, f2, f3, f4, f5⟩ := h.2 A.length x (by simp)
    exact ⟨f1, f2, f3, w_at, f5⟩
  · rw [List.getElem?_set_ne hb] at hy
    rw [w_un (by omega)]
    exact h.2 b y hy
/-- a boat leaves the reference's row -/
theorem lv_1 {k l : Nat} {M : ml_M} (a0 : Int32) (hk : k ≤ l) (hl : l < 8) : ∀ (s t n : Nat) (Mt : ml_M), t + s = 5 * l → 5 * k ≤ t → s < n → (∀ p, p ≠ 12 → Mt p = M p) → (∀ q, Mt 12 q = if 40 + 5 * k ≤ q ∧ q < 40 + t then M 12 (q + 5) else M 12 q) → ∃ Mt' : ml_M, fX7_leaves_l a0 n 0 (nI k) (nI l) (nI t) Mt = fX7_leaves_l a0 (n - s - 1) 1 (nI k) (nI l) 0 Mt' ∧ (∀ p, p ≠ 12 → Mt' p = M p) ∧ ∀ q, Mt' 12 q = if 40 + 5 * k ≤ q ∧ q < 40 + 5 * l then M 12 (q + 5) else M 12 q := by
  intro s
  induction s with
  | zero =>
    intro t n Mt ht h5 hn hp hq
    obtain ⟨n, rfl⟩ : ∃ z, n = z + 1 := ⟨n - 1, by omega⟩
    refine ⟨Mt, ?_, hp, by rw [show 5 * l = t by omega]; exact hq⟩
    show fX7_leaves_s0 a0 (fX7_leaves_l a0 n) (nI k) (nI l) (nI t) Mt = _
    unfold fX7_leaves_s0
    rw [show (5 : Int32) * nI l = nI (5 * l) from pk_mul 5 l, if_pos ((nI_leI (by omega) (by omega)).mpr (by omega))]
    rfl
  | succ s ih =>
    intro t n Mt ht h5 hn hp hq
    obtain ⟨n, rfl⟩ : ∃ z, n = z + 1 := ⟨n - 1, by omega⟩
    obtain ⟨Mt', a1, a2, a3⟩ := ih (t + 1) n (ml_w Mt 12 (40 + t) (Mt 12 (45 + t))) (by omega) (by omega) (by omega) (fun p h9 => by rw [ml_w_ne h9]; exact hp p h9) (fun q => by
      by_cases h : q = 40 + t
      · subst h
        rw [w_at, if_pos ⟨by omega, by omega⟩, hq, if_neg (by omega), show 40 + t + 5 = 45 + t by omega]
      · rw [w_un h, hq]
        by_cases h2 : 40 + 5 * k ≤ q ∧ q < 40 + t
        · rw [if_pos h2, if_pos ⟨by omega, by omega⟩]
        · rw [if_neg h2, if_neg (by omega)])
    refine ⟨Mt', ?_, a2, a3⟩
    rw [show n + 1 - (s + 1) - 1 = n - s - 1 by omega, ← a1]
    show fX7_leaves_s0 a0 (fX7_leaves_l a0 n) (nI k) (nI l) (nI t) Mt = _
    unfold fX7_leaves_s0 ml_lt
    have e1 : (40 : Int32) + nI t = nI (40 + t) := nIl 40 t
    have e2 : nI (40 + t) + 5 = nI (40 + t + 5) := nI_add (40 + t) 5
    rw [show (5 : Int32) * nI l = nI (5 * l) from pk_mul 5 l, if_neg (fun z => by have := (nI_leI (by omega) (by omega)).mp z; omega), e1, e2, if_pos (ok_nI (by omega) (by decide)), if_pos (ok_nI (by omega) (by decide)), nI_clamp (by omega), nI_clamp (by omega), nI_1, show 40 + t + 5 = 45 + t by omega]
def lvM (M : ml_M) (l : Nat) : ml_M := ml_w (ml_w (ml_w (ml_w (ml_w (ml_w M 12 (40 + 5 * l + 0) 0) 12 (40 + 5 * l + 1) 0) 12 (40 + 5 * l + 2) 0) 12 (40 + 5 * l + 3) 0) 12 (40 + 5 * l + 4) 0) 12 6 (nI l)
theorem lv_2 {k l : Nat} (a0 : Int32) (hl : l < 8) (n : Nat) (M : ml_M) : fX7_leaves_l a0 (n + 6) 1 (nI k) (nI l) 0 M = some (.inl 0, lvM M l) := by
  have st : ∀ (f m : Nat) (N : ml_M), f < 5 → fX7_leaves_l a0 (m + 1) 1 (nI k) (nI l) (nI f) N = fX7_leaves_l a0 m 1 (nI k) (nI l) (nI (f + 1)) (ml_w N 12 (40 + 5 * l + f) 0) := by
    intro f m N hf
    show fX7_leaves_s1 a0 (fX7_leaves_l a0 m) (nI k) (nI l) (nI f) N = _
    unfold fX7_leaves_s1
    rw [if_neg (fun z => by have := (nI_leI (a := 5) (b := f) (by decide) (by omega)).mp z; omega), set_m hl hf, bd_l, nI_1]
  have s0 := st 0 (n + 5) M (by decide)
  have s1 := st 1 (n + 4) (ml_w M 12 (40 + 5 * l + 0) 0) (by decide)
  have s2 := st 2 (n + 3) (ml_w (ml_w M 12 (40 + 5 * l + 0) 0) 12 (40 + 5 * l + 1) 0) (by decide)
  have s3 := st 3 (n + 2) (ml_w (ml_w (ml_w M 12 (40 + 5 * l + 0) 0) 12 (40 + 5 * l + 1) 0) 12 (40 + 5 * l + 2) 0) (by decide)
  have s4 := st 4 (n + 1) (ml_w (ml_w (ml_w (ml_w M 12 (40 + 5 * l + 0) 0) 12 (40 + 5 * l + 1) 0) 12 (40 + 5 * l + 2) 0) 12 (40 + 5 * l + 3) 0) (by decide)
  exact s0.trans (s1.trans (s2.trans (s3.trans (s4.trans rfl))))
theorem lv_m {M : ml_M} {mk : Nat → Int32} {A B : List fb} {x : fb} (h : bM M mk (A ++ x :: B)) (hL : (A ++ x :: B).length ≤ 8) : ∃ M', fX7_leaves (nI A.length) M = some (.inl 0, M') ∧ bM M' mk (A ++ B) ∧ (∀ q, q < 40 → q ≠ 6 → M' 12 q = M 12 q) ∧ (∀ q, 80 ≤ q → M' 12 q = M 12 q) ∧ ∀ p, p ≠ 12 → M' p = M p := by
  have hlen : (A ++ x :: B).length = A.length + B.length + 1 := by simp; omega
  obtain ⟨l, hl⟩ : ∃ l, l = A.length + B.length := ⟨_, rfl⟩
  obtain ⟨Mt, a1, a2, a3⟩ := lv_1 (k := A.length) (l := l) (M := M) (nI A.length) (by omega) (by omega) (5 * l - 5 * A.length) (5 * A.length) ml_fuel M (by omega) (by omega) (by unfold ml_fuel; omega) (fun _ _ => rfl) (fun q => by rw [if_neg (by omega)])
  have hf : ml_fuel - (5 * l - 5 * A.length) - 1 = (ml_fuel - (5 * l - 5 * A.length) - 7) + 6 := by unfold ml_fuel; omega
  rw [hf, lv_2 _ (by omega)] at a1
  have e0 : M 12 6 - 1 = nI l := by rw [h.1, hlen, nI_pred, hl]
  refine ⟨lvM Mt l, ?_, ⟨?_, fun b y hy => ?_⟩, fun q h1 h2 => ?_, fun q h1 => ?_, fun p hp => ?_⟩
  · unfold fX7_leaves
    rw [e0, show (5 : Int32) * nI A.length = nI (5 * A.length) from pk_mul 5 _]
    exact a1
  · unfold lvM
    rw [w_at, hl]; simp
  · have hb : b < l := by
      have := (List.getElem?_eq_some_iff.mp hy).1
      simp at this
      omega
    have rd : ∀ f, f < 5 → (lvM Mt l) 12 (40 + 5 * b + f) = if A.length ≤ b then M 12 (40 + 5 * (b + 1) + f) else M 12 (40 + 5 * b + f) := by
      intro f hf
      unfold lvM
      rw [w_un (by omega), w_un (by omega), w_un (by omega), w_un (by omega), w_un (by omega), w_un (by omega), a3]
      by_cases hc : A.length ≤ b
      · rw [if_pos ⟨by omega, by omega⟩, if_pos hc, show 40 + 5 * b + f + 5 = 40 + 5 * (b + 1) + f by omega]
      · rw [if_neg (by omega), if_neg hc]
    have key : ∃ b2, (A ++ x :: B)[b2]? = some y ∧ ∀ f, f < 5 → (if A.length ≤ b then M 12 (40 + 5 * (b + 1) + f) else M 12 (40 + 5 * b + f)) = M 12 (40 + 5 * b2 + f) := by
      by_cases hc : A.length ≤ b
      · refine ⟨b + 1, ?_, fun f hf => by rw [if_pos hc]⟩
        rw [List.getElem?_append_right (by omega)] at hy ⊢
        rw [show b + 1 - A.length = (b - A.length) + 1 by omega]
        exact hy
      · refine ⟨b, ?_, fun f hf => by rw [if_neg hc]⟩
        rw [List.getElem?_append_left (by omega)] at hy ⊢
        exact hy
    obtain ⟨b2, g1, g2⟩ := key
    have r0 := (rd 0 (by decide)).trans (g2 0 (by decide))
    have r1 := (rd 1 (by decide)).trans (g2 1 (by decide))
    have r2 := (rd 2 (by decide)).trans (g2 2 (by decide))
    have r3 := (rd 3 (by decide)).trans (g2 3 (by decide))
    have r4 := (rd 4 (by decide)).trans (g2 4 (by decide))
    obtain ⟨f1, f2, f3, f4, f5⟩ := h.2 b2 y g1
    refine ⟨r0.trans f1, ?_, ?_, ?_, ?_⟩
    · rw [show 41 + 5 * b = 40 + 5 * b + 1 by omega, r1, show 40 + 5 * b2 + 1 = 41 + 5 * b2 by omega]; exact f2
    · rw [show 42 + 5 * b = 40 + 5 * b + 2 by omega, r2, show 40 + 5 * b2 + 2 = 42 + 5 * b2 by omega]; exact f3
    · rw [show 43 + 5 * b = 40 + 5 * b + 3 by omega, r3, show 40 + 5 * b2 + 3 = 43 + 5 * b2 by omega]; exact f4
    · rw [show 44 + 5 * b = 40 + 5 * b + 4 by omega, r4, show 40 + 5 * b2 + 4 = 44 + 5 * b2 by omega]; exact f5
  · unfold lvM
    rw [w_un h2, w_un (by omega), w_un (by omega), w_un (by omega), w_un (by omega), w_un (by omega), a3, if_neg (by omega)]
  · unfold lvM
    rw [w_un (by omega), w_un (by omega), w_un (by omega), w_un (by omega), w_un (by omega), w_un (by omega), a3, if_neg (by omega)]
  · unfold lvM
    rw [ml_w_ne hp, ml_w_ne hp, ml_w_ne hp, ml_w_ne hp, ml_w_ne hp, ml_w_ne hp, a2 p hp]
