/-! A boat is added, on both sides. -/
def cn (c : Int32) : Int32 := if c = 114 then 0 else if c = 103 then 1 else if c = 98 then 2 else -1
theorem cno_c (c : Int32) (M : ml_M) : fX6_colourNumber c M = some (.inl (cn c), M) := by
  have st : ∀ k n, k < 3 → fX6_colourNumber_l c (n + 1) c (nI k) M = if ml_cs k = c then some (.inl (nI k), M) else fX6_colourNumber_l c n c (nI (k + 1)) M := by
    intro k n hk
    show fX6_colourNumber_s0 c (fX6_colourNumber_l c n) c (nI k) M = _
    unfold fX6_colourNumber_s0
    rw [if_neg (fun z => by have := (nI_leI (a := 3) (b := k) (by decide) (by omega)).mp z; omega), if_pos (ok_nI hk (by decide)), nI_clamp (by omega), nI_1]
  have s3 : ∀ n, fX6_colourNumber_l c (n + 1) c (nI 3) M = some (.inl (-1), M) := by
    intro n
    show fX6_colourNumber_s0 c (fX6_colourNumber_l c n) c (nI 3) M = _
    unfold fX6_colourNumber_s0
    rw [if_pos (by decide)]
  unfold fX6_colourNumber
  obtain ⟨z, hz⟩ : ∃ z, ml_fuel = z + 4 := ⟨ml_fuel - 4, by unfold ml_fuel; omega⟩
  rw [hz]
  refine (st 0 (z + 3) (by decide)).trans ?_
  rw [st 1 (z + 2) (by decide), st 2 (z + 1) (by decide), s3 z, show ml_cs 0 = 114 from rfl, show ml_cs 1 = 103 from rfl, show ml_cs 2 = 98 from rfl]
  unfold cn
  by_cases h0 : c = 114
  · subst h0; rw [if_pos rfl, if_pos rfl]; rfl
  rw [if_neg (fun z => h0 z.symm), if_neg h0]
  by_cases h1 : c = 103
  · subst h1; rw [if_pos rfl, if_pos rfl]; rfl
  rw [if_neg (fun z => h1 z.symm), if_neg h1]
  by_cases h2 : c = 98
  · subst h2; rw [if_pos rfl, if_pos rfl]; rfl
  rw [if_neg (fun z => h2 z.symm), if_neg h2]
theorem cof_m (c : Int32) (M : ml_M) : fX7_colourOf c M = some (.inl (cn c), M) := by
  unfold fX7_colourOf ml_jn cn
  dsimp only
  by_cases h0 : c = 114
  · rw [if_pos h0, if_pos h0]
  rw [if_neg h0, if_neg h0]
  by_cases h1 : c = 103
  · rw [if_pos h1, if_pos h1]
  rw [if_neg h1, if_neg h1]
  by_cases h2 : c = 98
  · rw [if_pos h2, if_pos h2]
  rw [if_neg h2, if_neg h2]
theorem cn_case (c : Int32) : (∃ k, k < 3 ∧ cn c = nI k) ∨ cn c = -1 := by
  unfold cn
  by_cases h0 : c = 114
  · rw [if_pos h0]; exact Or.inl ⟨0, by decide, rfl⟩
  rw [if_neg h0]
  by_cases h1 : c = 103
  · rw [if_pos h1]; exact Or.inl ⟨1, by decide, rfl⟩
  rw [if_neg h1]
  by_cases h2 : c = 98
  · rw [if_pos h2]; exact Or.inl ⟨2, by decide, rfl⟩
  rw [if_neg h2]
  exact Or.inr rfl
def putC (i : Nat) (M : ml_M) (l k d w s a : Nat) : ml_M := ml_w (ml_w (ml_w (ml_w (ml_w (ml_w (ml_w M (ml_fl i + 6) l (nI k)) (ml_fl i + 7) l (nI d)) (ml_fl i + 8) l (nI w)) (ml_fl i + 9) l (nI s)) (ml_fl i + 10) l (nI a)) (ml_fl i + 5) 1 (nI (a + 1))) (ml_fl i + 5) 0 (nI (l + 1))
theorem put_c {i l k d w a : Nat} {M : ml_M} (hl : l < 8) (hw : w ≤ 1) (h0 : M (ml_fl i + 5) 0 = nI l) (h1 : M (ml_fl i + 5) 1 = nI a) : fX1_put i (nI k) (nI d) (nI w) M = some (.inl (nI l), putC i M l k d w (if w = 0 then 4 else 0) a) := by
  have ok : ml_ok (nI l) 8 := ok_nI hl (by decide)
  have cl : (nI l).toNatClampNeg = l := nI_clamp (by omega)
  have hlt : nI l < 8 := (nI_ltI (b := 8) (by omega) (by decide)).mpr hl
  have n6 : ∀ (N : ml_M) (j : Nat) (x : Int32), ml_w N (ml_fl i + 6) j x (ml_fl i + 5) = N (ml_fl i + 5) := fun N j x => ml_w_ne (by omega)
  have n7 : ∀ (N : ml_M) (j : Nat) (x : Int32), ml_w N (ml_fl i + 7) j x (ml_fl i + 5) = N (ml_fl i + 5) := fun N j x => ml_w_ne (by omega)
  have n8 : ∀ (N : ml_M) (j : Nat) (x : Int32), ml_w N (ml_fl i + 8) j x (ml_fl i + 5) = N (ml_fl i + 5) := fun N j x => ml_w_ne (by omega)
  have n9 : ∀ (N : ml_M) (j : Nat) (x : Int32), ml_w N (ml_fl i + 9) j x (ml_fl i + 5) = N (ml_fl i + 5) := fun N j x => ml_w_ne (by omega)
  have n10 : ∀ (N : ml_M) (j : Nat) (x : Int32), ml_w N (ml_fl i + 10) j x (ml_fl i + 5) = N (ml_fl i + 5) := fun N j x => ml_w_ne (by omega)
  have n1 : ∀ (N : ml_M) (x : Int32), ml_w N (ml_fl i + 5) 1 x (ml_fl i + 5) 0 = N (ml_fl i + 5) 0 := fun N x => w_un (by decide)
  have n0 : ∀ (N : ml_M) (x : Int32), ml_w N (ml_fl i + 5) 0 x (ml_fl i + 5) 0 = x := fun N x => w_at
  unfold fX1_put ml_lt ml_jn
  simp only [n6, n7, n8, n9, n10, n1, n0, h0, h1, if_pos hlt, if_pos ok, cl, nar_b hw, nI_1, nI_pred]
  unfold putC
  rcases (show w = 0 ∨ w = 1 by omega) with rfl | rfl
  · rw [if_pos (show nI 0 = 0 from rfl), if_pos rfl]
    rfl
  · rw [if_neg (show ¬ nI 1 = 0 by decide), if_neg (by decide)]
    rfl
def addM (M : ml_M) (l k d w s : Nat) : ml_M := ml_w (ml_w (ml_w (ml_w (ml_w (ml_w (ml_w M 12 6 (nI (l + 1))) 12 (40 + 5 * l + 0) (nI k)) 12 (40 + 5 * l + 1) (nI d)) 12 (40 + 5 * l + 2) (nI w)) 12 (40 + 5 * l + 3) (nI s)) 12 (40 + 5 * l + 4) 0) 11 4 (nI l)
theorem adds_m {l k d w : Nat} {M : ml_M} (hl : l < 8) (hw : w ≤ 1) (hk : k < 3) (hd1 : 1 ≤ d) (hd9 : d ≤ 9) (h6 : M 12 6 = nI l) : fX7_adds (nI k) (nI d) (nI w) M = some (.inl 0, addM M l k d w (if w = 0 then 4 else 0)) := by
  have s0 : ∀ (N : ml_M) (x : Int32), fX7_set (nI l) 0 x N = some (.inl 0, ml_w N 12 (40 + 5 * l + 0) x) := fun N x => set_m (f := 0) hl (by decide) x N
  have s1 : ∀ (N : ml_M) (x : Int32), fX7_set (nI l) 1 x N = some (.inl 0, ml_w N 12 (40 + 5 * l + 1) x) := fun N x => set_m (f := 1) hl (by decide) x N
  have s2 : ∀ (N : ml_M) (x : Int32), fX7_set (nI l) 2 x N = some (.inl 0, ml_w N 12 (40 + 5 * l + 2) x) := fun N x => set_m (f := 2) hl (by decide) x N
  have s3 : ∀ (N : ml_M) (x : Int32), fX7_set (nI l) 3 x N = some (.inl 0, ml_w N 12 (40 + 5 * l + 3) x) := fun N x => set_m (f := 3) hl (by decide) x N
  have s4 : ∀ (N : ml_M) (x : Int32), fX7_set (nI l) 4 x N = some (.inl 0, ml_w N 12 (40 + 5 * l + 4) x) := fun N x => set_m (f := 4) hl (by decide) x N
  have p1 : ¬ nI d < 1 := fun z => by
    have := (nI_ltI (b := 1) (by omega) (by decide)).mp z
    omega
  have p2 : ¬ (9 : Int32) < nI d := fun z => by
    have := (nI_ltI (a := 9) (by decide) (by omega)).mp z
    omega
  have p3 : ¬ nI l = 8 := fun z => by
    have := (nI_eq (b := 8) (by omega) (by decide)).mp z
    omega
  unfold fX7_adds ml_lt ml_jn
  rw [if_neg (nI_pos (by omega)), in_m, bd_l, if_neg p1, if_neg p2, if_neg (by decide), h6, if_neg p3]
  simp only [s0, s1, s2, s3, s4, bd_l, nI_1]
  unfold addM
  rcases (show w = 0 ∨ w = 1 by omega) with rfl | rfl
  · rw [if_neg (show ¬ nI 0 = 1 by decide), if_pos rfl]
    rfl
  · rw [if_pos (show nI 1 = 1 from rfl), if_neg (by decide)]
    rfl
theorem app_at {L : List fb} {x y : fb} {b : Nat} (h : (L ++ [x])[b]? = some y) : (b < L.length ∧ L[b]? = some y) ∨ (b = L.length ∧ y = x) := by
  by_cases hb : b < L.length
  · rw [List.getElem?_append_left hb] at h
    exact Or.inl ⟨hb, h⟩
  · have h2 := (List.getElem?_eq_some_iff.mp h).1
    have h3 : b = L.length := by
      simp at h2
      omega
    subst h3
    rw [List.getElem?_append_right (Nat.le_refl _), Nat.sub_self] at h
    exact Or.inr ⟨rfl, (Option.some.inj h).symm⟩
theorem rR_app {L : List fb} {x : fb} (h : rR L) (hx : x.2.2.2.1 = 0 ∨ x.2.2.2.1 = 4) : rR (L ++ [x]) := by
  intro j h1 h3
  have h0 := h j h1 h3
  unfold cnt at h0 ⊢
  rw [List.countP_append]
  have e : List.countP (fun x => x.2.2.2.1 == j) [x] = 0 := by
    rw [List.countP_cons_of_neg]
    · rfl
    · simp
      omega
  omega
theorem fk_put {n i k d w : Nat} {Mc Mm : ml_M} {L : List fb} {a : Nat} (hQ : rQ Mc i Mm mk0 L) (ha : Mc (ml_fl i + 5) 1 = nI a) (han : a ≤ n) (hnd : (tg L).Nodup) (hlt : ∀ t ∈ tg L, t < a) (hl : L.length < 8) (hk : k < 3) (hd1 : 1 ≤ d) (hd9 : d ≤ 9) (hw : w ≤ 1) : fk (n + 1) (putC i Mc L.length k d w (if w = 0 then 4 else 0) a) i (addM Mm L.length k d w (if w = 0 then 4 else 0)) := by
  obtain ⟨s, hs⟩ : ∃ z, z = (if w = 0 then 4 else 0) := ⟨_, rfl⟩
  have hs4 : s = 0 ∨ s = 4 := by rw [hs]; split <;> omega
  obtain ⟨⟨v, o, g, r, d0, hW⟩, hE, hG, hC, hM, hok, hL, hR⟩ := hQ
  rw [← hs]
  obtain ⟨Lc, hLc⟩ : ∃ z, z = L.length := ⟨_, rfl⟩
  rw [← hLc] at hl ⊢
  have pc : ∀ q, (q < ml_fl i + 5 ∨ ml_fl i + 10 < q) → putC i Mc Lc k d w s a q = Mc q := fun q hq => by
    unfold putC
    rw [ml_w_ne (by omega), ml_w_ne (by omega), ml_w_ne (by omega), ml_w_ne (by omega), ml_w_ne (by omega), ml_w_ne (by omega), ml_w_ne (by omega)]
  have pm : ∀ q, q < 40 → q ≠ 6 → addM Mm Lc k d w s 12 q = Mm 12 q := fun q h1 h2 => by
    unfold addM
    rw [ml_w_ne (by decide), w_un (by omega), w_un (by omega), w_un (by omega), w_un (by omega), w_un (by omega), w_un h2]
  refine ⟨L ++ [(k, d, w, s, a)], a + 1, ⟨⟨v, o, g, r, d0, hW.of (pc _ (by omega)) (fun q h1 h4 => pc _ (by omega)) (fun q hq => pm q (by omega) (by omega))⟩, hE.of (fun q h1 h2 => pc _ (by omega)) (pm 7 (by decide) (by decide)) (fun q h1 h2 => pm q h2 (by omega)), fun j hj => by rw [pm _ (by omega) (by omega), pc _ (by omega)]; exact hG j hj, ⟨?_, fun b x hx => ?_⟩, ⟨?_, fun b x hx => ?_⟩, fun x hx => ?_, ?_, rR_app hR hs4⟩, ?_, by omega, ?_, fun t ht => ?_⟩
  · unfold putC
    rw [w_at, hLc]
    simp
  · unfold putC
    rw [ml_w_ne (show ml_fl i + 6 ≠ ml_fl i + 5 by omega), ml_w_ne (show ml_fl i + 6 ≠ ml_fl i + 5 by omega), ml_w_ne (show ml_fl i + 6 ≠ ml_fl i + 10 by omega), ml_w_ne (show ml_fl i + 6 ≠ ml_fl i + 9 by omega), ml_w_ne (show ml_fl i + 6 ≠ ml_fl i + 8 by omega), ml_w_ne (show ml_fl i + 6 ≠ ml_fl i + 7 by omega)]
    rw [ml_w_ne (show ml_fl i + 7 ≠ ml_fl i + 5 by omega), ml_w_ne (show ml_fl i + 7 ≠ ml_fl i + 5 by omega), ml_w_ne (show ml_fl i + 7 ≠ ml_fl i + 10 by omega), ml_w_ne (show ml_fl i + 7 ≠ ml_fl i + 9 by omega), ml_w_ne (show ml_fl i + 7 ≠ ml_fl i + 8 by omega)]
    rw [ml_w_ne (show ml_fl i + 8 ≠ ml_fl i + 5 by omega), ml_w_ne (show ml_fl i + 8 ≠ ml_fl i + 5 by omega), ml_w_ne (show ml_fl i + 8 ≠ ml_fl i + 10 by omega), ml_w_ne (show ml_fl i + 8 ≠ ml_fl i + 9 by omega)]
    rw [ml_w_ne (show ml_fl i + 9 ≠ ml_fl i + 5 by omega), ml_w_ne (show ml_fl i + 9 ≠ ml_fl i + 5 by omega), ml_w_ne (show ml_fl i + 9 ≠ ml_fl i + 10 by omega)]
    rw [ml_w_ne (show ml_fl i + 10 ≠ ml_fl i + 5 by omega), ml_w_ne (show ml_fl i + 10 ≠ ml_fl i + 5 by omega)]
    rcases app_at hx with ⟨hb, hx⟩ | ⟨hb, hx⟩
    · rw [w_un (by omega), w_un (by omega), w_un (by omega), w_un (by omega), w_un (by omega)]
      rw [ml_w_ne (show ml_fl i + 7 ≠ ml_fl i + 6 by omega), ml_w_ne (show ml_fl i + 8 ≠ ml_fl i + 7 by omega), ml_w_ne (show ml_fl i + 8 ≠ ml_fl i + 6 by omega), ml_w_ne (show ml_fl i + 9 ≠ ml_fl i + 8 by omega), ml_w_ne (show ml_fl i + 9 ≠ ml_fl i + 7 by omega), ml_w_ne (show ml_fl i + 9 ≠ ml_fl i + 6 by omega), ml_w_ne (show ml_fl i + 10 ≠ ml_fl i + 9 by omega), ml_w_ne (show ml_fl i + 10 ≠ ml_fl i + 8 by omega), ml_w_ne (show ml_fl i + 10 ≠ ml_fl i + 7 by omega), ml_w_ne (show ml_fl i + 10 ≠ ml_fl i + 6 by omega)]
      exact hC.2 b x hx
    · rw [hb, ← hLc, w_at, w_at, w_at, w_at, w_at, hx]
      exact ⟨rfl, rfl, rfl, rfl, rfl⟩
  · unfold addM
    rw [ml_w_ne (by decide), w_un (by omega), w_un (by omega), w_un (by omega), w_un (by omega), w_un (by omega), w_at, hLc]
    simp
  · have rd : ∀ f, f < 5 → addM Mm Lc k d w s 12 (40 + 5 * b + f) = if b = Lc then (if f = 0 then nI k else if f = 1 then nI d else if f = 2 then nI w else if f = 3 then nI s else 0) else Mm 12 (40 + 5 * b + f) := by
      intro f hf
      unfold addM
      rw [ml_w_ne (by decide)]
      by_cases hb : b = Lc
      · subst hb
        rw [if_pos rfl]
        rcases (show f = 0 ∨ f = 1 ∨ f = 2 ∨ f = 3 ∨ f = 4 by omega) with rfl | rfl | rfl | rfl | rfl
        · rw [w_un (by omega), w_un (by omega), w_un (by omega), w_un (by omega), w_at]; rfl
        · rw [w_un (by omega), w_un (by omega), w_un (by omega), w_at]; rfl
        · rw [w_un (by omega), w_un (by omega), w_at]; rfl
        · rw [w_un (by omega), w_at]; rfl
        · rw [w_at]; rfl
      · rw [if_neg hb, w_un (by omega), w_un (by omega), w_un (by omega), w_un (by omega), w_un (by omega), w_un (by omega)]
    have r0 := rd 0 (by decide)
    have r1 := rd 1 (by decide)
    have r2 := rd 2 (by decide)
    have r3 := rd 3 (by decide)
    have r4 := rd 4 (by decide)
    rw [show 40 + 5 * b + 0 = 40 + 5 * b from rfl] at r0
    rw [show 40 + 5 * b + 1 = 41 + 5 * b by omega] at r1
    rw [show 40 + 5 * b + 2 = 42 + 5 * b by omega] at r2
    rw [show 40 + 5 * b + 3 = 43 + 5 * b by omega] at r3
    rw [show 40 + 5 * b + 4 = 44 + 5 * b by omega] at r4
    rw [r0, r1, r2, r3, r4]
    rcases app_at hx with ⟨hb, hx⟩ | ⟨hb, hx⟩
    · rw [if_neg (by omega), if_neg (by omega), if_neg (by omega), if_neg (by omega), if_neg (by omega)]
      exact hM.2 b x hx
    · rw [← hLc] at hb
      rw [if_pos hb, if_pos hb, if_pos hb, if_pos hb, if_pos hb, hx]
      exact ⟨rfl, rfl, rfl, rfl, rfl⟩
  · rcases List.mem_append.mp hx with hx | hx
    · exact hok x hx
    · rcases List.mem_singleton.mp hx with rfl
      refine ⟨⟨hk, hd1, hd9, hw, by rcases hs4 with h | h <;> (show s ≤ 4; omega)⟩, ?_⟩
      unfold fa
      show (s == if w = 0 then 0 else 4) = false
      rcases (show w = 0 ∨ w = 1 by omega) with rfl | rfl
      · rw [hs]; rfl
      · rw [hs]; rfl
  · simp
    omega
  · unfold putC
    rw [w_un (by decide), w_at]
  · unfold tg
    rw [List.map_append]
    unfold List.Nodup
    rw [List.pairwise_append]
    refine ⟨hnd, List.pairwise_singleton _ _, fun x hx y hy => ?_⟩
    rcases List.mem_singleton.mp hy with rfl
    exact Nat.ne_of_lt (hlt x hx)
  · unfold tg at ht
    rw [List.map_append] at ht
    rcases List.mem_append.mp ht with ht | ht
    · have := hlt t ht
      omega
    · have e : t = a := List.mem_singleton.mp ht
      omega
theorem fo_b {i : Nat} {a b : Int32} {M : ml_M} : fX2_faultOf i 98 a b M = ml_bd (fX2_faultOfBoat i a b M) (fun r2 M3 => some (.inl r2, M3)) := rfl
theorem ac_b {i : Nat} {a b c : Int32} {M : ml_M} : fX2_act i 98 a b c M = ml_bd (fX6_colourNumber a M) (fun r2 M3 => ml_jn (fun (y4 : Int32) => ml_bd (fX1_put i r2 b y4 M3) (fun r7 M8 => some (.inl r7, M8))) (fun B5 => (if c = 1 then B5 1 else B5 0))) := rfl
theorem op_b {n i w : Nat} {Mc Mm : ml_M} (a b : Int32) (hw : w ≤ 1) (h : fk n Mc i Mm) : opR (fun c => c = 0 ∨ c = 2 ∨ c = 3) (n + 1) i Mc Mm (fX2_faultOf i 98 a b Mc) (fX2_act i 98 a b (nI w) Mc) (fX7_adds (cn a) b (nI w) Mm) := by
  obtain ⟨L, ad, hQ, ha, han, hnd, hlt⟩ := id h
  obtain ⟨-, -, -, hC, hM, -, hL, -⟩ := id hQ
  have bad : ∀ {f : Option ml_R} {g : Option ml_R} {c}, f = some (.inl 2, Mc) → g = some (.inl 2, Mm) → opR (fun c => c = 0 ∨ c = 2 ∨ c = 3) (n + 1) i Mc Mm f c g := fun hf hg => ⟨2, Mm, Or.inr (Or.inl rfl), by decide, hf, hg, Or.inl ⟨by decide, rfl⟩⟩
  rw [fo_b, ac_b]
  unfold fX2_faultOfBoat
  rw [cno_c, bd_l, bd_l]
  rcases cn_case a with ⟨k, hk, hkc⟩ | hkc
  · rw [hkc, if_neg (show ¬ nI k = -1 from fun z => by rcases (show k = 0 ∨ k = 1 ∨ k = 2 by omega) with rfl | rfl | rfl <;> exact absurd z (by decide))]
    by_cases h1 : b < 1
    · refine bad ?_ ?_
      · rw [if_pos h1]; rfl
      · unfold fX7_adds
        rw [if_neg (nI_pos (by omega)), in_m, bd_l, if_pos h1, if_pos rfl]
    obtain ⟨d, hd, rfl⟩ := nI_of (nlt_of h1)
    have hd1 : 1 ≤ d := by
      rcases Nat.eq_zero_or_pos d with h0 | h0
      · exact absurd ((nI_ltI (b := 1) hd (by decide)).mpr (by omega)) h1
      · exact h0
    rw [if_neg h1]
    by_cases h9 : d ≤ 9
    · rw [if_pos (show nI d ≤ (9 : Int32) from (nI_leI (b := 9) hd (by decide)).mpr h9)]
      unfold ml_jn
      dsimp only
      rw [hC.1]
      by_cases h8 : L.length < 8
      · rw [if_pos (show nI L.length < (8 : Int32) from (nI_ltI (b := 8) (by omega) (by decide)).mpr h8), adds_m h8 hw hk hd1 h9 hM.1]
        have e : (if nI w = 1 then ml_bd (fX1_put i (nI k) (nI d) 1 Mc) (fun r7 M8 => some ((Sum.inl r7, M8) : ml_R)) else ml_bd (fX1_put i (nI k) (nI d) 0 Mc) (fun r7 M8 => some (.inl r7, M8))) = some (.inl (nI L.length), putC i Mc L.length k d w (if w = 0 then 4 else 0) ad) := by
          have p := put_c (k := k) (d := d) h8 hw hC.1 ha
          rcases (show w = 0 ∨ w = 1 by omega) with rfl | rfl
          · rw [if_neg (show ¬ nI 0 = 1 by decide)]
            have p' : fX1_put i (nI k) (nI d) 0 Mc = _ := p
            rw [p', bd_l]
          · rw [if_pos (show nI 1 = 1 from rfl)]
            have p' : fX1_put i (nI k) (nI d) 1 Mc = _ := p
            rw [p', bd_l]
        rw [e]
        refine ⟨0, _, Or.inl rfl, by decide, rfl, rfl, Or.inr ⟨rfl, ?_, _, ?_, fk_put hQ ha han hnd hlt h8 hk hd1 h9 hw, fun q hq => ?_⟩⟩
        · unfold addM
          exact ((((((oM.rf.w (by decide)).w (by omega)).w (by omega)).w (by omega)).w (by omega)).w (by omega)).w4
        · unfold addM
          rw [w_at]
        · unfold putC
          rw [ml_w_ne (by omega), ml_w_ne (by omega), ml_w_ne (by omega), ml_w_ne (by omega), ml_w_ne (by omega), ml_w_ne (by omega), ml_w_ne (by omega)]
      · have p8 : L.length = 8 := by omega
        rw [if_neg (show ¬ nI L.length < (8 : Int32) from fun z => h8 ((nI_ltI (b := 8) (by omega) (by decide)).mp z))]
        refine ⟨3, Mm, Or.inr (Or.inr rfl), by decide, rfl, ?_, Or.inl ⟨by decide, rfl⟩⟩
        unfold fX7_adds
        rw [if_neg (nI_pos (by omega)), in_m, bd_l, if_neg h1, if_neg (show ¬ (9 : Int32) < nI d from fun z => by have := (nI_ltI (a := 9) (by decide) hd).mp z; omega), if_neg (by decide), hM.1, if_pos (by rw [p8]; rfl)]
        rfl
    · refine bad ?_ ?_
      · rw [if_neg (show ¬ nI d ≤ (9 : Int32) from fun z => h9 ((nI_leI (b := 9) hd (by decide)).mp z))]; rfl
      · unfold fX7_adds
        rw [if_neg (nI_pos (by omega)), in_m, bd_l, if_neg h1, if_pos (show (9 : Int32) < nI d from (nI_ltI (a := 9) (by decide) hd).mpr (by omega)), if_pos rfl]
  · refine bad ?_ ?_
    · rw [hkc, if_pos rfl]; rfl
    · rw [hkc]
      unfold fX7_adds
      rw [if_pos (by decide)]
