/-! One boat's turn on both sides. -/
def nf (L : List fb) : List fb := L.filter (fun x => !(fa x))
def rG (Mc : ml_M) (i : Nat) (Mm : ml_M) : Prop := ∀ j, j < 3 → Mm 12 (8 + j) = Mc (ml_fl i + 11) j
/-- the state of both sides while the boats pass -/
def rP (Mc : ml_M) (i : Nat) (Mm : ml_M) (mk : Nat → Int32) (v o g : Nat → Nat) (r d : Nat) (L : List fb) (p : Nat) : Prop := rW Mc i Mm v o g r d ∧ rE Mc i Mm ∧ rG Mc i Mm ∧ bC Mc i L ∧ bM Mm mk (nf L) ∧ (∀ x ∈ L, fb_ok x) ∧ L.length ≤ 8 ∧ p < 16 ∧ Mm 11 5 = nI p
theorem nf_app (A B : List fb) : nf (A ++ B) = nf A ++ nf B := List.filter_append ..
theorem nf_pos {x : fb} {B : List fb} (h : fa x = false) : nf (x :: B) = x :: nf B := List.filter_cons_of_pos (by simp [h])
theorem nf_neg {x : fb} {B : List fb} (h : fa x = true) : nf (x :: B) = nf B := List.filter_cons_of_neg (by simp [h])
theorem nf_len (L : List fb) : (nf L).length ≤ L.length := List.length_filter_le _ _
theorem cnt_nf {L : List fb} {j : Nat} (hok : ∀ x ∈ L, fb_ok x) (h0 : j ≠ 0) (h4 : j ≠ 4) : cnt (nf L) j = cnt L j := by
  unfold cnt nf
  rw [List.countP_filter]
  apply List.countP_congr
  intro x hx
  have hw := (hok x hx).2.2.2.1
  unfold fa
  constructor
  · intro h
    simp at h ⊢
    exact h.1
  · intro h
    simp at h ⊢
    refine ⟨h, ?_⟩
    split <;> omega
def cgC (i : Nat) (M : ml_M) (b : Nat) (x : fb) : ml_M := ml_w M (ml_fl i + 9) b (nI (bh x))
theorem nf_ok {L : List fb} (h : ∀ x ∈ L, fb_ok x) : ∀ x ∈ nf L, fb_ok x := fun x hx => h x (List.mem_filter.mp hx).1
/-- the class's pass of a boat that has not arrived, its note yet to come -/
theorem pass_c {i b : Nat} {M : ml_M} {L : List fb} {x : fb} (h : bC M i L) (hL : L.length ≤ 8) (hok : ∀ x ∈ L, fb_ok x) (hb : L[b]? = some x) (hx : fa x = false) : fX2_pass i (nI b) M = (if fa (mv x) then ml_bd (fX0_note i (nI 108) (nI x.2.1) (ml_w (cgC i M b x) (ml_fl i + 11) x.1 (M (ml_fl i + 11) x.1 + 1))) (fun _ M12 => some (.inl 0, M12)) else ml_bd (fX0_note i (nI 112) (nI (gh x)) (cgC i M b x)) (fun _ M12 => some (.inl 0, M12))) := by
  have hbl := (List.getElem?_eq_some_iff.mp hb).1
  have hxo := hok x (List.mem_of_getElem? hb)
  obtain ⟨f1, f2, f3, f4, f5⟩ := h.2 b x hb
  have ok : ml_ok (nI b) 8 := ok_nI (by omega) (by decide)
  have h2 := h.set hb
  have hb2 : (L.set b (mv x))[b]? = some (mv x) := List.getElem?_set_self hbl
  obtain ⟨e1, e2, e3, e4, e5⟩ := h2.2 b (mv x) hb2
  have hm := mv_ok hxo hx
  unfold fX2_pass
  rw [ga_c (by omega) hxo.2.2.2.1 f3 f4, bd_l, ba_c (by omega) hxo.2.2.2.1 f3 f4, bd_l, ga_n hxo hx, ba_n hxo hx, if_pos ok]
  have hcl : (nI b).toNatClampNeg = b := nI_clamp (by omega)
  simp only [hcl]
  unfold ml_lt
  dsimp only
  rw [ha_c (x := mv x) (by omega) hm.2.2.2.1 e3 e4 hm.2.2.2.2, bd_l]
  unfold ml_jn
  dsimp only
  by_cases hf : fa (mv x) = true
  · rw [hf, if_pos rfl, if_pos rfl, if_neg (show ¬ (1 : Int32) = 0 by decide)]
    have c6 : (ml_w M (ml_fl i + 9) b (nI (bh x))) (ml_fl i + 6) b = nI x.1 := e1
    rw [if_pos ok, c6, if_pos (ok_nI hxo.1 (by decide)), if_pos (ok_nI hxo.1 (by decide))]
    try dsimp only
    rw [if_pos ok, nI_clamp (by have := hxo.1; omega), ml_w_ne (show ml_fl i + 7 ≠ ml_fl i + 11 by omega), e2, ml_w_ne (show ml_fl i + 11 ≠ ml_fl i + 9 by omega)]
    rfl
  · have hf2 : fa (mv x) = false := by simpa using hf
    rw [hf2]
    have z0 : ((if false = true then 1 else 0 : Int32) = 0) := rfl
    rw [if_pos z0, if_neg (by decide)]
    rfl
/-- the reference's turn of a boat -/
theorem passes_m {k p : Nat} {Mm : ml_M} {mk : Nat → Int32} {v g : Nat → Nat} {A B : List fb} {x : fb} (h : bM Mm mk (A ++ x :: B)) (hL : (A ++ x :: B).length ≤ 8) (hok : ∀ y ∈ A ++ x :: B, fb_ok y) (hx : fa x = false) (hk : k = A.length) (hp : p < 16) (h5 : Mm 11 5 = nI p) (hv : ∀ j, j < 5 → Mm 12 (11 + j) = nI (v j) ∧ v j ≤ 400) (hg : ∀ j, j < 4 → Mm 12 (20 + j) = nI (g j) ∧ g j ≤ 1) : fX7_passes (nI k) Mm = (if mp (A ++ x :: B) v g p x then (fun M23 => if fa (mv x) then ml_bd (fX7_happens (nI 108) (nI x.2.1) (ml_w M23 12 (8 + x.1) (M23 12 (8 + x.1) + 1))) (fun _ M30 => ml_bd (fX7_leaves (nI k) M30) (fun _ M32 => some (.inl 1, M32))) else ml_bd (fX7_happens (nI 112) (nI (gh x)) (ml_w M23 12 (43 + 5 * k) (nI (bh x)))) (fun _ M36 => some (.inl 0, M36))) (ml_w Mm 11 5 (nI (p ||| (1 <<< gh x)))) else some (.inl 0, Mm)) := by
  subst hk
  have hxm : x ∈ A ++ x :: B := by simp
  have hxo := hok x hxm
  have hkl : A.length < 8 := by
    have : (A ++ x :: B).length = A.length + (B.length + 1) := by simp
    omega
  obtain ⟨f1, f2, f3, f4, f5⟩ := h.2 A.length x (by simp)
  obtain ⟨g4, b4, a3, a4⟩ := fa_no hxo hx
  have R3 : ∀ N : ml_M, N 12 (43 + 5 * A.length) = nI x.2.2.2.1 → fX7_b (nI A.length) 3 N = some (.inl (nI x.2.2.2.1), N) := fun N hN => by rw [show (3 : Int32) = nI 3 from rfl, b_m hkl (by decide), show 40 + 5 * A.length + 3 = 43 + 5 * A.length by omega, hN]
  have R2 : ∀ N : ml_M, N 12 (42 + 5 * A.length) = nI x.2.2.1 → fX7_b (nI A.length) 2 N = some (.inl (nI x.2.2.1), N) := fun N hN => by rw [show (2 : Int32) = nI 2 from rfl, b_m hkl (by decide), show 40 + 5 * A.length + 2 = 42 + 5 * A.length by omega, hN]
  have R1 : ∀ N : ml_M, N 12 (41 + 5 * A.length) = nI x.2.1 → fX7_b (nI A.length) 1 N = some (.inl (nI x.2.1), N) := fun N hN => by rw [show (1 : Int32) = nI 1 from rfl, b_m hkl (by decide), show 40 + 5 * A.length + 1 = 41 + 5 * A.length by omega, hN]
  have R0 : ∀ N : ml_M, N 12 (40 + 5 * A.length) = nI x.1 → fX7_b (nI A.length) 0 N = some (.inl (nI x.1), N) := fun N hN => by rw [show (0 : Int32) = nI 0 from rfl, b_m hkl (by decide), show 40 + 5 * A.length + 0 = 40 + 5 * A.length by omega, hN]
  have S3 : ∀ (N : ml_M) (y : Int32), fX7_set (nI A.length) 3 y N = some (.inl 0, ml_w N 12 (43 + 5 * A.length) y) := fun N y => by rw [show (3 : Int32) = nI 3 from rfl, set_m hkl (by decide), show 40 + 5 * A.length + 3 = 43 + 5 * A.length by omega]
  have w01 : x.2.2.1 = 0 ∨ x.2.2.1 = 1 := by have := hxo.2.2.2.1; omega
  have ebh : ∀ {β : Type} (Y N : β), (if nI x.2.2.1 = 1 then Y else N) = if x.2.2.1 = 1 then Y else N := fun Y N => by
    rcases w01 with hw | hw <;> rw [hw]
    · rw [if_neg (by decide), if_neg (by decide)]
    · rw [if_pos (show nI 1 = 1 from rfl), if_pos rfl]
  have tb1 : x.2.2.1 = 1 → nI x.2.2.2.1 + 1 = nI (bh x) := fun hw => by unfold bh; rw [hw, if_neg (by decide), nI_1]
  have tb0 : x.2.2.1 = 0 → nI x.2.2.2.1 - 1 = nI (bh x) := fun hw => by unfold bh; rw [hw, if_pos rfl]; exact pk_sub (b := 1) (a3 hw)
  have tg1 : x.2.2.1 = 1 → nI x.2.2.2.1 = nI (gh x) := fun hw => by unfold gh; rw [hw, if_neg (by decide)]
  have tg0 : x.2.2.1 = 0 → nI (bh x) = nI (gh x) := fun hw => by unfold gh bh; rw [hw, if_pos rfl, if_pos rfl]
  have e20 : (20 : Int32) + nI (gh x) = nI (20 + gh x) := nIl 20 (gh x)
  have e8 : (8 : Int32) + nI x.1 = nI (8 + x.1) := nIl 8 x.1
  -- the body behind the basin and the gate
  have body : ∀ (y13 : Int32), y13 = (if fa (mv x) then 1 else 0) → (if ml_ok (20 + nI (gh x)) 960 then (if (Mm 12 (20 + nI (gh x)).toNatClampNeg) = 0 then some ((Sum.inl 0, Mm) : ml_R) else (if (((Mm 11 5) >>> (nI (gh x) &&& 31)) &&& 1) = 1 then some (.inl 0, Mm) else ml_jn (fun (M16 : ml_M) => ml_bd (fX7_b (nI A.length) 1 M16) (fun r19 M20 => ml_bd (fX7_isDeep (nI (bh x)) r19 M20) (fun r21 M22 => (if r21 = 0 then some (.inl 0, M22) else ml_lt (ml_w M22 11 5 ((M22 11 5) ||| (1 <<< (nI (gh x) &&& 31)))) (fun M23 => (if y13 = 0 then ml_bd (fX7_set (nI A.length) 3 (nI (bh x)) M23) (fun r33 M34 => ml_bd (fX7_happens 112 (nI (gh x)) M34) (fun r35 M36 => some (.inl 0, M36))) else ml_bd (fX7_b (nI A.length) 0 M23) (fun r24 M25 => if ml_ok (8 + r24) 960 then if ml_ok (8 + r24) 960 then ml_lt (ml_w M25 12 (8 + r24).toNatClampNeg ((M25 12 (8 + r24).toNatClampNeg) + 1)) (fun M26 => ml_bd (fX7_b (nI A.length) 1 M26) (fun r27 M28 => ml_bd (fX7_happens 108 r27 M28) (fun r29 M30 => ml_bd (fX7_leaves (nI A.length) M30) (fun r31 M32 => some (.inl 1, M32))))) else none else none))))))) (fun B17 => (if y13 = 0 then ml_bd (fX7_inBasin (nI (bh x)) Mm) (fun r37 M38 => (if 1 < r37 then some (.inl 0, M38) else B17 M38)) else B17 Mm)))) else none) = (if mp (A ++ x :: B) v g p x then (fun M23 => if fa (mv x) then ml_bd (fX7_happens (nI 108) (nI x.2.1) (ml_w M23 12 (8 + x.1) (M23 12 (8 + x.1) + 1))) (fun _ M30 => ml_bd (fX7_leaves (nI A.length) M30) (fun _ M32 => some (.inl 1, M32))) else ml_bd (fX7_happens (nI 112) (nI (gh x)) (ml_w M23 12 (43 + 5 * A.length) (nI (bh x)))) (fun _ M36 => some (.inl 0, M36))) (ml_w Mm 11 5 (nI (p ||| (1 <<< gh x)))) else some (.inl 0, Mm)) := by
    intro y13 hy
    have hg1 := hg _ g4
    have hcl := cnt_le (A ++ x :: B) (bh x)
    have hmf := mv_fa hxo hx
    unfold mp
    rw [e20, if_pos (ok_nI (by omega) (by decide)), nI_clamp (by omega), hg1.1, h5]
    by_cases c1 : g (gh x) = 0
    · rw [c1, if_pos (show nI 0 = 0 from rfl)]
      simp
    rw [if_neg (nI_ne0 (by omega) (by omega))]
    by_cases c2 : pb p (gh x) = true
    · rw [if_pos ((pb_m p hp _ g4).mpr c2)]
      simp [c2]
    rw [if_neg (fun z => c2 ((pb_m p hp _ g4).mp z))]
    have c2' : pb p (gh x) = false := by simpa using c2
    unfold ml_jn
    dsimp only
    -- the rest, where there is room
    have rest : ml_bd (fX7_b (nI A.length) 1 Mm) (fun r19 M20 => ml_bd (fX7_isDeep (nI (bh x)) r19 M20) (fun r21 M22 => (if r21 = 0 then some ((Sum.inl 0, M22) : ml_R) else ml_lt (ml_w M22 11 5 ((M22 11 5) ||| (1 <<< (nI (gh x) &&& 31)))) (fun M23 => (if y13 = 0 then ml_bd (fX7_set (nI A.length) 3 (nI (bh x)) M23) (fun r33 M34 => ml_bd (fX7_happens 112 (nI (gh x)) M34) (fun r35 M36 => some (.inl 0, M36))) else ml_bd (fX7_b (nI A.length) 0 M23) (fun r24 M25 => if ml_ok (8 + r24) 960 then if ml_ok (8 + r24) 960 then ml_lt (ml_w M25 12 (8 + r24).toNatClampNeg ((M25 12 (8 + r24).toNatClampNeg) + 1)) (fun M26 => ml_bd (fX7_b (nI A.length) 1 M26) (fun r27 M28 => ml_bd (fX7_happens 108 r27 M28) (fun r29 M30 => ml_bd (fX7_leaves (nI A.length) M30) (fun r31 M32 => some (.inl 1, M32))))) else none else none)))))) = if v (bh x) < x.2.1 * ar (bh x) then some ((Sum.inl 0, Mm) : ml_R) else (fun M23 => if fa (mv x) then ml_bd (fX7_happens (nI 108) (nI x.2.1) (ml_w M23 12 (8 + x.1) (M23 12 (8 + x.1) + 1))) (fun _ M30 => ml_bd (fX7_leaves (nI A.length) M30) (fun _ M32 => some (.inl 1, M32))) else ml_bd (fX7_happens (nI 112) (nI (gh x)) (ml_w M23 12 (43 + 5 * A.length) (nI (bh x)))) (fun _ M36 => some (.inl 0, M36))) (ml_w Mm 11 5 (nI (p ||| (1 <<< gh x)))) := by
      rw [R1 Mm f2, bd_l, id_m (by omega) (hv _ (by omega)).1 (hv _ (by omega)).2 hxo.2.2.1, bd_l]
      by_cases c4 : v (bh x) < x.2.1 * ar (bh x)
      · rw [if_pos c4, if_pos c4, if_pos rfl]
      rw [if_neg c4, if_neg c4, if_neg (show ¬ (1 : Int32) = 0 by decide), h5, (pb_o p hp _ g4).1]
      unfold ml_lt
      dsimp only
      by_cases hf : fa (mv x) = true
      · rw [hy, hf, if_pos rfl, if_neg (show ¬ (1 : Int32) = 0 by decide), if_pos rfl, R0 _ (by rw [ml_w_ne (by decide)]; exact f1), bd_l, e8, if_pos (ok_nI (by have := hxo.1; omega) (by decide)), if_pos (ok_nI (by have := hxo.1; omega) (by decide)), nI_clamp (by have := hxo.1; omega), R1 _ (by rw [w_un (by have := hxo.1; omega), ml_w_ne (by decide)]; exact f2), bd_l]
        rfl
      · have hf2 : fa (mv x) = false := by simpa using hf
        have hy0 : y13 = 0 := by rw [hy, hf2]; rfl
        rw [hy0, if_pos (show (0 : Int32) = 0 from rfl), hf2, if_neg (by decide), S3, bd_l]
        rfl
    rw [rest, c2']
    by_cases he : fa (mv x) = true
    · have hend : (bh x == 0 || bh x == 4) = true := hmf ▸ he
      have hhr : hr (A ++ x :: B) (bh x) = true := by unfold hr; rw [hend]; rfl
      rw [hy, he, if_pos rfl, if_neg (show ¬ (1 : Int32) = 0 by decide), hhr]
      by_cases c4 : v (bh x) < x.2.1 * ar (bh x)
      · rw [if_pos c4]; simp [c4]
      · rw [if_neg c4]; simp [c4, c1]
    · have he2 : fa (mv x) = false := by simpa using he
      have hend : (bh x == 0 || bh x == 4) = false := hmf ▸ he2
      have hy0 : y13 = 0 := by rw [hy, he2]; rfl
      rw [if_pos hy0, ib_m (by omega) h hL hok, bd_l, rest, he2]
      have hhr : hr (A ++ x :: B) (bh x) = decide (cnt (A ++ x :: B) (bh x) < 2) := by unfold hr; rw [hend]; rfl
      rw [hhr]
      by_cases c3 : cnt (A ++ x :: B) (bh x) < 2
      · rw [if_neg (show ¬ (1 : Int32) < nI (cnt (A ++ x :: B) (bh x)) from fun z => by have := (nI_ltI (a := 1) (by decide) (by omega)).mp z; omega)]
        by_cases c4 : v (bh x) < x.2.1 * ar (bh x)
        · rw [if_pos c4]; simp [c4]
        · rw [if_neg c4]; simp [c3, c4, c1]
      · rw [if_pos (show (1 : Int32) < nI (cnt (A ++ x :: B) (bh x)) from (nI_ltI (a := 1) (by decide) (by omega)).mpr (by omega))]
        simp [c3]
  have end13 : ∀ {α : Type} (T F : α), (if nI (bh x) = 0 then T else if nI (bh x) = 4 then T else F) = if fa (mv x) then T else F := fun T F => by
    rw [mv_fa hxo hx]
    by_cases h0 : bh x = 0
    · rw [h0]; rfl
    rw [if_neg (nI_ne0 (by omega) (by omega))]
    by_cases h4 : bh x = 4
    · rw [h4]; rfl
    rw [if_neg (show ¬ nI (bh x) = 4 from fun z => h4 ((nI_eq (a := bh x) (b := 4) (by omega) (by decide)).mp z))]
    simp [h0, h4]
  unfold fX7_passes
  rw [R3 Mm f4, bd_l, R2 Mm f3, bd_l]
  have goal : ∀ y5, y5 = nI (bh x) → ml_bd (fX7_b (nI A.length) 2 Mm) (fun r8 M9 => ml_jn (fun (y10 : Int32) => ml_jn (fun (y13 : Int32) => if ml_ok (20 + y10) 960 then (if (M9 12 (20 + y10).toNatClampNeg) = 0 then some ((Sum.inl 0, M9) : ml_R) else (if (((M9 11 5) >>> (y10 &&& 31)) &&& 1) = 1 then some (.inl 0, M9) else ml_jn (fun (M16 : ml_M) => ml_bd (fX7_b (nI A.length) 1 M16) (fun r19 M20 => ml_bd (fX7_isDeep y5 r19 M20) (fun r21 M22 => (if r21 = 0 then some (.inl 0, M22) else ml_lt (ml_w M22 11 5 ((M22 11 5) ||| (1 <<< (y10 &&& 31)))) (fun M23 => (if y13 = 0 then ml_bd (fX7_set (nI A.length) 3 y5 M23) (fun r33 M34 => ml_bd (fX7_happens 112 y10 M34) (fun r35 M36 => some (.inl 0, M36))) else ml_bd (fX7_b (nI A.length) 0 M23) (fun r24 M25 => if ml_ok (8 + r24) 960 then if ml_ok (8 + r24) 960 then ml_lt (ml_w M25 12 (8 + r24).toNatClampNeg ((M25 12 (8 + r24).toNatClampNeg) + 1)) (fun M26 => ml_bd (fX7_b (nI A.length) 1 M26) (fun r27 M28 => ml_bd (fX7_happens 108 r27 M28) (fun r29 M30 => ml_bd (fX7_leaves (nI A.length) M30) (fun r31 M32 => some (.inl 1, M32))))) else none else none))))))) (fun B17 => (if y13 = 0 then ml_bd (fX7_inBasin y5 M9) (fun r37 M38 => (if 1 < r37 then some (.inl 0, M38) else B17 M38)) else B17 M9)))) else none) (fun B14 => (if y5 = 0 then B14 1 else (if y5 = 4 then B14 1 else B14 0)))) (fun B11 => (if r8 = 1 then B11 (nI x.2.2.2.1) else B11 y5))) = (if mp (A ++ x :: B) v g p x then (fun M23 => if fa (mv x) then ml_bd (fX7_happens (nI 108) (nI x.2.1) (ml_w M23 12 (8 + x.1) (M23 12 (8 + x.1) + 1))) (fun _ M30 => ml_bd (fX7_leaves (nI A.length) M30) (fun _ M32 => some (.inl 1, M32))) else ml_bd (fX7_happens (nI 112) (nI (gh x)) (ml_w M23 12 (43 + 5 * A.length) (nI (bh x)))) (fun _ M36 => some (.inl 0, M36))) (ml_w Mm 11 5 (nI (p ||| (1 <<< gh x)))) else some (.inl 0, Mm)) := by
    intro y5 hy5
    subst hy5
    rw [R2 Mm f3, bd_l]
    have gt : ∀ y10, y10 = nI (gh x) → _ := fun y10 hy10 => hy10
    unfold ml_jn at body ⊢
    dsimp only at body ⊢
    rw [ebh]
    rcases w01 with hw | hw
    · rw [if_neg (by omega), end13]
      have hb := body (if fa (mv x) then 1 else 0) rfl
      rw [← tg0 hw] at hb ⊢
      by_cases he : fa (mv x) = true
      · rw [if_pos he] at hb ⊢; exact hb
      · rw [if_neg he] at hb ⊢; exact hb
    · rw [if_pos hw, tg1 hw, end13]
      have hb := body (if fa (mv x) then 1 else 0) rfl
      by_cases he : fa (mv x) = true
      · rw [if_pos he] at hb ⊢; exact hb
      · rw [if_neg he] at hb ⊢; exact hb
  show (if nI x.2.2.1 = 1 then _ else _) = _
  rw [ebh]
  rcases w01 with hw | hw
  · rw [if_neg (by omega)]
    exact goal _ (tb0 hw)
  · rw [if_pos hw]
    exact goal _ (tb1 hw)
