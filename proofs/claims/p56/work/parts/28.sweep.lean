/-! The sweep over the boats, both sides; the arrived ones go. -/
def tg (L : List fb) : List Nat := L.map (fun x => x.2.2.2.2)
theorem snoc {A B : List fb} {x : fb} : A ++ x :: B = (A ++ [x]) ++ B := by simp
theorem sweep1 {i cl : Nat} {mk : Nat → Int32} {v o g : Nat → Nat} {r d : Nat} (hcl : cl < 3) : ∀ (B A : List fb) (p gn n1 n2 : Nat) (Mc Mm : ml_M), rT Mc i Mm mk v o g r d (A ++ B) p → B.length < n1 → B.length < n2 → ∃ (Mc' Mm' : ml_M) (L' : List fb) (p' gn' : Nat), fX2_passGates_l i n1 1 (nI p) (nI cl) (nI A.length) Mc = fX2_passGates_l i (n1 - B.length - 1) 0 (nI p') (nI (cl + 1)) 0 Mc' ∧ fX7_ticks_l n2 2 (nI gn) (nI cl) (nI (nf A).length) Mm = fX7_ticks_l (n2 - (nf B).length - 1) 1 (nI gn') (nI (cl + 1)) 0 Mm' ∧ rT Mc' i Mm' mk v o g r d L' p' ∧ gn' + (nf L').length = gn + (nf (A ++ B)).length ∧ tg L' = tg (A ++ B) ∧ fC i Mc Mc' ∧ fM Mm Mm' := by
  intro B
  induction B with
  | nil =>
    intro A p gn n1 n2 Mc Mm h h1 h2
    obtain ⟨n1, rfl⟩ : ∃ z, n1 = z + 1 := ⟨n1 - 1, by simp at h1; omega⟩
    obtain ⟨n2, rfl⟩ : ∃ z, n2 = z + 1 := ⟨n2 - 1, by simp at h2; omega⟩
    rw [List.append_nil] at h ⊢
    obtain ⟨⟨hW, hE, hG, hC, hM, hok, hL, hp, h5⟩, hR⟩ := id h
    refine ⟨Mc, Mm, A, p, gn, ?_, ?_, h, rfl, rfl, fC.rf, fM.rf⟩
    · show fX2_passGates_s1 i (fX2_passGates_l i n1) (nI p) (nI cl) (nI A.length) Mc = _
      unfold fX2_passGates_s1
      rw [if_pos (by rw [hC.1]; exact Int32.le_refl _), nI_1]
      rfl
    · show fX7_ticks_s2 (fX7_ticks_l n2) (nI gn) (nI cl) (nI (nf A).length) Mm = _
      unfold fX7_ticks_s2
      rw [if_pos (by rw [hM.1]; exact Int32.le_refl _), nI_1]
      rfl
  | cons x B ih =>
    intro A p gn n1 n2 Mc Mm h h1 h2
    obtain ⟨n1, rfl⟩ : ∃ z, n1 = z + 1 := ⟨n1 - 1, by simp at h1; omega⟩
    obtain ⟨n2, rfl⟩ : ∃ z, n2 = z + 1 := ⟨n2 - 1, by simp at h2; omega⟩
    have h1' : B.length < n1 := by simp at h1; omega
    have h2' : B.length < n2 := by simp at h2; omega
    obtain ⟨⟨hW, hE, hG, hC, hM, hok, hL, hp, h5⟩, hR⟩ := id h
    have hlen : (A ++ x :: B).length = A.length + (B.length + 1) := by simp
    have hb : (A ++ x :: B)[A.length]? = some x := by simp
    have hxo := hok x (by simp)
    obtain ⟨f1, f2, f3, f4, f5⟩ := hC.2 A.length x hb
    -- the class's head
    have hc0 : fX2_passGates_l i (n1 + 1) 1 (nI p) (nI cl) (nI A.length) Mc = if x.1 = cl then ml_bd (fX2_mayPass i (nI A.length) (nI p) Mc) (fun r5 M6 => (if r5 = 0 then fX2_passGates_l i n1 1 (nI p) (nI cl) (nI (A.length + 1)) M6 else ml_bd (fX1_gateAhead i (nI A.length) M6) (fun r7 M8 => ml_lt (nI p ||| (1 <<< (r7 &&& 31))) (fun v9 => ml_bd (fX2_pass i (nI A.length) M8) (fun r10 M11 => fX2_passGates_l i n1 1 v9 (nI cl) (nI (A.length + 1)) M11))))) else fX2_passGates_l i n1 1 (nI p) (nI cl) (nI (A.length + 1)) Mc := by
      show fX2_passGates_s1 i (fX2_passGates_l i n1) (nI p) (nI cl) (nI A.length) Mc = _
      unfold fX2_passGates_s1 ml_jn
      rw [if_neg (by rw [hC.1]; exact fun z => by have := (nI_leI (by omega) (by omega)).mp z; omega), if_pos (ok_nI (by omega) (by decide)), nI_clamp (by omega), f1, nI_1]
      dsimp only
      by_cases hc : x.1 = cl
      · rw [if_pos (congrArg nI hc), if_pos hc]
      · rw [if_neg (fun z => hc ((nI_eq (by have := hxo.1; omega) (by omega)).mp z)), if_neg hc]
    by_cases hx : fa x = true
    · -- it has arrived: the reference doesn't have it any more
      have e1 : fX2_passGates_l i (n1 + 1) 1 (nI p) (nI cl) (nI A.length) Mc = fX2_passGates_l i n1 1 (nI p) (nI cl) (nI (A ++ [x]).length) Mc := by
        rw [hc0, List.length_append]
        by_cases hc : x.1 = cl
        · rw [if_pos hc, mp_a hC hL hok hb hx, bd_l, if_pos rfl]
          rfl
        · rw [if_neg hc]
          rfl
      have enA : nf (A ++ [x]) = nf A := by rw [nf_app, nf_neg hx]; exact List.append_nil _
      rw [snoc] at h
      obtain ⟨Mc', Mm', L', p', gn', a1, a2, a3, a4, a5, a6, a7⟩ := ih (A ++ [x]) p gn n1 (n2 + 1) Mc Mm h h1' (by omega)
      refine ⟨Mc', Mm', L', p', gn', ?_, ?_, a3, ?_, ?_, a6, a7⟩
      · rw [e1, a1, show n1 + 1 - (x :: B).length - 1 = n1 - B.length - 1 by simp]
      · rw [enA] at a2
        rw [nf_neg hx]
        exact a2
      · rw [snoc]; exact a4
      · rw [snoc]; exact a5
    · have hx2 : fa x = false := by simpa using hx
      have hM2 : bM Mm mk (nf A ++ x :: nf B) := by rw [nf_app, nf_pos hx2] at hM; exact hM
      have hnl : (nf A ++ x :: nf B).length ≤ 8 := by
        have := nf_len (A ++ x :: B)
        rw [nf_app, nf_pos hx2] at this
        omega
      have hnA : (nf A).length < 8 := by
        have : (nf A ++ x :: nf B).length = (nf A).length + ((nf B).length + 1) := by simp
        omega
      obtain ⟨m1, m2, m3, m4, m5⟩ := hM2.2 (nf A).length x (by simp)
      -- the reference's head
      have hm0 : fX7_ticks_l (n2 + 1) 2 (nI gn) (nI cl) (nI (nf A).length) Mm = if x.1 = cl then ml_bd (fX7_passes (nI (nf A).length) Mm) (fun r8 M9 => if r8 = 0 then fX7_ticks_l n2 2 (nI gn) (nI cl) (nI ((nf A).length + 1)) M9 else fX7_ticks_l n2 2 (nI (gn + 1)) (nI cl) (nI (nf A).length) M9) else fX7_ticks_l n2 2 (nI gn) (nI cl) (nI ((nf A).length + 1)) Mm := by
        show fX7_ticks_s2 (fX7_ticks_l n2) (nI gn) (nI cl) (nI (nf A).length) Mm = _
        have hlt : ¬ nI ((nf A ++ x :: nf B).length) ≤ nI (nf A).length := fun z => by
          have := (nI_leI (by omega) (by omega)).mp z
          simp at this
          omega
        unfold fX7_ticks_s2 ml_jn
        rw [if_neg (by rw [hM2.1]; exact hlt), show (0 : Int32) = nI 0 from rfl, b_m hnA (by decide), bd_l, show 40 + 5 * (nf A).length + 0 = 40 + 5 * (nf A).length by omega, m1]
        have s1 : nI gn + nI 0 = nI gn := nI_add gn 0
        have s2 : nI (nf A).length - nI 0 + 1 = nI ((nf A).length + 1) := by rw [pk_sub (by omega)]; exact nI_1 _
        have s3 : nI (nf A).length - 1 + 1 = nI (nf A).length := Int32.sub_add_cancel _ _
        dsimp only
        by_cases hc : x.1 = cl
        · rw [if_pos (congrArg nI hc), if_pos hc]
          congr 1
          funext r8 M9
          by_cases h8 : r8 = nI 0
          · rw [if_pos h8, if_pos h8, if_pos h8, s1, s2]
          · rw [if_neg h8, if_neg h8, if_neg h8, s3, nI_1]
        · rw [if_neg (fun z => hc ((nI_eq (by have := hxo.1; omega) (by omega)).mp z)), if_neg hc, nI_1]
      by_cases hc : x.1 = cl
      · -- its turn
        obtain ⟨Mc1, Mm1, x', p1, t1, t2, t3, t4, t5, t6, t7⟩ := turn h hx2
        have k1 := t1 (fun y M => fX2_passGates_l i n1 1 y (nI cl) (nI (A.length + 1)) M)
        rw [if_pos hc, k1] at hc0
        rw [if_pos hc, t2, bd_l] at hm0
        have eA : (A ++ [x']).length = A.length + 1 := by simp
        rw [snoc] at t3
        by_cases hx' : fa x' = true
        · rw [hx', if_pos rfl, if_neg (show ¬ (1 : Int32) = 0 by decide)] at hm0
          obtain ⟨Mc', Mm', L', p', gn', a1, a2, a3, a4, a5, a6, a7⟩ := ih (A ++ [x']) p1 (gn + 1) n1 n2 Mc1 Mm1 t3 h1' h2'
          have enA : nf (A ++ [x']) = nf A := by rw [nf_app, nf_neg hx']; exact List.append_nil _
          rw [eA] at a1
          rw [enA] at a2
          refine ⟨Mc', Mm', L', p', gn', ?_, ?_, a3, ?_, ?_, t6.tr a6, t7.tr a7⟩
          · rw [hc0, a1, show n1 + 1 - (x :: B).length - 1 = n1 - B.length - 1 by simp]
          · rw [hm0, a2, nf_pos hx2, show n2 + 1 - (x :: nf B).length - 1 = n2 - (nf B).length - 1 by simp]
          · rw [a4, ← snoc, nf_app, nf_app, nf_neg hx', nf_pos hx2]
            simp
            omega
          · rw [a5, ← snoc]
            simp [tg, t5]
        · have hx'2 : fa x' = false := by simpa using hx'
          rw [hx'2] at hm0
          have hm1 : fX7_ticks_l (n2 + 1) 2 (nI gn) (nI cl) (nI (nf A).length) Mm = fX7_ticks_l n2 2 (nI gn) (nI cl) (nI ((nf A).length + 1)) Mm1 := hm0
          obtain ⟨Mc', Mm', L', p', gn', a1, a2, a3, a4, a5, a6, a7⟩ := ih (A ++ [x']) p1 gn n1 n2 Mc1 Mm1 t3 h1' h2'
          have enA : nf (A ++ [x']) = nf A ++ [x'] := by rw [nf_app, nf_pos hx'2]; rfl
          rw [eA] at a1
          rw [enA, List.length_append] at a2
          refine ⟨Mc', Mm', L', p', gn', ?_, ?_, a3, ?_, ?_, t6.tr a6, t7.tr a7⟩
          · rw [hc0, a1, show n1 + 1 - (x :: B).length - 1 = n1 - B.length - 1 by simp]
          · rw [hm1, show n2 + 1 - (nf (x :: B)).length - 1 = n2 - (nf B).length - 1 by rw [nf_pos hx2]; simp]
            exact a2
          · rw [a4, ← snoc, nf_app, nf_app, nf_pos hx'2, nf_pos hx2]
            simp
          · rw [a5, ← snoc]
            simp [tg, t5]
      · -- another colour
        rw [if_neg hc] at hc0 hm0
        rw [snoc] at h
        obtain ⟨Mc', Mm', L', p', gn', a1, a2, a3, a4, a5, a6, a7⟩ := ih (A ++ [x]) p gn n1 n2 Mc Mm h h1' h2'
        have enA : nf (A ++ [x]) = nf A ++ [x] := by rw [nf_app, nf_pos hx2]; rfl
        rw [List.length_append] at a1
        rw [enA, List.length_append] at a2
        refine ⟨Mc', Mm', L', p', gn', ?_, ?_, a3, ?_, ?_, a6, a7⟩
        · rw [hc0, show n1 + 1 - (x :: B).length - 1 = n1 - B.length - 1 by simp]
          exact a1
        · rw [hm0, show n2 + 1 - (nf (x :: B)).length - 1 = n2 - (nf B).length - 1 by rw [nf_pos hx2]; simp]
          exact a2
        · rw [snoc]; exact a4
        · rw [snoc]; exact a5
/-- the three colours: the class's passGates, the reference's loop from there on -/
theorem sweep3 {i : Nat} {mk : Nat → Int32} {v o g : Nat → Nat} {r d : Nat} {L : List fb} {Mc Mm : ml_M} (h : rT Mc i Mm mk v o g r d L 0) {n2 : Nat} (hn : 100 ≤ n2) : ∃ (Mc' Mm' : ml_M) (L' : List fb) (p' gn' : Nat), fX2_passGates i Mc = some (.inl 0, Mc') ∧ fX7_ticks_l n2 1 0 0 0 Mm = some (.inl (nI gn'), Mm') ∧ rT Mc' i Mm' mk v o g r d L' p' ∧ gn' + (nf L').length = (nf L).length ∧ tg L' = tg L ∧ fC i Mc Mc' ∧ fM Mm Mm' := by
  have hL : L.length ≤ 8 := h.1.2.2.2.2.2.2.1
  have hl0 : ∀ L' : List fb, tg L' = tg L → L'.length = L.length := fun L' e => by
    have := congrArg List.length e
    simpa [tg] using this
  have c0 : ∀ (n p c : Nat) (M : ml_M), c < 3 → fX2_passGates_l i (n + 1) 0 (nI p) (nI c) 0 M = fX2_passGates_l i n 1 (nI p) (nI c) 0 M := fun n p c M hc => by
    show fX2_passGates_s0 i (fX2_passGates_l i n) (nI p) (nI c) 0 M = _
    unfold fX2_passGates_s0
    rw [if_neg (fun z => by have := (nI_leI (a := 3) (b := c) (by decide) (by omega)).mp z; omega)]
  have m0 : ∀ (n gn c : Nat) (M : ml_M), c < 3 → fX7_ticks_l (n + 1) 1 (nI gn) (nI c) 0 M = fX7_ticks_l n 2 (nI gn) (nI c) 0 M := fun n gn c M hc => by
    show fX7_ticks_s1 (fX7_ticks_l n) (nI gn) (nI c) 0 M = _
    unfold fX7_ticks_s1
    rw [if_neg (fun z => by have := (nI_leI (a := 3) (b := c) (by decide) (by omega)).mp z; omega)]
  have hnf := fun (X : List fb) => nf_len X
  obtain ⟨C1, R1, L1, p1, g1, a1, b1, t1, e1, q1, x1, y1⟩ := sweep1 (cl := 0) (by decide) L [] 0 0 (ml_fuel - 1) (n2 - 1) Mc Mm h (by unfold ml_fuel; omega) (by omega)
  have l1 := hl0 L1 q1
  obtain ⟨C2, R2, L2, p2, g2, a2, b2, t2, e2, q2, x2, y2⟩ := sweep1 (cl := 1) (by decide) L1 [] p1 g1 (ml_fuel - 1 - L.length - 1 - 1) (n2 - 1 - (nf L).length - 1 - 1) C1 R1 t1 (by unfold ml_fuel; omega) (by have := hnf L; omega)
  have l2 := hl0 L2 (q2.trans q1)
  obtain ⟨C3, R3, L3, p3, g3, a3, b3, t3, e3, q3, x3, y3⟩ := sweep1 (cl := 2) (by decide) L2 [] p2 g2 (ml_fuel - 1 - L.length - 1 - 1 - L1.length - 1 - 1) (n2 - 1 - (nf L).length - 1 - 1 - (nf L1).length - 1 - 1) C2 R2 t2 (by unfold ml_fuel; omega) (by have := hnf L; have := hnf L1; omega)
  refine ⟨C3, R3, L3, p3, g3, ?_, ?_, t3, ?_, q3.trans (q2.trans q1), x1.tr (x2.tr x3), y1.tr (y2.tr y3)⟩
  · unfold fX2_passGates
    have f1 : ml_fuel = (ml_fuel - 1) + 1 := by unfold ml_fuel; omega
    have f2 : ml_fuel - 1 - L.length - 1 = (ml_fuel - 1 - L.length - 1 - 1) + 1 := by unfold ml_fuel; omega
    have f3 : ml_fuel - 1 - L.length - 1 - 1 - L1.length - 1 = (ml_fuel - 1 - L.length - 1 - 1 - L1.length - 1 - 1) + 1 := by unfold ml_fuel; omega
    have f4 : ml_fuel - 1 - L.length - 1 - 1 - L1.length - 1 - 1 - L2.length - 1 = (ml_fuel - 1 - L.length - 1 - 1 - L1.length - 1 - 1 - L2.length - 1 - 1) + 1 := by unfold ml_fuel; omega
    rw [f1]
    refine (c0 (ml_fuel - 1) 0 0 Mc (by decide)).trans (a1.trans ?_)
    rw [f2]
    refine (c0 _ p1 1 C1 (by decide)).trans (a2.trans ?_)
    rw [f3]
    refine (c0 _ p2 2 C2 (by decide)).trans (a3.trans ?_)
    rw [f4]
    rfl
  · have f1 : n2 = (n2 - 1) + 1 := by omega
    have k1 := hnf L
    have k2 := hnf L1
    have k3 := hnf L2
    have f2 : n2 - 1 - (nf L).length - 1 = (n2 - 1 - (nf L).length - 1 - 1) + 1 := by omega
    have f3 : n2 - 1 - (nf L).length - 1 - 1 - (nf L1).length - 1 = (n2 - 1 - (nf L).length - 1 - 1 - (nf L1).length - 1 - 1) + 1 := by omega
    have f4 : n2 - 1 - (nf L).length - 1 - 1 - (nf L1).length - 1 - 1 - (nf L2).length - 1 = (n2 - 1 - (nf L).length - 1 - 1 - (nf L1).length - 1 - 1 - (nf L2).length - 1 - 1) + 1 := by omega
    rw [f1]
    refine (m0 (n2 - 1) 0 0 Mm (by decide)).trans (b1.trans ?_)
    rw [f2]
    refine (m0 _ g1 1 R1 (by decide)).trans (b2.trans ?_)
    rw [f3]
    refine (m0 _ g2 2 R2 (by decide)).trans (b3.trans ?_)
    rw [f4]
    rfl
  · simp only [List.nil_append] at e1 e2 e3
    omega
/-- a boat's row goes to another place -/
def cpB (i j : Nat) (a b : Nat) (M : ml_M) : ml_M := ml_w (ml_w (ml_w (ml_w (ml_w M (ml_fl i + 6) b (M (ml_fl j + 6) a)) (ml_fl i + 7) b (M (ml_fl j + 7) a)) (ml_fl i + 8) b (M (ml_fl j + 8) a)) (ml_fl i + 9) b (M (ml_fl j + 9) a)) (ml_fl i + 10) b (M (ml_fl j + 10) a)
theorem fl_ne {i j a b : Nat} (ha : a < 15) (hb : b < 15) (h : a ≠ b) : ml_fl i + a ≠ ml_fl j + b := by unfold ml_fl; omega
theorem cp_c {i j a b w : Nat} {M : ml_M} (ha : a < 8) (hb : b < 8) (hw : M (ml_fl j + 8) a = nI w) (hw1 : w ≤ 1) : fX1_copyBoat i j (nI a) (nI b) M = some (.inl 0, cpB i j a b M) := by
  have oa : ml_ok (nI a) 8 := ok_nI ha (by decide)
  have ob : ml_ok (nI b) 8 := ok_nI hb (by decide)
  have ca : (nI a).toNatClampNeg = a := nI_clamp (by omega)
  have cb : (nI b).toNatClampNeg = b := nI_clamp (by omega)
  have hn : vp_nar .boolean (nI w) = nI w := by rcases (show w = 0 ∨ w = 1 by omega) with rfl | rfl <;> rfl
  unfold fX1_copyBoat ml_lt
  simp only [if_pos oa, if_pos ob, ca, cb]
  rw [ml_w_ne (show ml_fl j + 7 ≠ ml_fl i + 6 from fl_ne (by decide) (by decide) (by decide)), ml_w_ne (show ml_fl j + 8 ≠ ml_fl i + 7 from fl_ne (by decide) (by decide) (by decide)), ml_w_ne (show ml_fl j + 8 ≠ ml_fl i + 6 from fl_ne (by decide) (by decide) (by decide)), hw, hn, ml_w_ne (show ml_fl j + 9 ≠ ml_fl i + 8 from fl_ne (by decide) (by decide) (by decide)), ml_w_ne (show ml_fl j + 9 ≠ ml_fl i + 7 from fl_ne (by decide) (by decide) (by decide)), ml_w_ne (show ml_fl j + 9 ≠ ml_fl i + 6 from fl_ne (by decide) (by decide) (by decide)), ml_w_ne (show ml_fl j + 10 ≠ ml_fl i + 9 from fl_ne (by decide) (by decide) (by decide)), ml_w_ne (show ml_fl j + 10 ≠ ml_fl i + 8 from fl_ne (by decide) (by decide) (by decide)), ml_w_ne (show ml_fl j + 10 ≠ ml_fl i + 7 from fl_ne (by decide) (by decide) (by decide)), ml_w_ne (show ml_fl j + 10 ≠ ml_fl i + 6 from fl_ne (by decide) (by decide) (by decide))]
  unfold cpB
  rw [hw]
theorem cpB_at {i a b q : Nat} {M : ml_M} (o : Nat) (ho : 6 ≤ o ∧ o ≤ 10) : cpB i i a b M (ml_fl i + o) q = if q = b then M (ml_fl i + o) a else M (ml_fl i + o) q := by
  unfold cpB
  rcases (show o = 6 ∨ o = 7 ∨ o = 8 ∨ o = 9 ∨ o = 10 by omega) with rfl | rfl | rfl | rfl | rfl
  · rw [ml_w_ne (by omega), ml_w_ne (by omega), ml_w_ne (by omega), ml_w_ne (by omega), ml_w_at]; rfl
  · rw [ml_w_ne (by omega), ml_w_ne (by omega), ml_w_ne (by omega), ml_w_at, ml_w_ne (by omega)]; rfl
  · rw [ml_w_ne (by omega), ml_w_ne (by omega), ml_w_at, ml_w_ne (by omega), ml_w_ne (by omega)]; rfl
  · rw [ml_w_ne (by omega), ml_w_at, ml_w_ne (by omega), ml_w_ne (by omega), ml_w_ne (by omega)]; rfl
  · rw [ml_w_at, ml_w_ne (by omega), ml_w_ne (by omega), ml_w_ne (by omega), ml_w_ne (by omega)]; rfl
theorem cpB_o {i j a b k : Nat} {M : ml_M} (h : k < ml_fl i + 6 ∨ ml_fl i + 10 < k) : cpB i j a b M k = M k := by
  unfold cpB
  rw [ml_w_ne (by omega), ml_w_ne (by omega), ml_w_ne (by omega), ml_w_ne (by omega), ml_w_ne (by omega)]
/-- a boat's fields in the class -/
def bx (M : ml_M) (i b : Nat) (x : fb) : Prop := M (ml_fl i + 6) b = nI x.1 ∧ M (ml_fl i + 7) b = nI x.2.1 ∧ M (ml_fl i + 8) b = nI x.2.2.1 ∧ M (ml_fl i + 9) b = nI x.2.2.2.1 ∧ M (ml_fl i + 10) b = nI x.2.2.2.2
theorem ra_l {i : Nat} {Mc : ml_M} {L : List fb} (hok : ∀ x ∈ L, fb_ok x) (hL : L.length ≤ 8) : ∀ (B A : List fb) (n : Nat) (M : ml_M), L = A ++ B → B.length < n → M (ml_fl i + 5) 0 = nI L.length → (∀ b x, (nf A)[b]? = some x → bx M i b x) → (∀ b x, B[b]? = some x → bx M i (A.length + b) x) → (∀ k, (k < ml_fl i + 5 ∨ ml_fl i + 10 < k) → M k = Mc k) → (∀ j, j ≠ 0 → M (ml_fl i + 5) j = Mc (ml_fl i + 5) j) → ∃ M', fX1_removeArrived_l i n (nI (nf A).length) (nI A.length) M = some (.inl (nI (L.length - (nf L).length)), M') ∧ bC M' i (nf L) ∧ (∀ k, (k < ml_fl i + 5 ∨ ml_fl i + 10 < k) → M' k = Mc k) ∧ ∀ j, j ≠ 0 → M' (ml_fl i + 5) j = Mc (ml_fl i + 5) j := by
  intro B
  induction B with
  | nil =>
    intro A n M hA hn hc h1 h2 h3 h4
    obtain ⟨n, rfl⟩ : ∃ z, n = z + 1 := ⟨n - 1, by simp at hn; omega⟩
    rw [List.append_nil] at hA
    subst hA
    have hnl := nf_len L
    refine ⟨ml_w M (ml_fl i + 5) 0 (nI (nf L).length), ?_, ⟨w_at, fun b x hx => ?_⟩, fun k hk => by rw [ml_w_ne (by omega)]; exact h3 k hk, fun j hj => by rw [w_un hj]; exact h4 j hj⟩
    · show fX1_removeArrived_s0 i (fX1_removeArrived_l i n) (nI (nf L).length) (nI L.length) M = _
      unfold fX1_removeArrived_s0 ml_lt
      rw [if_pos (by rw [hc]; exact Int32.le_refl _), hc, pk_sub hnl]
    · have := h1 b x hx
      unfold bx at this
      rw [ml_w_ne (by omega), ml_w_ne (by omega), ml_w_ne (by omega), ml_w_ne (by omega), ml_w_ne (by omega)]
      exact this
  | cons x B ih =>
    intro A n M hA hn hc h1 h2 h3 h4
    obtain ⟨n, rfl⟩ : ∃ z, n = z + 1 := ⟨n - 1, by simp at hn; omega⟩
    have hlen : L.length = A.length + (B.length + 1) := by rw [hA]; simp
    have hxo := hok x (by rw [hA]; simp)
    obtain ⟨e1, e2, e3, e4, e5⟩ : bx M i A.length x := h2 0 x rfl
    have hnA := nf_len A
    have hd : fX1_removeArrived_l i (n + 1) (nI (nf A).length) (nI A.length) M = if fa x then fX1_removeArrived_l i n (nI (nf A).length) (nI (A.length + 1)) M else fX1_removeArrived_l i n (nI ((nf A).length + 1)) (nI (A.length + 1)) (cpB i i A.length (nf A).length M) := by
      show fX1_removeArrived_s0 i (fX1_removeArrived_l i n) (nI (nf A).length) (nI A.length) M = _
      unfold fX1_removeArrived_s0 ml_jn
      rw [if_neg (by rw [hc]; exact fun z => by have := (nI_leI (by omega) (by omega)).mp z; omega), ha_c (x := x) (by omega) hxo.2.2.2.1 e3 e4 hxo.2.2.2.2, bd_l]
      dsimp only
      rw [nI_1 A.length]
      by_cases hf : fa x = true
      · rw [hf]
        have z0 : ¬ ((if true = true then 1 else 0 : Int32) = 0) := by decide
        rw [if_neg z0, if_pos rfl]
      · have hf2 : fa x = false := by simpa using hf
        have z0 : ((if false = true then 1 else 0 : Int32) = 0) := rfl
        rw [hf2, if_pos z0, cp_c (by omega) (by omega) e3 hxo.2.2.2.1, bd_l, nI_1, if_neg (by decide)]
    by_cases hf : fa x = true
    · rw [hd, hf, if_pos rfl]
      have enA : nf (A ++ [x]) = nf A := by rw [nf_app, nf_neg hf]; exact List.append_nil _
      have := ih (A ++ [x]) n M (by rw [hA]; simp) (by simp at hn; omega) hc (by rw [enA]; exact h1) (fun b y hy => by
        have := h2 (b + 1) y hy
        rw [show (A ++ [x]).length + b = A.length + (b + 1) by simp; omega]
        exact this) h3 h4
      rw [enA, show (A ++ [x]).length = A.length + 1 by simp] at this
      exact this
    · have hf2 : fa x = false := by simpa using hf
      rw [hd, hf2, if_neg (by decide)]
      have enA : nf (A ++ [x]) = nf A ++ [x] := by rw [nf_app, nf_pos hf2]; rfl
      have hrd : ∀ q y, bx M i q y → q ≠ (nf A).length → bx (cpB i i A.length (nf A).length M) i q y := fun q y hy hq => by
        unfold bx at hy ⊢
        rw [cpB_at 6 (by decide), cpB_at 7 (by decide), cpB_at 8 (by decide), cpB_at 9 (by decide), cpB_at 10 (by decide), if_neg hq, if_neg hq, if_neg hq, if_neg hq, if_neg hq]
        exact hy
      have := ih (A ++ [x]) n (cpB i i A.length (nf A).length M) (by rw [hA]; simp) (by simp at hn; omega) (by rw [cpB_o (by omega)]; exact hc) (fun b y hy => by
        rw [enA] at hy
        by_cases hb : b = (nf A).length
        · subst hb
          rw [List.getElem?_append_right (Nat.le_refl _), Nat.sub_self] at hy
          cases hy
          unfold bx
          rw [cpB_at 6 (by decide), cpB_at 7 (by decide), cpB_at 8 (by decide), cpB_at 9 (by decide), cpB_at 10 (by decide), if_pos rfl, if_pos rfl, if_pos rfl, if_pos rfl, if_pos rfl]
          exact ⟨e1, e2, e3, e4, e5⟩
        · have hbl : b < (nf A).length := by
            have := (List.getElem?_eq_some_iff.mp hy).1
            simp at this
            omega
          rw [List.getElem?_append_left hbl] at hy
          exact hrd b y (h1 b y hy) hb) (fun b y hy => by
        have h9 := h2 (b + 1) y hy
        rw [show (A ++ [x]).length + b = A.length + (b + 1) by simp; omega]
        exact hrd _ y h9 (by omega)) (fun k hk => by rw [cpB_o (by omega)]; exact h3 k hk) (fun j hj => by rw [cpB_o (by omega)]; exact h4 j hj)
      rw [enA, show (A ++ [x]).length = A.length + 1 by simp, show (nf A ++ [x]).length = (nf A).length + 1 by simp] at this
      exact this
theorem ra_c {i : Nat} {Mc : ml_M} {L : List fb} (hok : ∀ x ∈ L, fb_ok x) (hL : L.length ≤ 8) (h : bC Mc i L) : ∃ M', fX1_removeArrived i Mc = some (.inl (nI (L.length - (nf L).length)), M') ∧ bC M' i (nf L) ∧ (∀ k, (k < ml_fl i + 5 ∨ ml_fl i + 10 < k) → M' k = Mc k) ∧ ∀ j, j ≠ 0 → M' (ml_fl i + 5) j = Mc (ml_fl i + 5) j :=
  ra_l hok hL L [] ml_fuel Mc rfl (by unfold ml_fuel; omega) h.1 (fun b x hx => by cases hx) (fun b x hx => by rw [show ([] : List fb).length + b = b by simp]; exact h.2 b x hx) (fun _ _ => rfl) (fun _ _ => rfl)
