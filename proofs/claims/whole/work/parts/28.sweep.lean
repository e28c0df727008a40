/-! The sweep over the boats, both sides; the arrived ones go. -/
def tg (L : List fb) : List Nat := L.map (fun x => x.2.2.2.2)
theorem snoc {A B : List fb} {x : fb} : A ++ x :: B = (A ++ [x]) ++ B := by simp
theorem sweep1 {i cl : Nat} {mk : Nat → Int32} {v o g : Nat → Nat} {r d : Nat} (hcl : cl < 3) : ∀ (B A : List fb) (p gn n1 n2 : Nat) (Mc Mm : ml_M), rT Mc i Mm mk v o g r d (A ++ B) p → B.length < n1 → B.length < n2 → ∃ (Mc' Mm' : ml_M) (L' : List fb) (p' gn' : Nat), fX2_passGates_l i n1 1 (nI p) (nI cl) (nI A.length) Mc = fX2_passGates_l i (n1 - B.length - 1) 0 (nI p') (nI (cl + 1)) 0 Mc' ∧ fX7_ticks_l n2 2 (nI gn) (nI cl) (nI (nf A).length) Mm = fX7_ticks_l (n2 - (nf B).length - 1) 1 (nI gn') (nI (cl + 1)) 0 Mm' ∧ rT Mc' i Mm' mk v o g r d L' p' ∧ gn' + (nf L').length = gn + (nf (A ++ B)).length ∧ tg L' = tg (A ++ B) ∧ fC i Mc Mc' ∧ fM Mm Mm' := by
  intro B
  induction B with
  | nil =>
    intro A p gn n1 n2 Mc Mm h h1 h2
    obtain ⟨n1, rfl⟩ : ∃ z, n1 = z + 1 := ⟨n1 - 1, by simp at h1; omega⟩
    obtain ⟨n2, rfl⟩ : ∃ z, n2 = z + 1 := ⟨n2 - 1, by simp at h2; omega⟩
    rw [List.append_nil] at h ⊢
    obtain ⟨⟨hW, hE, hG, hC, hM, hok, hL, hp, h5⟩, hR⟩ := id h
    refine ⟨Mc, Mm, A, p, gn, ?_, ?_, h, rfl, rfl, fC.rf, fM.rf⟩
    · show fX2_passGates_s1 i (fX2_passGates_l i n1) (nI p) (nI cl) (nI A.length) Mc = _
      unfold fX2_passGates_s1
      rw [if_pos (by rw [hC.1]; exact Int32.le_refl _), nI_1]
      rfl
    · show fX7_ticks_s2 (fX7_ticks_l n2) (nI gn) (nI cl) (nI (nf A).length) Mm = _
      unfold fX7_ticks_s2
      rw [if_pos (by rw [hM.1]; exact Int32.le_refl _), nI_1]
      rfl
  | cons x B ih =>
    intro A p gn n1 n2 Mc Mm h h1 h2
    obtain ⟨n1, rfl⟩ : ∃ z, n1 = z + 1 := ⟨n1 - 1, by simp at h1; omega⟩
    obtain ⟨n2, rfl⟩ : ∃ z, n2 = z + 1 := ⟨n2 - 1, by simp at h2; omega⟩
    have h1' : B.length < n1 := by simp at h1; omega
    have h2' : B.length < n2 := by simp at h2; omega
    obtain ⟨⟨hW, hE, hG, hC, hM, hok, hL, hp, h5⟩, hR⟩ := id h
    have hlen : (A ++ x :: B).length = A.length + (B.length + 1) := by simp
    have hb : (A ++ x :: B)[A.length]? = some x := by simp
    have hxo := hok x (by simp)
    obtain ⟨f1, f2, f3, f4, f5⟩ := hC.2 A.length x hb
    -- the class's head
    have hc0 : fX2_passGates_l i (n1 + 1) 1 (nI p) (nI cl) (nI A.length) Mc = if x.1 = cl then ml_bd (fX2_mayPass i (nI A.length) (nI p) Mc) (fun r5 M6 => (if r5 = 0 then fX2_passGates_l i n1 1 (nI p) (nI cl) (nI (A.length + 1)) M6 else ml_bd (fX1_gateAhead i (nI A.length) M6) (fun r7 M8 => ml_lt (nI p ||| (1 <<< (r7 &&& 31))) (fun v9 => ml_bd (fX2_pass i (nI A.length) M8) (fun r10 M11 => fX2_passGates_l i n1 1 v9 (nI cl) (nI (A.length + 1)) M11))))) else fX2_passGates_l i n1 1 (nI p) (nI cl) (nI (A.length + 1)) Mc := by
      show fX2_passGates_s1 i (fX2_passGates_l i n1) (nI p) (nI cl) (nI A.length) Mc = _
      unfold fX2_passGates_s1 ml_jn
      rw [if_neg (by rw [hC.1]; exact fun z => by have := (nI_leI (by omega) (by omega)).mp z; omega), if_pos (ok_nI (by omega) (by decide)), nI_clamp (by omega), f1, nI_1]
      by_cases hc : x.1 = cl
      · rw [if_pos (congrArg nI hc), if_pos hc]
      · rw [if_neg (fun z => hc ((nI_eq (by have := hxo.1; omega) (by omega)).mp z)), if_neg hc]
    by_cases hx : fa x = true
    · -- it has arrived: the reference doesn't have it any more
      have e1 : fX2_passGates_l i (n1 + 1) 1 (nI p) (nI cl) (nI A.length) Mc = fX2_passGates_l i n1 1 (nI p) (nI cl) (nI (A ++ [x]).length) Mc := by
        rw [hc0, List.length_append]
        by_cases hc : x.1 = cl
        · rw [if_pos hc, mp_a hC hL hok hb hx, bd_l, if_pos rfl]
          rfl
        · rw [if_neg hc]
          rfl
      have enA : nf (A ++ [x]) = nf A := by rw [nf_app, nf_neg hx]; exact List.append_nil _
      rw [snoc] at h
      obtain ⟨Mc', Mm', L', p', gn', a1, a2, a3, a4, a5, a6, a7⟩ := ih (A ++ [x]) p gn n1 (n2 + 1) Mc Mm h h1' (by omega)
      refine ⟨Mc', Mm', L', p', gn', ?_, ?_, a3, ?_, ?_, a6, a7⟩
      · rw [e1, a1, show n1 + 1 - (x :: B).length - 1 = n1 - B.length - 1 by simp]
      · rw [enA] at a2
        rw [nf_neg hx]
        exact a2
      · rw [snoc]; exact a4
      · rw [snoc]; exact a5
    · have hx2 : fa x = false := by simpa using hx
      have hM2 : bM Mm mk (nf A ++ x :: nf B) := by rw [nf_app, nf_pos hx2] at hM; exact hM
      have hnl : (nf A ++ x :: nf B).length ≤ 8 := by
        have := nf_len (A ++ x :: B)
        rw [nf_app, nf_pos hx2] at this
        omega
      have hnA : (nf A).length < 8 := by
        have : (nf A ++ x :: nf B).length = (nf A).length + ((nf B).length + 1) := by simp
        omega
      obtain ⟨m1, m2, m3, m4, m5⟩ := hM2.2 (nf A).length x (by simp)
      -- the reference's head
      have hm0 : fX7_ticks_l (n2 + 1) 2 (nI gn) (nI cl) (nI (nf A).length) Mm = if x.1 = cl then ml_bd (fX7_passes (nI (nf A).length) Mm) (fun r8 M9 => if r8 = 0 then fX7_ticks_l n2 2 (nI gn) (nI cl) (nI ((nf A).length + 1)) M9 else fX7_ticks_l n2 2 (nI (gn + 1)) (nI cl) (nI (nf A).length) M9) else fX7_ticks_l n2 2 (nI gn) (nI cl) (nI ((nf A).length + 1)) Mm := by
        show fX7_ticks_s2 (fX7_ticks_l n2) (nI gn) (nI cl) (nI (nf A).length) Mm = _
        have hlt : ¬ nI ((nf A ++ x :: nf B).length) ≤ nI (nf A).length := fun z => by
          have := (nI_leI (by omega) (by omega)).mp z
          simp at this
          omega
        unfold fX7_ticks_s2 ml_jn
        rw [if_neg (by rw [hM2.1]; exact hlt), show (0 : Int32) = nI 0 from rfl, b_m hnA (by decide), bd_l, show 40 + 5 * (nf A).length + 0 = 40 + 5 * (nf A).length by omega, m1]
        have s1 : nI gn + nI 0 = nI gn := nI_add gn 0
        have s2 : nI (nf A).length - nI 0 + 1 = nI ((nf A).length + 1) := by rw [pk_sub (by omega)]; exact nI_1 _
        have s3 : nI (nf A).length - 1 + 1 = nI (nf A).length := Int32.sub_add_cancel _ _
        by_cases hc : x.1 = cl
        · rw [if_pos (congrArg nI hc), if_pos hc]
          congr 1
          funext r8 M9
          by_cases h8 : r8 = nI 0
          · rw [if_pos h8, if_pos h8, if_pos h8, s1, s2]
          · rw [if_neg h8, if_neg h8, if_neg h8, s3, nI_1]
        · rw [if_neg (fun z => hc ((nI_eq (by have := hxo.1; omega) (by omega)).mp z)), if_neg hc, nI_1]
      by_cases hc : x.1 = cl
      · -- its turn
        obtain ⟨Mc1, Mm1, x', p1, t1, t2, t3, t4, t5, t6, t7⟩ := turn h hx2
        have k1 := t1 (fun y M => fX2_passGates_l i n1 1 y (nI cl) (nI (A.length + 1)) M)
        rw [if_pos hc, k1] at hc0
        rw [if_pos hc, t2, bd_l] at hm0
        have eA : (A ++ [x']).length = A.length + 1 := by simp
        rw [snoc] at t3
        by_cases hx' : fa x' = true
        · rw [hx', if_pos rfl, if_neg (show ¬ (1 : Int32) = 0 by decide)] at hm0
          obtain ⟨Mc', Mm', L', p', gn', a1, a2, a3, a4, a5, a6, a7⟩ := ih (A ++ [x']) p1 (gn + 1) n1 n2 Mc1 Mm1 t3 h1' h2'
          have enA : nf (A ++ [x']) = nf A := by rw [nf_app, nf_neg hx']; exact List.append_nil _
          rw [eA] at a1
          rw [enA] at a2
          refine ⟨Mc', Mm', L', p', gn', ?_, ?_, a3, ?_, ?_, t6.tr a6, t7.tr a7⟩
          · rw [hc0, a1, show n1 + 1 - (x :: B).length - 1 = n1 - B.length - 1 by simp]
          · rw [hm0, a2, nf_pos hx2, show n2 + 1 - (x :: nf B).length - 1 = n2 - (nf B).length - 1 by simp]
          · rw [a4, ← snoc, nf_app, nf_app, nf_neg hx', nf_pos hx2]
            simp
            omega
          · rw [a5, ← snoc]
            simp [tg, t5]
        · have hx'2 : fa x' = false := by simpa using hx'
          rw [hx'2] at hm0
          have hm1 : fX7_ticks_l (n2 + 1) 2 (nI gn) (nI cl) (nI (nf A).length) Mm = fX7_ticks_l n2 2 (nI gn) (nI cl) (nI ((nf A).length + 1)) Mm1 := hm0
          obtain ⟨Mc', Mm', L', p', gn', a1, a2, a3, a4, a5, a6, a7⟩ := ih (A ++ [x']) p1 gn n1 n2 Mc1 Mm1 t3 h1' h2'
          have enA : nf (A ++ [x']) = nf A ++ [x'] := by rw [nf_app, nf_pos hx'2]; rfl
          rw [eA] at a1
          rw [enA, List.length_append] at a2
          refine ⟨Mc', Mm', L', p', gn', ?_, ?_, a3, ?_, ?_, t6.tr a6, t7.tr a7⟩
          · rw [hc0, a1, show n1 + 1 - (x :: B).length - 1 = n1 - B.length - 1 by simp]
          · rw [hm1, show n2 + 1 - (nf (x :: B)).length - 1 = n2 - (nf B).length - 1 by rw [nf_pos hx2]; simp]
            exact a2
          · rw [a4, ← snoc, nf_app, nf_app, nf_pos hx'2, nf_pos hx2]
            simp
          · rw [a5, ← snoc]
            simp [tg, t5]
      · -- another colour
        rw [if_neg hc] at hc0 hm0
        rw [snoc] at h
        obtain ⟨Mc', Mm', L', p', gn', a1, a2, a3, a4, a5, a6, a7⟩ := ih (A ++ [x]) p gn n1 n2 Mc Mm h h1' h2'
        have enA : nf (A ++ [x]) = nf A ++ [x] := by rw [nf_app, nf_pos hx2]; rfl
        rw [List.length_append] at a1
        rw [enA, List.length_append] at a2
        refine ⟨Mc', Mm', L', p', gn', ?_, ?_, a3, ?_, ?_, a6, a7⟩
        · rw [hc0, show n1 + 1 - (x :: B).length - 1 = n1 - B.length - 1 by simp]
          exact a1
        · rw [hm0, show n2 + 1 - (nf (x :: B)).length - 1 = n2 - (nf B).length - 1 by rw [nf_pos hx2]; simp]
          exact a2
        · rw [snoc]; exact a4
        · rw [snoc]; exact a5
