/-! A turn of a boat, joined; the sweep of the boats; the minute. -/
theorem hr_nf {L : List fb} {a : Nat} (hok : ∀ x ∈ L, fb_ok x) : hr (nf L) a = hr L a := by
  unfold hr
  by_cases h0 : a = 0
  · subst h0; rfl
  by_cases h4 : a = 4
  · subst h4; rfl
  rw [cnt_nf hok h0 h4]
theorem mp_nf {L : List fb} {v g : Nat → Nat} {p : Nat} {x : fb} (hok : ∀ x ∈ L, fb_ok x) : mp (nf L) v g p x = mp L v g p x := by
  unfold mp
  rw [hr_nf hok]
def rR (L : List fb) : Prop := ∀ j, 1 ≤ j → j ≤ 3 → cnt L j ≤ 2
theorem rR_mv {A B : List fb} {x : fb} {v g : Nat → Nat} {p : Nat} (hR : rR (A ++ x :: B)) (hm : mp (A ++ x :: B) v g p x = true) : rR (A ++ mv x :: B) := by
  intro j h1 h3
  have h0 := hR j h1 h3
  unfold cnt at h0 ⊢
  rw [List.countP_append, List.countP_cons] at h0 ⊢
  by_cases hb : bh x = j
  · have hhr : hr (A ++ x :: B) j = true := by
      unfold mp at hm
      rw [hb] at hm
      simp at hm
      exact hm.2.2.1
    have hc : cnt (A ++ x :: B) j < 2 := by
      unfold hr at hhr
      simp at hhr
      rcases hhr with (h | h) | h
      · omega
      · omega
      · exact h
    unfold cnt at hc
    rw [List.countP_append, List.countP_cons] at hc
    have e : ((mv x).2.2.2.1 == j) = true := by show (bh x == j) = true; simp [hb]
    rw [if_pos e]
    split at hc <;> omega
  · have e : ¬ ((mv x).2.2.2.1 == j) = true := by show ¬ (bh x == j) = true; simp [hb]
    rw [if_neg e]
    split at h0 <;> omega
/-- the state, with the rooms -/
def rT (Mc : ml_M) (i : Nat) (Mm : ml_M) (mk : Nat → Int32) (v o g : Nat → Nat) (r d : Nat) (L : List fb) (p : Nat) : Prop := rP Mc i Mm mk v o g r d L p ∧ rR L
theorem bC.set2 {i : Nat} {M : ml_M} {A B : List fb} {x : fb} (h : bC M i (A ++ x :: B)) : bC (cgC i M A.length x) i (A ++ mv x :: B) := by
  have := h.set (b := A.length) (x := x) (by simp)
  rw [set_app] at this
  exact this
/-- the two sides of a boat's turn -/
theorem turn {i p : Nat} {Mc Mm : ml_M} {mk : Nat → Int32} {v o g : Nat → Nat} {r d : Nat} {A B : List fb} {x : fb} (h : rT Mc i Mm mk v o g r d (A ++ x :: B) p) (hx : fa x = false) : ∃ (Mc' Mm' : ml_M) (x' : fb) (p' : Nat), (∀ K : Int32 → ml_M → Option ml_R, ml_bd (fX2_mayPass i (nI A.length) (nI p) Mc) (fun r5 M6 => (if r5 = 0 then K (nI p) M6 else ml_bd (fX1_gateAhead i (nI A.length) M6) (fun r7 M8 => ml_lt (nI p ||| (1 <<< (r7 &&& 31))) (fun v9 => ml_bd (fX2_pass i (nI A.length) M8) (fun r10 M11 => K v9 M11))))) = K (nI p') Mc') ∧ fX7_passes (nI (nf A).length) Mm = some (.inl (if fa x' then 1 else 0), Mm') ∧ rT Mc' i Mm' mk v o g r d (A ++ x' :: B) p' ∧ x'.1 = x.1 ∧ x'.2.2.2.2 = x.2.2.2.2 ∧ fC i Mc Mc' ∧ fM Mm Mm' := by
  obtain ⟨⟨hW, hE, hG, hC, hM, hok, hL, hp, h5⟩, hR⟩ := id h
  have hb : (A ++ x :: B)[A.length]? = some x := by simp
  have hxo := hok x (by simp)
  have hbl : A.length < 8 := by
    have : (A ++ x :: B).length = A.length + (B.length + 1) := by simp
    omega
  obtain ⟨g4, b4, -, -⟩ := fa_no hxo hx
  have hM2 : bM Mm mk (nf A ++ x :: nf B) := by rw [nf_app, nf_pos hx] at hM; exact hM
  have hnl : (nf A ++ x :: nf B).length ≤ 8 := by
    have := nf_len (A ++ x :: B)
    rw [nf_app, nf_pos hx] at this
    omega
  have hnA : (nf A).length < 8 := by
    have : (nf A ++ x :: nf B).length = (nf A).length + ((nf B).length + 1) := by simp
    omega
  have hnok : ∀ y ∈ nf A ++ x :: nf B, fb_ok y := fun y hy => by
    have := nf_ok hok
    rw [nf_app, nf_pos hx] at this
    exact this y hy
  have hmpn : mp (nf A ++ x :: nf B) v g p x = mp (A ++ x :: B) v g p x := by
    have := mp_nf (L := A ++ x :: B) (v := v) (g := g) (p := p) (x := x) hok
    rw [nf_app, nf_pos hx] at this
    exact this
  have hps := passes_m (v := v) (g := g) hM2 hnl hnok hx rfl hp h5 (fun j hj => ⟨hW.1.2.1 j hj, lim4 hW.1.1 hj⟩) (fun j hj => ⟨(hW.1.2.2.2.1 j hj).2.2, (hW.1.2.2.2.1 j hj).2.1⟩)
  have hmc := mp_c hW hC hL hok hb hx hp
  rw [hmpn] at hps
  by_cases hm : mp (A ++ x :: B) v g p x = true
  · -- it passes
    obtain ⟨q1, q2⟩ := pb_o p hp (gh x) g4
    obtain ⟨f1, f2, f3, f4, f5⟩ := hC.2 A.length x hb
    have hpc := pass_c hC hL hok hb hx
    have cls : ∀ (N : ml_M), fX2_pass i (nI A.length) Mc = some (.inl 0, N) → ∀ K : Int32 → ml_M → Option ml_R, ml_bd (fX2_mayPass i (nI A.length) (nI p) Mc) (fun r5 M6 => (if r5 = 0 then K (nI p) M6 else ml_bd (fX1_gateAhead i (nI A.length) M6) (fun r7 M8 => ml_lt (nI p ||| (1 <<< (r7 &&& 31))) (fun v9 => ml_bd (fX2_pass i (nI A.length) M8) (fun r10 M11 => K v9 M11))))) = K (nI (p ||| (1 <<< gh x))) N := by
      intro N hN K
      rw [hmc, hm, bd_l, if_pos rfl, if_neg (show ¬ (1 : Int32) = 0 by decide), ga_c hbl hxo.2.2.2.1 f3 f4, bd_l, ga_n hxo hx, q1]
      unfold ml_lt
      dsimp only
      rw [hN, bd_l]
    rw [hm, if_pos rfl] at hps
    dsimp only at hps
    have c9 : ∀ q, q ≠ ml_fl i + 9 → cgC i Mc A.length x q = Mc q := fun q hq => ml_w_ne hq
    by_cases hf : fa (mv x) = true
    · rw [hf, if_pos rfl] at hps hpc
      obtain ⟨M1, hM1⟩ : ∃ z, z = ml_w (cgC i Mc A.length x) (ml_fl i + 11) x.1 (Mc (ml_fl i + 11) x.1 + 1) := ⟨_, rfl⟩
      obtain ⟨M4, hM4⟩ : ∃ z, z = ml_w (ml_w Mm 11 5 (nI (p ||| (1 <<< gh x)))) 12 (8 + x.1) ((ml_w Mm 11 5 (nI (p ||| (1 <<< gh x)))) 12 (8 + x.1) + 1) := ⟨_, rfl⟩
      rw [← hM1] at hpc
      rw [← hM4] at hps
      have m1o : ∀ q, q ≠ ml_fl i + 9 → q ≠ ml_fl i + 11 → M1 q = Mc q := fun q a b => by rw [hM1, ml_w_ne b, c9 q a]
      have m4o : ∀ q, q ≠ 8 + x.1 → M4 12 q = Mm 12 q := fun q a => by rw [hM4, w_un a, ml_w_ne (by decide)]
      have hE1 : rE M1 i M4 := rE.of hE (fun o2 a b => m1o _ (by omega) (by omega)) (m4o _ (by omega)) (fun q a b => m4o _ (by have := hxo.1; omega))
      obtain ⟨Mc', Mm1, n1, n2, n3, n4, n5, n6⟩ := hE1.note (k := 108) (x := nI x.2.1) (by decide) (by decide) (Or.inr (Or.inl ⟨rfl, x.2.1, hxo.2.1, hxo.2.2.1, rfl⟩))
      rw [n1, bd_l] at hpc
      rw [n2, bd_l] at hps
      have hb1 : bM Mm1 mk (nf A ++ x :: nf B) := hM2.of (by rw [n6 _ (by omega), m4o _ (by omega)]) (fun q hq => by rw [n6 _ (by omega), m4o _ (by have := hxo.1; omega)])
      obtain ⟨Mm', l1, l2, l3, l4, l5⟩ := lv_m hb1 hnl
      rw [l1, bd_l] at hps
      refine ⟨Mc', Mm', mv x, p ||| (1 <<< gh x), cls Mc' hpc, by rw [hf, hps]; rfl, ⟨⟨hW.of ?_ ?_ ?_, ?_, ?_, ?_, ?_, ?_, ?_, q2, ?_⟩, rR_mv hR hm⟩, rfl, rfl, ?_, ?_⟩
      · rw [n4 _ (by omega), m1o _ (by omega) (by omega)]
      · intro k a b
        rw [n4 _ (by omega), m1o _ (by omega) (by omega)]
      · intro q hq
        rw [l3 q (by omega) (by omega), n6 q (by omega), m4o q (by have := hxo.1; omega)]
      · refine rE.of n3 (fun _ _ _ => rfl) (l3 7 (by decide) (by decide)) (fun q a b => l3 q b (by omega))
      · intro j hj
        rw [l3 _ (by omega) (by omega), n6 _ (by omega), n4 _ (by omega), hM4, hM1]
        by_cases hjc : j = x.1
        · subst hjc
          rw [w_at, w_at, ml_w_ne (by decide), hG _ hj]
        · rw [w_un (by omega), w_un hjc, ml_w_ne (by decide), c9 _ (by omega), hG _ hj]
      · have h1 : bC M1 i (A ++ mv x :: B) := hC.set2.of (fun o2 a b => by rw [hM1, ml_w_ne (by omega)])
        exact h1.of (fun o2 a b => n4 _ (by omega))
      · rw [nf_app, nf_neg hf]
        exact l2
      · intro y hy
        rcases List.mem_append.mp hy with hy | hy
        · exact hok y (List.mem_append_left _ hy)
        · rcases List.mem_cons.mp hy with rfl | hy
          · exact mv_ok hxo hx
          · exact hok y (List.mem_append_right _ (List.mem_cons_of_mem _ hy))
      · have : (A ++ mv x :: B).length = (A ++ x :: B).length := by simp
        omega
      · rw [l5 11 (by decide), n5 11 (by decide), hM4, ml_w_ne (by decide), w_at]
      · intro k hk
        rw [n4 _ (by omega), m1o _ (by omega) (by omega)]
      · refine ⟨fun k a b => ?_, fun q a => ?_, fun q a => ?_⟩
        · rw [l5 k b, n5 k b, hM4, ml_w_ne b, ml_w_ne a]
        · rw [l4 q a, n6 q (by omega), m4o q (by have := hxo.1; omega)]
        · rw [l5 11 (by decide), n5 11 (by decide), hM4, ml_w_ne (by decide), w_un a]
    · have hf2 : fa (mv x) = false := by simpa using hf
      rw [hf2, if_neg (by decide)] at hps hpc
      obtain ⟨M4, hM4⟩ : ∃ z, z = ml_w (ml_w Mm 11 5 (nI (p ||| (1 <<< gh x)))) 12 (43 + 5 * (nf A).length) (nI (bh x)) := ⟨_, rfl⟩
      rw [← hM4] at hps
      have m4o : ∀ q, q < 40 → M4 12 q = Mm 12 q := fun q a => by rw [hM4, w_un (by omega), ml_w_ne (by decide)]
      have hE1 : rE (cgC i Mc A.length x) i M4 := rE.of hE (fun o2 a b => c9 _ (by omega)) (m4o _ (by omega)) (fun q a b => m4o _ b)
      obtain ⟨Mc', Mm', n1, n2, n3, n4, n5, n6⟩ := hE1.note (k := 112) (x := nI (gh x)) (by decide) (by decide) (Or.inl ⟨rfl, gh x, by omega, rfl⟩)
      rw [n1, bd_l] at hpc
      rw [n2, bd_l] at hps
      refine ⟨Mc', Mm', mv x, p ||| (1 <<< gh x), cls Mc' hpc, by rw [hf2, hps]; rfl, ⟨⟨hW.of ?_ ?_ ?_, n3, ?_, ?_, ?_, ?_, ?_, q2, ?_⟩, rR_mv hR hm⟩, rfl, rfl, ?_, ?_⟩
      · rw [n4 _ (by omega), c9 _ (by omega)]
      · intro k a b
        rw [n4 _ (by omega), c9 _ (by omega)]
      · intro q hq
        rw [n6 q (by omega), m4o q (by omega)]
      · intro j hj
        rw [n6 _ (by omega), n4 _ (by omega), m4o _ (by omega), c9 _ (by omega), hG _ hj]
      · exact hC.set2.of (fun o2 a b => n4 _ (by omega))
      · rw [nf_app, nf_pos hf2]
        have h1 : bM (ml_w (ml_w Mm 11 5 (nI (p ||| (1 <<< gh x)))) 12 (43 + 5 * (nf A).length) (nI (bh x))) mk (nf A ++ mv x :: nf B) := bM.set (hM2.of (by rw [ml_w_ne (by decide)]) (fun q _ => by rw [ml_w_ne (by decide)])) rfl
        rw [← hM4] at h1
        exact h1.of (n6 _ (by omega)) (fun q hq => n6 _ (by omega))
      · intro y hy
        rcases List.mem_append.mp hy with hy | hy
        · exact hok y (List.mem_append_left _ hy)
        · rcases List.mem_cons.mp hy with rfl | hy
          · exact mv_ok hxo hx
          · exact hok y (List.mem_append_right _ (List.mem_cons_of_mem _ hy))
      · have : (A ++ mv x :: B).length = (A ++ x :: B).length := by simp
        omega
      · rw [n5 11 (by decide), hM4, ml_w_ne (by decide), w_at]
      · intro k hk
        rw [n4 _ (by omega), c9 _ (by omega)]
      · refine ⟨fun k a b => ?_, fun q a => ?_, fun q a => ?_⟩
        · rw [n5 k b, hM4, ml_w_ne b, ml_w_ne a]
        · rw [n6 q (by omega), hM4, w_un (by omega), ml_w_ne (by decide)]
        · rw [n5 11 (by decide), hM4, ml_w_ne (by decide), w_un a]
  · -- it stays
    have hm2 : mp (A ++ x :: B) v g p x = false := by simpa using hm
    rw [hm2, if_neg (by decide)] at hps
    refine ⟨Mc, Mm, x, p, fun K => ?_, by rw [hx, hps]; rfl, h, rfl, rfl, fC.rf, fM.rf⟩
    rw [hmc, hm2, bd_l]
    rfl
