/-! Rendering, and reading what was rendered. -/
theorem nbc0 {α : Type} {a b : α} : (if narrow .char (.int 0) = .int 0 then a else b) = a := if_pos rfl
theorem w_id {M : ml_M} {a j : Nat} : ml_w M a j (M a j) = M := by
  funext p
  by_cases h : p = a
  · subst h
    funext q
    by_cases h2 : q = j
    · subst h2; rw [w_at]
    · rw [w_un h2]
  · rw [ml_w_ne h]
theorem oT.new {C N : ml_M} (h1 : C 9 1 = 0) (h3 : C 9 3 = nI 0) (h7 : N 11 7 = nI 0) : oT C N 0 := ⟨h1, h3, h7, fun j hj => by omega⟩
theorem gC.rf {M : ml_M} : gC M M := fun _ _ _ => rfl
theorem gM.rf {M : ml_M} : gM M M := ⟨fun _ _ _ => rfl, fun _ _ => rfl⟩
theorem z_43 {n : Nat} (x1 x2 x3 : Int32) {M : ml_M} (hs : sI n M) : ∃ M9, lw_s43 x1 x2 x3 M M9 ∧ sI (n + 60) M9 := by
  obtain ⟨l, l16, o1, o2, o3, o4⟩ := id hs.2.2.2.2.2
  obtain ⟨v, hv⟩ := rV hs.1
  obtain ⟨o, g, hO⟩ := rO hs.1
  obtain ⟨C0, s1, s2, s3, s4⟩ := sl_c o1 o2 l16
  have run : ∀ N : ml_M, N 12 = M 12 → ∃ Mc' Mm' l', l' ≤ 16 ∧ fX6_renderLevels_l ml_fuel 0 C0 = some (.inl (nI l'), Mc') ∧ fX7_renderLevels_l ml_fuel 0 (ml_w N 11 7 0) = some (.inl (nI l'), Mm') ∧ oT Mc' Mm' l' ∧ gC M Mc' ∧ gM (ml_w N 11 7 0) Mm' := fun N hN => rl_l (M0 := M) (N0 := ml_w N 11 7 0) (v := v) (g := g) (fun j hj => ⟨(hv j hj).2.1, by rw [ml_w_ne (by decide), hN]; exact (hv j hj).1, (hv j hj).2.2⟩) (fun j hj => ⟨(hO j hj).2.2.1, by rw [ml_w_ne (by decide), hN]; exact (hO j hj).2.1, (hO j hj).2.2.2⟩) 5 0 0 ml_fuel ml_fuel C0 (ml_w N 11 7 0) (by decide) (by unfold ml_fuel; omega) (by unfold ml_fuel; omega) (oT.new s2 s3 w_at) (by decide) s4 gM.rf
  obtain ⟨C1, R0, l1, a1, a2, a3, a4, a5, a6⟩ := run M rfl
  obtain ⟨C2, R, l2, b1, b2, b3, b4, b5, b6⟩ := run (ml_w C1 11 0 0) (by rw [ml_w_ne (by decide)]; exact a5 12 (by decide) (by decide))
  rw [a2] at b2
  have e9 := Option.some.inj b2
  have el : nI l1 = nI l2 := Sum.inl.inj (Prod.mk.inj e9).1
  have eC : C1 = C2 := (Prod.mk.inj e9).2
  subst eC
  refine ⟨R, ⟨nI l1, C1, ?_, ?_⟩, ?_⟩
  · unfold fX6_renderLevels
    rw [s1, bd_e, a2]
  · unfold fX7_renderLevels
    rw [lt_e, lt_e, b3, el]
  · have e : ml_w C1 181 0 (C1 181 0) = C1 := w_id
    exact sI_text (M1 := C1) (x := C1 181 0) (t := 0) hs b4 b1 b5 (by rw [e]; exact b6)
/-- a boat's text -/
theorem rb_l {b : Nat} {x : fb} (hb : b < 8) (hx : fb_ok x) {C0 N0 : ml_M} (h6 : C0 (ml_fl 0 + 6) b = nI x.1) (h7 : C0 (ml_fl 0 + 7) b = nI x.2.1) (h8 : C0 (ml_fl 0 + 8) b = nI x.2.2.1) (h9 : C0 (ml_fl 0 + 9) b = nI x.2.2.2.1) (m0 : N0 12 (40 + 5 * b) = nI x.1) (m1 : N0 12 (41 + 5 * b) = nI x.2.1) (m2 : N0 12 (42 + 5 * b) = nI x.2.2.1) (m3 : N0 12 (43 + 5 * b) = nI x.2.2.2.1) (hT : oT C0 N0 0) : ∃ Mc' Mm' l', l' ≤ 16 ∧ ml_bd (fX1_signOf 0 (nI b) C0) (fun r5 M6 => ml_bd (fJ4_append_cf468 r5 M6) (fun r7 M8 => if ml_ok (nI b) 8 then ml_bd (fJ4_append_bf812 (M8 (ml_fl 0 + 7) (nI b).toNatClampNeg) M8) (fun r9 M10 => if ml_ok (nI b) 8 then ml_jn (fun (y11 : Int32) => ml_bd (fJ4_append_cf468 y11 M10) (fun r14 M15 => if ml_ok (nI b) 8 then ml_bd (fJ4_append_bf812 (M15 (ml_fl 0 + 9) (nI b).toNatClampNeg) M15) (fun r16 M17 => ml_bd (fJ4_length_8abf5 M17) (fun r18 M19 => some ((Sum.inl r18, M19) : ml_R))) else none)) (fun B12 => (if (M10 (ml_fl 0 + 8) (nI b).toNatClampNeg) = 0 then B12 94 else B12 118)) else none) else none)) = some (.inl (nI l'), Mc') ∧ ml_bd (fX7_b (nI b) 0 N0) (fun r6 M7 => ml_bd (fX7_signOf r6 M7) (fun r8 M9 => ml_bd (fX7_writes r8 M9) (fun r10 M11 => ml_bd (fX7_b (nI b) 1 M11) (fun r12 M13 => ml_bd (fX7_writesNumber r12 M13) (fun r14 M15 => ml_bd (fX7_b (nI b) 2 M15) (fun r16 M17 => ml_jn (fun (y18 : Int32) => ml_bd (fX7_writes y18 M17) (fun r21 M22 => ml_bd (fX7_b (nI b) 3 M22) (fun r23 M24 => ml_bd (fX7_writesNumber r23 M24) (fun r25 M26 => some ((Sum.inl (M26 11 7), M26) : ml_R))))) (fun B19 => (if r16 = 1 then B19 118 else B19 94)))))))) = some (.inl (nI l'), Mm') ∧ oT Mc' Mm' l' ∧ gC C0 Mc' ∧ gM N0 Mm' := by
  obtain ⟨x3, d1, d9, w1, s4⟩ := hx
  have ok8 : ml_ok (nI b) 8 := ok_nI hb (by decide)
  have cb : (nI b).toNatClampNeg = b := nI_clamp (by omega)
  have f0 : ml_fl 0 = 16 := rfl
  obtain ⟨c, hc, hcs⟩ : ∃ c, c < 128 ∧ ml_cs x.1 = nI c := by
    rcases (show x.1 = 0 ∨ x.1 = 1 ∨ x.1 = 2 by omega) with h | h | h <;> rw [h]
    · exact ⟨114, by decide, rfl⟩
    · exact ⟨103, by decide, rfl⟩
    · exact ⟨98, by decide, rfl⟩
  obtain ⟨C1, R1, p1, p2, p3, p4, p5⟩ := oc hT (by decide) hc
  obtain ⟨C2, R2, l2, q0, q1, q2, q3, q4, q5⟩ := on (v := x.2.1) p3 (by decide) (by omega)
  obtain ⟨ch, hch, hcc⟩ : ∃ ch, ch = (if x.2.2.1 = 0 then 94 else 118) ∧ ch < 128 := ⟨_, rfl, by split <;> omega⟩
  obtain ⟨C3, R3, r1, r2, r3, r4, r5⟩ := oc q3 (by omega) hcc
  obtain ⟨C4, R4, l4, t0, t1, t2, t3, t4, t5⟩ := on (v := x.2.2.2.1) r3 (by omega) (by omega)
  have gc3 := (p4.tr q4).tr r4
  have gm3 := (p5.tr q5).tr r5
  refine ⟨C4, R4, l4, by omega, ?_, ?_, t3, gc3.tr t4, gm3.tr t5⟩
  · have k7 : C1 (ml_fl 0 + 7) (nI b).toNatClampNeg = nI x.2.1 := by rw [cb, p4 _ (by omega) (by omega)]; exact h7
    have k8 : C2 (ml_fl 0 + 8) (nI b).toNatClampNeg = nI x.2.2.1 := by rw [cb, (p4.tr q4) _ (by omega) (by omega)]; exact h8
    have k9 : C3 (ml_fl 0 + 9) (nI b).toNatClampNeg = nI x.2.2.2.1 := by rw [cb, gc3 _ (by omega) (by omega)]; exact h9
    rw [sg_c hb x3 h6, bd_e, hcs, p1, bd_e, if_pos ok8, k7, q1, bd_e, if_pos ok8, jn_e, k8]
    rcases (show x.2.2.1 = 0 ∨ x.2.2.1 = 1 by omega) with h0 | h0
    · rw [h0, if_pos rfl] at hch
      subst hch
      have r1' : fJ4_append_cf468 94 C2 = some (.inl 0, C3) := r1
      rw [h0, if_pos (show nI 0 = 0 from rfl)]
      dsimp only
      rw [r1', bd_e, if_pos ok8, k9, t1, bd_e, le_c t3.2.1, bd_e]
    · rw [h0, if_neg (by decide)] at hch
      subst hch
      have r1' : fJ4_append_cf468 118 C2 = some (.inl 0, C3) := r1
      rw [h0, if_neg (show ¬ nI 1 = 0 by decide)]
      dsimp only
      rw [r1', bd_e, if_pos ok8, k9, t1, bd_e, le_c t3.2.1, bd_e]
  · have y0 : fX7_b (nI b) 0 N0 = some (.inl (nI x.1), N0) := b_f (f := 0) hb (by decide) _ _ m0
    have y1 : fX7_b (nI b) 1 R1 = some (.inl (nI x.2.1), R1) := b_f (f := 1) hb (by decide) _ _ (by rw [p5.1 12 (by decide) (by decide), show 40 + 5 * b + 1 = 41 + 5 * b by omega]; exact m1)
    have y2 : fX7_b (nI b) 2 R2 = some (.inl (nI x.2.2.1), R2) := b_f (f := 2) hb (by decide) _ _ (by rw [(p5.tr q5).1 12 (by decide) (by decide), show 40 + 5 * b + 2 = 42 + 5 * b by omega]; exact m2)
    have y3 : fX7_b (nI b) 3 R3 = some (.inl (nI x.2.2.2.1), R3) := b_f (f := 3) hb (by decide) _ _ (by rw [gm3.1 12 (by decide) (by decide), show 40 + 5 * b + 3 = 43 + 5 * b by omega]; exact m3)
    rw [y0, bd_e, sg_m x3, bd_e, hcs, p2, bd_e, y1, bd_e, q2, bd_e, y2, bd_e, jn_e]
    rcases (show x.2.2.1 = 0 ∨ x.2.2.1 = 1 by omega) with h0 | h0
    · rw [h0, if_pos rfl] at hch
      subst hch
      have r2' : fX7_writes 94 R2 = some (.inl 0, R3) := r2
      rw [h0, if_neg (show ¬ nI 0 = 1 by decide)]
      dsimp only
      rw [r2', bd_e, y3, bd_e, t2, bd_e, t3.2.2.1]
    · rw [h0, if_neg (by decide)] at hch
      subst hch
      have r2' : fX7_writes 118 R2 = some (.inl 0, R3) := r2
      rw [h0, if_pos (show nI 1 = 1 from rfl)]
      dsimp only
      rw [r2', bd_e, y3, bd_e, t2, bd_e, t3.2.2.1]
theorem z_44 {n : Nat} (x1 x2 x3 : Int32) {M : ml_M} (hs : sI n M) : ∃ M9, lw_s44 x1 x2 x3 M M9 ∧ sI (n + 60) M9 := by
  obtain ⟨l, l16, o1, o2, o3, o4⟩ := id hs.2.2.2.2.2
  obtain ⟨L, hL, hC, hM, hok⟩ := rB8 hs.1
  rcases icase x1 (l := L.length) (by omega) with ⟨b, hb, rfl, hi⟩ | ⟨ho, hi⟩
  · obtain ⟨x, hx, hxm⟩ := b_at hb
    obtain ⟨C0, s1, s2, s3, s4⟩ := sl_c o1 o2 l16
    have f0 : ml_fl 0 = 16 := rfl
    obtain ⟨g6, g7, g8, g9, -⟩ := hC.2 b x hx
    obtain ⟨k0, k1, k2, k3, -⟩ := hM.2 b x hx
    have run := fun (N : ml_M) (hN : N 12 = M 12) => rb_l (b := b) (x := x) (by omega) (hok x hxm) (C0 := C0) (N0 := ml_w N 11 7 0) (by rw [s4 _ (by omega) (by omega)]; exact g6) (by rw [s4 _ (by omega) (by omega)]; exact g7) (by rw [s4 _ (by omega) (by omega)]; exact g8) (by rw [s4 _ (by omega) (by omega)]; exact g9) (by rw [ml_w_ne (by decide), hN]; exact k0) (by rw [ml_w_ne (by decide), hN]; exact k1) (by rw [ml_w_ne (by decide), hN]; exact k2) (by rw [ml_w_ne (by decide), hN]; exact k3) (oT.new s2 s3 w_at)
    obtain ⟨C1, R0, l1, a1, a2, a3, a4, a5, a6⟩ := run M rfl
    have a12 : C1 12 = M 12 := by rw [a5 12 (by decide) (by decide), s4 12 (by decide) (by decide)]
    obtain ⟨C2, R, l2, b1, b2, b3, b4, b5, b6⟩ := run (ml_w (ml_w C1 181 0 (nI l1)) 11 0 0) (by rw [ml_w_ne (by decide), ml_w_ne (by decide)]; exact a12)
    rw [a2] at b2
    have e9 := Option.some.inj b2
    have el : nI l1 = nI l2 := Sum.inl.inj (Prod.mk.inj e9).1
    have eC : C1 = C2 := (Prod.mk.inj e9).2
    subst eC
    refine ⟨R, ⟨0, nI l1, ml_w C1 181 0 (nI l1), R, ?_, ?_, ?_, fun _ => ?_⟩, sI_text (M1 := C1) (x := nI l1) (t := 0) hs b4 b1 (s4.tr b5) b6⟩
    · unfold fL_renderBoat fX6_renderBoat
      rw [nt_1 hb (by omega) hC.1, bd_e, s1, bd_e, a2]
      rfl
    · unfold fX7_renderBoat
      rw [ib_1 hi (by rw [ml_w_ne (by decide), a12]; exact hM.1), bd_e, fine1, bd_e, if_1, lt_e, b3, el]
    · rw [th_m, b6.2 0 (by decide), w_off (by omega), w_at]
    · rw [b6.1 181 (by decide) (by decide), ml_w_ne (by decide), ml_w_ne (by decide), w_at]
  · refine ⟨ml_w M 11 0 1, ⟨1, 0, M, ml_w M 11 0 1, ?_, ?_, by rw [th_m, w_at], fun z => absurd z (by decide)⟩, (hs.scr eqS.thr).mono (Nat.le_add_right n 60)⟩
    · unfold fL_renderBoat fX6_renderBoat
      rw [nt_0 ho hC.1, bd_x]
      rfl
    · unfold fX7_renderBoat
      rw [ib_0 hi hM.1, bd_e, fine0, bd_e, if_0]
theorem z_45 {n : Nat} (x1 x2 x3 : Int32) {M : ml_M} (hs : sI n M) : ∃ M9, lw_s45 x1 x2 x3 M M9 ∧ sI (n + 60) M9 := by
  obtain ⟨l, l16, o1, o2, o3, o4⟩ := id hs.2.2.2.2.2
  obtain ⟨k, b, M1, M2, M9, a1, a2, a3, a4, a5⟩ := pr_e (cat := fun e => if e = 1 then 1 else 0) (F := fX6_outputAt x1) (G := fX7_outputAt x1) hs (fun Mm h => by
    have e7 : Mm 11 7 = nI l := (h 11 7 (by unfold Ds; omega)).trans o3
    rcases icase x1 (l := l) (by omega) with ⟨b, hb, rfl, hi⟩ | ⟨ho, hi⟩
    · obtain ⟨c, hc, c1, c2⟩ := o4 b hb
      have e13 : ml_w Mm 11 0 0 13 b = nI c := by rw [ml_w_ne (by decide)]; exact (h 13 b (by unfold Ds; omega)).trans c2
      have hlt : nI b < nI l := (nI_ltI (by omega) (by omega)).mpr hb
      have nlt : ¬ nI b < 0 := nI_pos (by omega)
      have ok16 : ml_ok (nI b) 16 := ok_nI (by omega) (by decide)
      have ok40 : ml_ok (nI b) 40 := ok_nI (by omega) (by decide)
      have cb : (nI b).toNatClampNeg = b := nI_clamp (by omega)
      have ev : (if (16 : Int32) >>> (M 9 1 &&& 31) < M 9 3 then (16 : Int32) >>> (M 9 1 &&& 31) else M 9 3) = nI l := by
        rw [o1, o2, show (16 : Int32) >>> (0 &&& 31) = 16 by decide, if_neg (show ¬ (16 : Int32) < nI l from fun z => by have := (nI_ltI (a := 16) (by decide) (by omega)).mp z; omega)]
      have ec : fJ4_charAt_5068e (nI b) M = some (.inl (nI c), M) := by
        unfold fJ4_charAt_5068e fJ5_charAt_5068e fJ0_checkIndex_df160 fJ3_checkIndex_8e157
        rw [ev, lt_e, if_neg nlt, if_pos hlt, bd_e, bd_e, if_pos o1, if_pos ok16, cb, c1, ch_b c hc, if_pos (ch_n c hc), bd_e, if_pos (ch_n c hc)]
      refine Or.inl ⟨nI c, M, ml_w Mm 11 0 0, ?_, ?_, w_at, eqS.rf, eqS.thr, ml_w_ne (by decide)⟩
      · unfold fX6_outputAt
        rw [if_neg nlt, le_c o2, bd_e, if_pos hlt, ec, bd_e, if_pos (ch_n c hc)]
      · unfold fX7_outputAt
        rw [e7, hi, bd_e, fine1, bd_e, jn_e, if_1, if_pos ok40, cb, e13]
        exact if_pos (ch_n c hc)
    · refine PR.same (e := 1) (by decide) ?_ ?_
      · unfold fX6_outputAt
        rcases ho with ho | ⟨h1, h2⟩
        · rw [if_pos ho]
        · rw [if_neg h1, le_c o2, bd_e, if_neg h2]
      · unfold fX7_outputAt
        rw [e7, hi, bd_e, fine0, bd_e, jn_e, if_0]
        exact nbc0)
  exact ⟨M9, ⟨k, b, M1, M2, a1, a2, a3, a4⟩, a5⟩
