/-! Fractions: none of them is a NaN. -/
set_option maxRecDepth 100000 in
theorem fp_10 : ∀ v < 401, (FP.ddiv (FP.i2d (nI v)) (FP.i2d (nI 10))) &&& 0x7fffffffffffffff ≤ 0x7ff0000000000000 := by decide +kernel
set_option maxRecDepth 100000 in
theorem fp_6 : ∀ v < 401, (FP.ddiv (FP.i2d (nI v)) (FP.i2d (nI 6))) &&& 0x7fffffffffffffff ≤ 0x7ff0000000000000 := by decide +kernel
set_option maxRecDepth 100000 in
theorem fp_m : ∀ s < 1600, (FP.fdiv (FP.i2f (nI s)) 1108869120) &&& 0x7fffffff ≤ 0x7f800000 := by decide +kernel
set_option maxRecDepth 100000 in
theorem fp_n : ∀ s < 1600, (FP.f2d (FP.fdiv (FP.i2f (nI s)) (FP.i2f 38))) &&& 0x7fffffffffffffff ≤ 0x7ff0000000000000 := by decide +kernel
theorem fp_a {k v : Nat} (hv : v < 401) : (FP.ddiv (FP.i2d (nI v)) (FP.i2d (nI (ar k)))) &&& 0x7fffffffffffffff ≤ 0x7ff0000000000000 := by
  unfold ar
  split
  · exact fp_10 v hv
  · split
    · exact fp_10 v hv
    · exact fp_6 v hv
theorem z_10 {n : Nat} (x1 x2 x3 : Int32) {M : ml_M} (hs : sI n M) : ∃ M9, lw_s10 x1 x2 x3 M M9 ∧ sI (n + 60) M9 := by
  rcases bcase x1 with ⟨k, hk, rfl⟩ | ho
  · obtain ⟨v, hv⟩ := rV hs.1
    obtain ⟨i1, i2, i3⟩ := ix11 hk
    have ok5 : ml_ok (nI k) 5 := ok_nI hk (by decide)
    have ck : (nI k).toNatClampNeg = k := nI_clamp (by omega)
    have hl : v k < 401 := by have := (hv k hk).2.2; have := lim_le k; omega
    have hc : fX6_exactLevel (nI k) M = some (.inl 0, ml_w (ml_w M 200 0 (nI (v k))) 200 1 (nI (ar k))) := by
      simp only [fX6_exactLevel, nb_c hk, bd_e, if_pos ok5, wa_c hk, ck, (hv k hk).2.1, if_pos (fp_a hl)]
    obtain ⟨M1, hM1⟩ : ∃ z, z = ml_w (ml_w (ml_w (ml_w M 200 0 (nI (v k))) 200 1 (nI (ar k))) 182 0 (nI (v k))) 182 1 (nI (ar k)) := ⟨_, rfl⟩
    have m12 : ∀ x, ml_w M1 11 0 x 12 = M 12 := fun x => by rw [t11, hM1, ml_w_ne (by decide), ml_w_ne (by decide), ml_w_ne (by decide), ml_w_ne (by decide)]
    have hm : fX7_exactLevel (nI k) M1 = some (.inl 0, ml_w (ml_w (ml_w M1 11 0 0) 200 0 (nI (v k))) 200 1 (nI (ar k))) := by
      simp only [fX7_exactLevel, bs_m1 hk, bd_e, fine1, if_1, i1, if_pos i2, i3, wa_m hk, m12, (hv k hk).1, if_pos (fp_a hl)]
    refine ⟨_, ⟨0, 0, M1, _, ?_, hm, by rw [th_m, ml_w_ne (by decide), ml_w_ne (by decide), w_at], fun _ => ⟨?_, ?_⟩⟩, (hs.scr ?_).mono (Nat.le_add_right n 60)⟩
    · unfold fL_exactLevel
      rw [hc]
      show some ((Sum.inl 0, lw_pd 0 (ml_w (ml_w M 200 0 (nI (v k))) 200 1 (nI (ar k)))) : ml_R) = _
      unfold lw_pd
      rw [w_un (show 0 ≠ 1 by decide), w_at, w_at, hM1]
    · rw [ml_w_ne (by decide), ml_w_ne (by decide), ml_w_ne (by decide), hM1, w_un (by decide), w_at, w_un (by decide), w_at]
    · rw [ml_w_ne (by decide), ml_w_ne (by decide), ml_w_ne (by decide), hM1, w_at, w_at]
    · rw [hM1]
      exact ((((((eqS.rf.w (by unfold Ds; omega)).w (by unfold Ds; omega)).w (by unfold Ds; omega)).w (by unfold Ds; omega)).w (by unfold Ds; omega)).w (by unfold Ds; omega)).w (by unfold Ds; omega)
  · refine ⟨_, ⟨1, 0, M, ml_w (ml_w (ml_w M 11 0 1) 200 0 0) 200 1 1, ?_, ?_, by rw [th_m, ml_w_ne (by decide), ml_w_ne (by decide), w_at], fun z => absurd z (by decide)⟩, (hs.scr (((eqS.rf.w (by unfold Ds; omega)).w (by unfold Ds; omega)).w (by unfold Ds; omega))).mono (Nat.le_add_right n 60)⟩
    · unfold fL_exactLevel fX6_exactLevel
      rw [(ho M).1, bd_x]
      rfl
    · simp only [fX7_exactLevel, (ho M).2, bd_e, fine0, if_0, if_T]
theorem wsum_n {V : Nat → Int32} {v : Nat → Nat} (h : ∀ j, j < 5 → V j = nI (v j)) : wsum V = nI (v 0 + v 1 + v 2 + v 3 + v 4) := by
  unfold wsum
  rw [h 0 (by decide), h 1 (by decide), h 2 (by decide), h 3 (by decide), h 4 (by decide), Int32.zero_add, nI_add, nI_add, nI_add, nI_add]
theorem z_41 {n : Nat} (x1 x2 x3 : Int32) {M : ml_M} (hs : sI n M) : ∃ M9, lw_s41 x1 x2 x3 M M9 ∧ sI (n + 60) M9 := by
  obtain ⟨v, hv⟩ := rV hs.1
  have e := wsum_n (V := M (ml_fl 0 + 2)) (v := v) (fun j hj => (hv j hj).2.1)
  obtain ⟨s, hsm⟩ : ∃ s, s = v 0 + v 1 + v 2 + v 3 + v 4 := ⟨_, rfl⟩
  rw [← hsm] at e
  have hl : s < 1600 := by
    have h0 := (hv 0 (by decide)).2.2
    have h1 := (hv 1 (by decide)).2.2
    have h2 := (hv 2 (by decide)).2.2
    have h3 := (hv 3 (by decide)).2.2
    have h4 := (hv 4 (by decide)).2.2
    simp [lim, ar] at h0 h1 h2 h3 h4
    omega
  have hc : fX6_meanLevel M = some (.inl 0, ml_w (ml_w M 200 0 (nI s)) 200 1 38) := by
    unfold fX6_meanLevel
    rw [sv_c, bd_e, e, if_pos (fp_m s hl)]
  obtain ⟨M1, hM1⟩ : ∃ z, z = ml_w (ml_w M 200 0 (nI s)) 200 1 38 := ⟨_, rfl⟩
  have m12 : M1 12 = M 12 := by rw [hM1, ml_w_ne (by decide), ml_w_ne (by decide)]
  have hk : fk n M 0 M1 := hs.1.ofm (fun q hq => by rw [m12])
  have hm : fX7_meanLevel M1 = some (.inl 0, ml_w (ml_w (ml_w M1 11 0 0) 200 0 (nI s)) 200 1 38) := by
    unfold fX7_meanLevel
    rw [lt_e, su_m, bd_e, t11, wsum_e hk, e, if_pos (fp_m s hl)]
  refine ⟨_, ⟨0, 0, M1, by rw [hc, hM1], hm, ?_, ?_⟩, (hs.scr ?_).mono (Nat.le_add_right n 60)⟩
  · rw [w_un (by decide), w_at, hM1, w_un (by decide), w_at]
  · rw [w_un (by decide), w_at]
    exact fp_n s hl
  · rw [hM1]
    exact ((((eqS.rf.w (by unfold Ds; omega)).w (by unfold Ds; omega)).w (by unfold Ds; omega)).w (by unfold Ds; omega)).w (by unfold Ds; omega)
