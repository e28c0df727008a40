/-! Calls that only read: the water's. -/
def RD (cat : Nat → Int32) (f g : Option ml_R) (Mc Mm : ml_M) : Prop := (∃ r, f = some (.inl r, Mc) ∧ g = some (.inl r, ml_w Mm 11 0 0)) ∨ (∃ e, cat e ≠ 0 ∧ f = some (.inr e, Mc) ∧ g = some (.inl 0, ml_w Mm 11 0 (cat e)))
theorem eqS.thr {M : ml_M} {x : Int32} : eqS M (ml_w M 11 0 x) := eqS.rf.w (by unfold Ds; omega)
theorem eqS.out {M : ml_M} {x y : Int32} : eqS M (ml_w (ml_w M 181 0 x) 11 0 y) := (eqS.rf.w (by unfold Ds; omega)).w (by unfold Ds; omega)
theorem fk.out {n : Nat} {M : ml_M} {x : Int32} (h : fk n M 0 M) : fk n M 0 (ml_w M 181 0 x) := h.ofm (fun q hq => by rw [ml_w_ne (by decide)])
theorem rd_g {n : Nat} {M : ml_M} {cat : Nat → Int32} {F G : ml_M → Option ml_R} (pf : Int32 → Int32) (hs : sI n M) (h : ∀ Mm, fk n M 0 Mm → RD cat (F M) (G Mm) M Mm) : ∃ (k9 b9 : Int32) (M1 M2 M9 : ml_M), lw_wr (fun r M => ml_w M 181 0 (pf r)) cat (F M) = some (.inl k9, M1) ∧ G M1 = some (.inl b9, M2) ∧ fX7_thrown M2 = some (.inl k9, M9) ∧ (k9 = 0 → M9 181 0 = pf b9) ∧ sI (n + 60) M9 := by
  rcases h M hs.1 with ⟨r, hf, hg⟩ | ⟨e, he, hf, hg⟩
  · rcases h (ml_w M 181 0 (pf r)) hs.1.out with ⟨r', hf', hg'⟩ | ⟨e, he, hf', hg'⟩
    · rw [hf] at hf'
      have er : r = r' := Sum.inl.inj (Prod.mk.inj (Option.some.inj hf')).1
      subst er
      refine ⟨0, r, ml_w M 181 0 (pf r), _, _, by rw [hf]; rfl, hg', by rw [th_m, w_at], fun _ => by rw [ml_w_ne (by decide), w_at], (hs.scr eqS.out).mono (Nat.le_add_right n 60)⟩
    · rw [hf] at hf'
      cases hf'
  · refine ⟨cat e, 0, M, _, _, ?_, hg, by rw [th_m, w_at], fun z => absurd z he, (hs.scr eqS.thr).mono (Nat.le_add_right n 60)⟩
    rw [hf]
    show (if cat e = 0 then none else some ((Sum.inl (cat e), M) : ml_R)) = _
    rw [if_neg he]
theorem rd_n {n : Nat} {M : ml_M} {F G : ml_M → Option ml_R} (hs : sI n M) (h : ∃ r, F M = some (.inl r, M) ∧ G M = some (.inl r, ml_w M 11 0 0)) : ∃ (r9 : Int32) (M1 M9 : ml_M), F M = some (.inl r9, M1) ∧ G M1 = some (.inl r9, M9) ∧ sI (n + 60) M9 := by
  obtain ⟨r, h1, h2⟩ := h
  exact ⟨r, M, _, h1, h2, (hs.scr eqS.thr).mono (Nat.le_add_right n 60)⟩
theorem if_T {α : Type} {d : Decidable True} {a b : α} : @ite α True d a b = a := if_pos trivial
theorem if_F {α : Type} {d : Decidable False} {a b : α} : @ite α False d a b = b := if_neg (fun z => z)
theorem fine1 (M : ml_M) : fX7_isFine 1 M = some (.inl 1, ml_w M 11 0 0) := rfl
theorem fine0 (M : ml_M) : fX7_isFine 0 M = some (.inl 0, ml_w M 11 0 1) := rfl
theorem nbi0 {α : Type} {a b : α} : (if narrow .boolean (.int 0) = .int 0 then a else b) = a := if_pos (nbool (Or.inl rfl))
theorem nbi1 {α : Type} {a b : α} : (if narrow .boolean (.int 1) = .int 1 then a else b) = a := if_pos (nbool (Or.inr rfl))
def c1 (e : Nat) : Int32 := if e = 1 then 1 else 0
theorem RD.bad1 {f g : Option ml_R} {Mc Mm : ml_M} (hf : f = some (.inr 1, Mc)) (hg : g = some (.inl 0, ml_w Mm 11 0 1)) : RD (fun e => if e = 1 then 1 else 0) f g Mc Mm := Or.inr ⟨1, by decide, hf, hg⟩
/-- a reader of a basin: out of its range, and in it -/
theorem ar_nz (k : Nat) : ¬ (nI (ar k) = 0) := nI_ne0 (by have := ar_ge k; omega) (by have := ar_le k; omega)
theorem t11 {M : ml_M} {x : Int32} : ml_w M 11 0 x 12 = M 12 := ml_w_ne (by decide)
theorem z_7 {n : Nat} (x1 x2 x3 : Int32) {M : ml_M} (hs : sI n M) : ∃ M9, lw_s7 x1 x2 x3 M M9 ∧ sI (n + 60) M9 := by
  obtain ⟨k, b, M1, M2, M9, a1, a2, a3, a4, a5⟩ := rd_g (cat := fun e => if e = 1 then 1 else 0) (F := fX6_area x1) (G := fX7_area x1) id hs (fun Mm h => by
    rcases bcase x1 with ⟨k, hk, rfl⟩ | ho
    · exact Or.inl ⟨nI (ar k), by simp only [fX6_area, nb_c hk, bd_e, wa_c hk], by simp only [fX7_area, bs_m1 hk, bd_e, jn_e, fine1, if_1, wa_m hk]⟩
    · exact RD.bad1 (by simp only [fX6_area, (ho M).1, bd_x]) (by simp only [fX7_area, (ho Mm).2, bd_e, jn_e, fine0, if_0, if_T]))
  exact ⟨M9, ⟨k, b, M1, M2, a1, a2, a3, a4⟩, a5⟩
theorem rV {n : Nat} {Mc Mm : ml_M} (h : fk n Mc 0 Mm) : ∃ v : Nat → Nat, ∀ j, j < 5 → Mm 12 (11 + j) = nI (v j) ∧ Mc (ml_fl 0 + 2) j = nI (v j) ∧ v j ≤ lim j := by
  obtain ⟨L, a, ⟨⟨v, o, g, r, d, hA, -⟩, -⟩, -⟩ := h
  exact ⟨v, fun j hj => ⟨hA.2.1 j hj, (hA.1 j hj).1, (hA.1 j hj).2⟩⟩
theorem ix11 {k : Nat} (hk : k < 5) : (11 : Int32) + nI k = nI (11 + k) ∧ ml_ok (nI (11 + k)) 960 ∧ (nI (11 + k)).toNatClampNeg = 11 + k := ⟨nIl 11 k, ok_nI (by omega) (by decide), nI_clamp (by omega)⟩
theorem z_8 {n : Nat} (x1 x2 x3 : Int32) {M : ml_M} (hs : sI n M) : ∃ M9, lw_s8 x1 x2 x3 M M9 ∧ sI (n + 60) M9 := by
  obtain ⟨k, b, M1, M2, M9, a1, a2, a3, a4, a5⟩ := rd_g (cat := fun e => if e = 1 then 1 else 0) (F := fX6_volume x1) (G := fX7_volume x1) id hs (fun Mm h => by
    rcases bcase x1 with ⟨k, hk, rfl⟩ | ho
    · obtain ⟨v, hv⟩ := rV h
      obtain ⟨i1, i2, i3⟩ := ix11 hk
      have ok5 : ml_ok (nI k) 5 := ok_nI hk (by decide)
      have ck : (nI k).toNatClampNeg = k := nI_clamp (by omega)
      exact Or.inl ⟨nI (v k), by simp only [fX6_volume, nb_c hk, bd_e, if_pos ok5, ck, (hv k hk).2.1], by simp only [fX7_volume, bs_m1 hk, bd_e, jn_e, fine1, if_1, i1, if_pos i2, i3, t11, (hv k hk).1]⟩
    · exact RD.bad1 (by simp only [fX6_volume, (ho M).1, bd_x]) (by simp only [fX7_volume, (ho Mm).2, bd_e, jn_e, fine0, if_0, if_T]))
  exact ⟨M9, ⟨k, b, M1, M2, a1, a2, a3, a4⟩, a5⟩
theorem rl_c {k v : Nat} {Mc : ml_M} (hk : k < 5) (hv : Mc (ml_fl 0 + 2) k = nI v) : fX5_roundedLevel 0 (nI k) Mc = some (.inl (nI v / nI (ar k)), Mc) := by
  have ok5 : ml_ok (nI k) 5 := ok_nI hk (by decide)
  have ck : (nI k).toNatClampNeg = k := nI_clamp (by omega)
  unfold fX5_roundedLevel
  simp only [if_pos ok5, wa_c hk, bd_e, ck, hv, if_pos (ar_nz k)]
theorem z_9 {n : Nat} (x1 x2 x3 : Int32) {M : ml_M} (hs : sI n M) : ∃ M9, lw_s9 x1 x2 x3 M M9 ∧ sI (n + 60) M9 := by
  obtain ⟨k, b, M1, M2, M9, a1, a2, a3, a4, a5⟩ := rd_g (cat := fun e => if e = 1 then 1 else 0) (F := fX6_level x1) (G := fX7_level x1) id hs (fun Mm h => by
    rcases bcase x1 with ⟨k, hk, rfl⟩ | ho
    · obtain ⟨v, hv⟩ := rV h
      obtain ⟨i1, i2, i3⟩ := ix11 hk
      exact Or.inl ⟨nI (v k) / nI (ar k), by simp only [fX6_level, nb_c hk, bd_e, rl_c hk (hv k hk).2.1], by simp only [fX7_level, bs_m1 hk, bd_e, jn_e, fine1, if_1, i1, if_pos i2, i3, t11, (hv k hk).1, wa_m hk, if_pos (ar_nz k)]⟩
    · exact RD.bad1 (by simp only [fX6_level, (ho M).1, bd_x]) (by simp only [fX7_level, (ho Mm).2, bd_e, jn_e, fine0, if_0, if_T]))
  exact ⟨M9, ⟨k, b, M1, M2, a1, a2, a3, a4⟩, a5⟩
theorem wd_congr {V W : Nat → Int32} {a b : Nat} (h1 : V a = W a) (h2 : V b = W b) : wd V a b = wd W a b := by
  unfold wd
  rw [h1, h2]
theorem z_11 {n : Nat} (x1 x2 x3 : Int32) {M : ml_M} (hs : sI n M) : ∃ M9, lw_s11 x1 x2 x3 M M9 ∧ sI (n + 60) M9 := by
  obtain ⟨k, b, M1, M2, M9, a1, a2, a3, a4, a5⟩ := rd_g (cat := fun e => if e = 1 then 1 else 0) (F := fX6_isHigher x1 x2) (G := fX7_isHigher x1 x2) (fun r => if r = 0 then 0 else 1) hs (fun Mm h => by
    rcases bcase x1 with ⟨k, hk, rfl⟩ | ho
    · rcases bcase x2 with ⟨k2, hk2, rfl⟩ | ho2
      · obtain ⟨v, hv⟩ := rV h
        have e : wd (fun j => (ml_w Mm 11 0 0) 12 (11 + j)) k k2 = wd (M (ml_fl 0 + 2)) k k2 := wd_congr (by rw [t11]; exact (hv k hk).1.trans (hv k hk).2.1.symm) (by rw [t11]; exact (hv k2 hk2).1.trans (hv k2 hk2).2.1.symm)
        by_cases hw : wd (M (ml_fl 0 + 2)) k k2 ≤ 0
        · exact Or.inl ⟨0, by simp only [fX6_isHigher, nb_c hk, nb_c hk2, bd_e, jn_e, wd_c hk hk2, if_pos hw, nbi0], by simp only [fX7_isHigher, bs_m1 hk, bs_m1 hk2, bd_e, jn_e, fine1, if_1, wd_m hk hk2, e, if_pos hw, nbi0]⟩
        · exact Or.inl ⟨1, by simp only [fX6_isHigher, nb_c hk, nb_c hk2, bd_e, jn_e, wd_c hk hk2, if_neg hw, nbi1], by simp only [fX7_isHigher, bs_m1 hk, bs_m1 hk2, bd_e, jn_e, fine1, if_1, wd_m hk hk2, e, if_neg hw, nbi1]⟩
      · exact RD.bad1 (by simp only [fX6_isHigher, nb_c hk, bd_e, (ho2 M).1, bd_x]) (by simp only [fX7_isHigher, bs_m1 hk, if_1, (ho2 Mm).2, bd_e, jn_e, fine0, if_0, if_T, nbi0])
    · exact RD.bad1 (by simp only [fX6_isHigher, (ho M).1, bd_x]) (by simp only [fX7_isHigher, (ho Mm).2, bd_e, jn_e, fine0, if_0, if_T, nbi0]))
  exact ⟨M9, ⟨k, b, M1, M2, a1, a2, a3, a4⟩, a5⟩
theorem ng_c {k : Nat} (h : k < 4) (M : ml_M) : fX6_needGate (nI k) M = some (.inl 0, M) := by
  unfold fX6_needGate
  rw [gt_c1 h, bd_l, if_1]
theorem ng_x {a : Int32} {M : ml_M} (h : fX6_isGate a M = some (.inl 0, M)) : fX6_needGate a M = some (.inr 1, M) := by
  unfold fX6_needGate
  rw [h, bd_l, if_0]
theorem wqe {n : Nat} {Mc Mm : ml_M} (h : fk n Mc 0 Mm) {k : Nat} (hk : k < 4) (x : Int32) : wq (fun j => (ml_w Mm 11 0 x) 12 (11 + j)) k = wq (Mc (ml_fl 0 + 2)) k := by
  obtain ⟨v, hv⟩ := rV h
  exact wq_congr (by rw [t11]; exact (hv k (by omega)).1.trans (hv k (by omega)).2.1.symm) (by rw [t11]; exact (hv (k + 1) (by omega)).1.trans (hv (k + 1) (by omega)).2.1.symm)
theorem z_12 {n : Nat} (x1 x2 x3 : Int32) {M : ml_M} (hs : sI n M) : ∃ M9, lw_s12 x1 x2 x3 M M9 ∧ sI (n + 60) M9 := by
  obtain ⟨k, b, M1, M2, M9, a1, a2, a3, a4, a5⟩ := rd_g (cat := fun e => if e = 1 then 1 else 0) (F := fX6_equalizingAmount x1) (G := fX7_equalizingAmount x1) id hs (fun Mm h => by
    rcases gcase x1 with ⟨k, hk, rfl⟩ | ho
    · exact Or.inl ⟨wq (M (ml_fl 0 + 2)) k, by simp only [fX6_equalizingAmount, ng_c hk, bd_e, wq_c hk], by simp only [fX7_equalizingAmount, gt_m1 hk, bd_e, jn_e, fine1, if_1, wq_m hk, wqe h hk]⟩
    · exact RD.bad1 (by simp only [fX6_equalizingAmount, ng_x (ho M).1, bd_x]) (by simp only [fX7_equalizingAmount, (ho Mm).2, bd_e, jn_e, fine0, if_0, if_T]))
  exact ⟨M9, ⟨k, b, M1, M2, a1, a2, a3, a4⟩, a5⟩
theorem rO {n : Nat} {Mc Mm : ml_M} (h : fk n Mc 0 Mm) : ∃ o g : Nat → Nat, ∀ j, j < 4 → (Mm 12 (16 + j) = nI (o j) ∧ Mc (ml_fl 0 + 3) j = nI (o j) ∧ o j ≤ 3) ∧ Mm 12 (20 + j) = nI (g j) ∧ Mc (ml_fl 0 + 4) j = nI (g j) ∧ g j ≤ 1 := by
  obtain ⟨L, a, ⟨⟨v, o, g, r, d, hA, -⟩, -⟩, -⟩ := h
  exact ⟨o, g, fun j hj => ⟨⟨(hA.2.2.1 j hj).2.2, (hA.2.2.1 j hj).1, (hA.2.2.1 j hj).2.1⟩, (hA.2.2.2.1 j hj).2.2, (hA.2.2.2.1 j hj).1, (hA.2.2.2.1 j hj).2.1⟩⟩
theorem ix16 {k : Nat} (hk : k < 4) : (16 : Int32) + nI k = nI (16 + k) ∧ ml_ok (nI (16 + k)) 960 ∧ (nI (16 + k)).toNatClampNeg = 16 + k := ⟨nIl 16 k, ok_nI (by omega) (by decide), nI_clamp (by omega)⟩
theorem ix20 {k : Nat} (hk : k < 4) : (20 : Int32) + nI k = nI (20 + k) ∧ ml_ok (nI (20 + k)) 960 ∧ (nI (20 + k)).toNatClampNeg = 20 + k := ⟨nIl 20 k, ok_nI (by omega) (by decide), nI_clamp (by omega)⟩
theorem z_14 {n : Nat} (x1 x2 x3 : Int32) {M : ml_M} (hs : sI n M) : ∃ M9, lw_s14 x1 x2 x3 M M9 ∧ sI (n + 60) M9 := by
  obtain ⟨k, b, M1, M2, M9, a1, a2, a3, a4, a5⟩ := rd_g (cat := fun e => if e = 1 then 1 else 0) (F := fX6_opening x1) (G := fX7_opening x1) id hs (fun Mm h => by
    rcases gcase x1 with ⟨k, hk, rfl⟩ | ho
    · obtain ⟨o, g, hO⟩ := rO h
      obtain ⟨i1, i2, i3⟩ := ix16 hk
      have ok5 : ml_ok (nI k) 4 := ok_nI hk (by decide)
      have ck : (nI k).toNatClampNeg = k := nI_clamp (by omega)
      exact Or.inl ⟨nI (o k), by simp only [fX6_opening, ng_c hk, bd_e, if_pos ok5, ck, (hO k hk).1.2.1], by simp only [fX7_opening, gt_m1 hk, bd_e, jn_e, fine1, if_1, i1, if_pos i2, i3, t11, (hO k hk).1.1]⟩
    · exact RD.bad1 (by simp only [fX6_opening, ng_x (ho M).1, bd_x]) (by simp only [fX7_opening, (ho Mm).2, bd_e, jn_e, fine0, if_0, if_T]))
  exact ⟨M9, ⟨k, b, M1, M2, a1, a2, a3, a4⟩, a5⟩
theorem nbi {α : Type} {w : Nat} {a b : α} (h : w ≤ 1) : (if narrow .boolean (.int (nI w)) = .int (nI w) then a else b) = a := if_pos (nbool (by rcases (show w = 0 ∨ w = 1 by omega) with rfl | rfl; exact Or.inl rfl; exact Or.inr rfl))
theorem if_b {w : Nat} (h : w ≤ 1) {a b : Option ml_R} : (if nI w = 1 then a else b) = if w = 1 then a else b := by
  rcases (show w = 0 ∨ w = 1 by omega) with rfl | rfl <;> rfl
theorem z_15 {n : Nat} (x1 x2 x3 : Int32) {M : ml_M} (hs : sI n M) : ∃ M9, lw_s15 x1 x2 x3 M M9 ∧ sI (n + 60) M9 := by
  obtain ⟨k, b, M1, M2, M9, a1, a2, a3, a4, a5⟩ := rd_g (cat := fun e => if e = 1 then 1 else 0) (F := fX6_isOpen x1) (G := fX7_isOpen x1) (fun r => if r = 0 then 0 else 1) hs (fun Mm h => by
    rcases gcase x1 with ⟨k, hk, rfl⟩ | ho
    · obtain ⟨o, g, hO⟩ := rO h
      obtain ⟨i1, i2, i3⟩ := ix20 hk
      have ok5 : ml_ok (nI k) 4 := ok_nI hk (by decide)
      have ck : (nI k).toNatClampNeg = k := nI_clamp (by omega)
      have hg := (hO k hk).2.2.2
      refine Or.inl ⟨nI (g k), by simp only [fX6_isOpen, ng_c hk, bd_e, if_pos ok5, ck, (hO k hk).2.2.1, nbi hg], ?_⟩
      simp only [fX7_isOpen, gt_m1 hk, bd_e, jn_e, fine1, if_1, i1, if_pos i2, i3, t11, (hO k hk).2.1, if_b hg, nbi0, nbi1]
      rcases (show g k = 0 ∨ g k = 1 by omega) with h0 | h0 <;> rw [h0] <;> rfl
    · exact RD.bad1 (by simp only [fX6_isOpen, ng_x (ho M).1, bd_x]) (by simp only [fX7_isOpen, (ho Mm).2, bd_e, jn_e, fine0, if_0, if_T, nbi0]))
  exact ⟨M9, ⟨k, b, M1, M2, a1, a2, a3, a4⟩, a5⟩
theorem z_16 {n : Nat} (x1 x2 x3 : Int32) {M : ml_M} (hs : sI n M) : ∃ M9, lw_s16 x1 x2 x3 M M9 ∧ sI (n + 60) M9 := by
  obtain ⟨k, b, M1, M2, M9, a1, a2, a3, a4, a5⟩ := rd_g (cat := fun e => if e = 1 then 1 else 0) (F := fX6_flow x1) (G := fX7_flow x1) id hs (fun Mm h => by
    rcases gcase x1 with ⟨k, hk, rfl⟩ | ho
    · obtain ⟨o, g, hO⟩ := rO h
      obtain ⟨v, hv⟩ := rV h
      have e := wfl_c (i := 0) (M := M) hk (hO k hk).1.2.2 (hO k hk).1.2.1
      have e2 := wfl_m hk (ml_w Mm 11 0 0)
      rw [t11, (hO k hk).1.1, (hO k hk).2.1, wfl_congr (V := fun j => Mm 12 (11 + j)) (W := M (ml_fl 0 + 2)) ((hv k (by omega)).1.trans (hv k (by omega)).2.1.symm) ((hv (k + 1) (by omega)).1.trans (hv (k + 1) (by omega)).2.1.symm)] at e2
      rw [(hO k hk).1.2.1, (hO k hk).2.2.1] at e
      exact Or.inl ⟨_, by simp only [fX6_flow, ng_c hk, bd_e, e]; rfl, by simp only [fX7_flow, gt_m1 hk, bd_e, jn_e, fine1, if_1, e2]⟩
    · exact RD.bad1 (by simp only [fX6_flow, ng_x (ho M).1, bd_x]) (by simp only [fX7_flow, (ho Mm).2, bd_e, jn_e, fine0, if_0, if_T]))
  exact ⟨M9, ⟨k, b, M1, M2, a1, a2, a3, a4⟩, a5⟩
theorem to_m {q : Nat} (hq : q < 80) (M : ml_M) : fX7_told (nI q) M = some (.inl (M 12 q), ml_w M 11 0 0) := by
  unfold fX7_told
  rw [lt_e, if_pos (ok_nI (by omega) (by decide)), nI_clamp (by omega), t11]
theorem z_17 {n : Nat} (x1 x2 x3 : Int32) {M : ml_M} (hs : sI n M) : ∃ M9, lw_s17 x1 x2 x3 M M9 ∧ sI (n + 60) M9 := by
  obtain ⟨L, a, ⟨⟨v, o, g, r, d, hA, hB, hS⟩, hE, -⟩, -⟩ := id hs.1
  obtain ⟨b, M1, M9, a1, a2, a3⟩ := rd_n (F := fX6_rain) (G := fX7_rain) hs ⟨M (ml_fl 0 + 1) 3, rfl, by
    have e : fX7_told 1 M = _ := to_m (q := 1) (by decide) M
    unfold fX7_rain
    rw [e, bd_e, hA.2.2.2.2.1.2.2, hA.2.2.2.2.1.1]⟩
  exact ⟨M9, ⟨b, M1, a1, a2⟩, a3⟩
theorem z_18 {n : Nat} (x1 x2 x3 : Int32) {M : ml_M} (hs : sI n M) : ∃ M9, lw_s18 x1 x2 x3 M M9 ∧ sI (n + 60) M9 := by
  obtain ⟨L, a, ⟨⟨v, o, g, r, d, hA, hB, hS⟩, hE, -⟩, -⟩ := id hs.1
  obtain ⟨b, M1, M9, a1, a2, a3⟩ := rd_n (F := fX6_drain) (G := fX7_drain) hs ⟨M (ml_fl 0 + 1) 4, rfl, by
    have e : fX7_told 2 M = _ := to_m (q := 2) (by decide) M
    unfold fX7_drain
    rw [e, bd_e, hA.2.2.2.2.2.2.2, hA.2.2.2.2.2.1]⟩
  exact ⟨M9, ⟨b, M1, a1, a2⟩, a3⟩
theorem z_21 {n : Nat} (x1 x2 x3 : Int32) {M : ml_M} (hs : sI n M) : ∃ M9, lw_s21 x1 x2 x3 M M9 ∧ sI (n + 60) M9 := by
  obtain ⟨L, a, ⟨⟨v, o, g, r, d, hA, hB, hS⟩, hE, -⟩, -⟩ := id hs.1
  obtain ⟨b, M1, M9, a1, a2, a3⟩ := rd_n (F := fX6_rainTotal) (G := fX7_rainTotal) hs ⟨M (ml_fl 0 + 1) 5, rfl, by
    have e : fX7_told 3 M = _ := to_m (q := 3) (by decide) M
    unfold fX7_rainTotal
    rw [e, bd_e, hB.1]⟩
  exact ⟨M9, ⟨b, M1, a1, a2⟩, a3⟩
theorem z_22 {n : Nat} (x1 x2 x3 : Int32) {M : ml_M} (hs : sI n M) : ∃ M9, lw_s22 x1 x2 x3 M M9 ∧ sI (n + 60) M9 := by
  obtain ⟨L, a, ⟨⟨v, o, g, r, d, hA, hB, hS⟩, hE, -⟩, -⟩ := id hs.1
  obtain ⟨b, M1, M9, a1, a2, a3⟩ := rd_n (F := fX6_drainTotal) (G := fX7_drainTotal) hs ⟨M (ml_fl 0 + 1) 6, rfl, by
    have e : fX7_told 4 M = _ := to_m (q := 4) (by decide) M
    unfold fX7_drainTotal
    rw [e, bd_e, hB.2.1]⟩
  exact ⟨M9, ⟨b, M1, a1, a2⟩, a3⟩
theorem z_23 {n : Nat} (x1 x2 x3 : Int32) {M : ml_M} (hs : sI n M) : ∃ M9, lw_s23 x1 x2 x3 M M9 ∧ sI (n + 60) M9 := by
  obtain ⟨L, a, ⟨⟨v, o, g, r, d, hA, hB, hS⟩, hE, -⟩, -⟩ := id hs.1
  obtain ⟨b, M1, M9, a1, a2, a3⟩ := rd_n (F := fX6_spilledTotal) (G := fX7_spilledTotal) hs ⟨M (ml_fl 0 + 1) 7, rfl, by
    have e : fX7_told 5 M = _ := to_m (q := 5) (by decide) M
    unfold fX7_spilledTotal
    rw [e, bd_e, hB.2.2.1]⟩
  exact ⟨M9, ⟨b, M1, a1, a2⟩, a3⟩
theorem z_25 {n : Nat} (x1 x2 x3 : Int32) {M : ml_M} (hs : sI n M) : ∃ M9, lw_s25 x1 x2 x3 M M9 ∧ sI (n + 60) M9 := by
  obtain ⟨L, a, ⟨-, hE, hG, hC, hM, -⟩, -⟩ := id hs.1
  obtain ⟨b, M1, M9, a1, a2, a3⟩ := rd_n (F := fX6_boatCount) (G := fX7_boatCount) hs ⟨M (ml_fl 0 + 5) 0, rfl, by
    have e : fX7_told 6 M = _ := to_m (q := 6) (by decide) M
    unfold fX7_boatCount
    rw [e, bd_e, hC.1, hM.1]⟩
  exact ⟨M9, ⟨b, M1, a1, a2⟩, a3⟩
theorem z_37 {n : Nat} (x1 x2 x3 : Int32) {M : ml_M} (hs : sI n M) : ∃ M9, lw_s37 x1 x2 x3 M M9 ∧ sI (n + 60) M9 := by
  obtain ⟨L, a, ⟨-, ⟨nx, c, -, -, -, h4, h5, -⟩, -⟩, -⟩ := id hs.1
  obtain ⟨b, M1, M9, a1, a2, a3⟩ := rd_n (F := fX6_eventCount) (G := fX7_eventCount) hs ⟨M (ml_fl 0 + 12) 3, rfl, by
    have e : fX7_told 7 M = _ := to_m (q := 7) (by decide) M
    unfold fX7_eventCount
    rw [e, bd_e, h4, h5]⟩
  exact ⟨M9, ⟨b, M1, a1, a2⟩, a3⟩
theorem z_40 {n : Nat} (x1 x2 x3 : Int32) {M : ml_M} (hs : sI n M) : ∃ M9, lw_s40 x1 x2 x3 M M9 ∧ sI (n + 60) M9 := by
  obtain ⟨L, a, ⟨⟨v, o, g, r, d, hA, hB, hS⟩, hE, -⟩, -⟩ := id hs.1
  obtain ⟨b, M1, M9, a1, a2, a3⟩ := rd_n (F := fX6_time) (G := fX7_time) hs ⟨M (ml_fl 0) 3, rfl, by
    have e : fX7_told 0 M = _ := to_m (q := 0) (by decide) M
    unfold fX7_time
    rw [e, bd_e, hB.2.2.2]⟩
  exact ⟨M9, ⟨b, M1, a1, a2⟩, a3⟩
