/-! The class reads a command. -/
/-- what reading the command k leaves: the position is p -/
def cO (M M' : ml_M) (k p : Nat) : Prop := M' 3 2 = nI p ∧ ∀ a b, ¬ (a = 3 ∧ (b = 2 ∨ b = 3)) → ¬ ((5 ≤ a ∧ a ≤ 8) ∧ b = k) → M' a b = M a b
theorem cO.tr {M M1 M2 : ml_M} {k p q : Nat} (h : cO M M1 k p) (h2 : cO M1 M2 k q) : cO M M2 k q := ⟨h2.1, fun a b x y => (h2.2 a b x y).trans (h.2 a b x y)⟩
theorem cO.wr {M M1 : ml_M} {k p a : Nat} {x : Int32} (h : cO M M1 k p) (ha : 5 ≤ a ∧ a ≤ 8) : cO M (ml_w M1 a k x) k p := ⟨by rw [w_off (by omega)]; exact h.1, fun c b y z => by rw [w_off (by omega)]; exact h.2 c b y z⟩
/-- the class at p, in the command k -/
def cS (l : Nat) (t : Nat → Nat) (k p : Nat) (M : ml_M) : Prop := cX l t M ∧ M 3 2 = nI p ∧ M 3 4 = nI k ∧ p ≤ l
theorem cS.o {l k p q : Nat} {t : Nat → Nat} {M M' : ml_M} (h : cS l t k p M) (o : cO M M' k q) (hq : q ≤ l) : cS l t k q M' := by
  refine ⟨⟨by rw [o.2 3 1 (by omega) (by omega)]; exact h.1.1, fun j hj => by rw [o.2 4 j (by omega) (by omega)]; exact h.1.2 j hj⟩, o.1, by rw [o.2 3 4 (by omega) (by omega)]; exact h.2.2.1, hq⟩
theorem cS.wr {l k p a : Nat} {t : Nat → Nat} {M : ml_M} {x : Int32} (h : cS l t k p M) (ha : 5 ≤ a ∧ a ≤ 8) : cS l t k p (ml_w M a k x) := h.o ⟨by rw [w_off (by omega)]; exact h.2.1, fun c b y z => by rw [w_off (by omega)]⟩ h.2.2.2
theorem cS.c6 {l k p : Nat} {t : Nat → Nat} {M : ml_M} {x : Int32} (h : cS l t k p M) : cO M (ml_w M 6 k x) k p := ⟨by rw [w_off (by omega)]; exact h.2.1, fun a b x y => by rw [w_off (by omega)]⟩
theorem rw_o {q l k p : Nat} {t : Nat → Nat} {M : ml_M} (hq : q < 12) (hT : tX l t) (h : cS l t k p M) : ∃ M', fX4_readWord q M = some (.inl (b2 (wP l t (Wd q) p).2), M') ∧ cO M M' k (wP l t (Wd q) p).1 ∧ cS l t k (wP l t (Wd q) p).1 M' ∧ (∀ a b, a ≠ 3 → M' a b = M a b) := by
  have o : cO M (ml_w M 3 2 (nI (wP l t (Wd q) p).1)) k (wP l t (Wd q) p).1 := ⟨w_at, fun a b x y => by rw [w_off (by omega)]⟩
  exact ⟨_, rw_c hq hT h.1 h.2.1 h.2.2.2, o, h.o o (wP_le _ _ h.2.2.2), fun a b x => by rw [w_off (by omega)]⟩
theorem ro_o {q l k p : Nat} {t : Nat → Nat} {M : ml_M} (hq : q < 12) (hT : tX l t) (h : cS l t k p M) : ∃ M', fX4_readOneOf q M = some (.inl (b2 (oP l t (Wd q) p).2), M') ∧ cO M M' k (oP l t (Wd q) p).1 ∧ cS l t k (oP l t (Wd q) p).1 M' ∧ (∀ a b, a ≠ 3 → M' a b = M a b) ∧ ((oP l t (Wd q) p).2 = true → M' 3 3 = nI (t p)) := by
  have e := ro_c hq hT h.1 h.2.1 h.2.2.2
  by_cases c : p < l ∧ t p ∈ Wd q
  · rw [oP_t c] at e ⊢
    rw [if_pos rfl] at e
    have o : cO M (ml_w (ml_w M 3 3 (nI (t p))) 3 2 (nI (p + 1))) k (p + 1) := ⟨w_at, fun a b x y => by rw [w_off (by omega), w_off (by omega)]⟩
    exact ⟨_, e, o, h.o o c.1, fun a b x => by rw [w_off (by omega), w_off (by omega)], fun _ => by rw [w_un (by decide), w_at]⟩
  · rw [oP_f c] at e ⊢
    have e : fX4_readOneOf q M = some (.inl (b2 false), M) := e
    have o : cO M M k p := ⟨h.2.1, fun _ _ _ _ => rfl⟩
    exact ⟨M, e, o, h, fun _ _ _ => rfl, fun z => by cases z⟩
theorem b2_t : b2 true = 1 := rfl
theorem b2_f : b2 false = 0 := rfl
/-- the first number -/
theorem rf_o {l k p : Nat} {t : Nat → Nat} {M : ml_M} (hT : tX l t) (hk : k < 60) (h : cS l t k p M) : ∃ M', fX4_readFirst M = some (.inl (b2 (oP l t (Wd 7) p).2), M') ∧ cO M M' k (oP l t (Wd 7) p).1 ∧ cS l t k (oP l t (Wd 7) p).1 M' ∧ (∀ a b, a ≠ 3 → a ≠ 6 → M' a b = M a b) ∧ ((oP l t (Wd 7) p).2 = true → M' 6 k = nI (t p - 48)) := by
  obtain ⟨M1, a1, a2, a3, a4, a5⟩ := ro_o (q := 7) (by decide) hT h
  by_cases c : p < l ∧ t p ∈ Wd 7
  · rw [oP_t c] at a1 a2 a3 a5 ⊢
    have e48 : nI (t p) - 48 = nI (t p - 48) := pk_sub (b := 48) ((dg_mem _).mp c.2).1
    refine ⟨ml_w M1 6 k (nI (t p - 48)), ?_, a2.wr (by decide), a3.wr (by decide), fun a b x y => by rw [w_off (by omega)]; exact a4 a b x, fun _ => w_at⟩
    unfold fX4_readFirst
    rw [a1, bd_e, b2_t, if_1, a3.2.2.1, if_pos (ok_nI hk (by decide)), nI_clamp (by omega), a5 rfl, e48, lt_e]
  · rw [oP_f c] at a1 a2 a3 a5 ⊢
    refine ⟨M1, ?_, a2, a3, fun a b x y => a4 a b x, fun z => by cases z⟩
    unfold fX4_readFirst
    rw [a1, bd_e, b2_f, if_0]
/-- where the readers of a boat and of a valve stand -/
def bq1 (l : Nat) (t : Nat → Nat) (p : Nat) : Nat × Bool := wP l t (Wd 5) p
def bq2 (l : Nat) (t : Nat → Nat) (p : Nat) : Nat × Bool := gd (oP l t (Wd 6)) (bq1 l t p)
def bq3 (l : Nat) (t : Nat → Nat) (p : Nat) : Nat × Bool := gd (oP l t (Wd 7)) (bq2 l t p)
def bq4 (l : Nat) (t : Nat → Nat) (p : Nat) : Nat × Bool := gd (oP l t (Wd 8)) (bq3 l t p)
def bq5 (l : Nat) (t : Nat → Nat) (p : Nat) : Nat × Bool := gd (oP l t (Wd 9)) (bq4 l t p)
theorem gq {l : Nat} {t : Nat → Nat} {S : List Nat} {q : Nat × Bool} (h : q.2 = true) : gd (oP l t S) q = oP l t S q.1 := if_pos h
theorem gn {l : Nat} {t : Nat → Nat} {S : List Nat} {q : Nat × Bool} (h : ¬ q.2 = true) : gd (oP l t S) q = q := if_neg h
theorem bb {o : Bool} (h : o = true) : b2 o = 1 := by rw [h]; rfl
theorem bn {o : Bool} (h : ¬ o = true) : b2 o = 0 := by
  cases o
  · rfl
  · exact absurd rfl h
theorem rb_o {l k p : Nat} {t : Nat → Nat} {M : ml_M} (hT : tX l t) (hk : k < 60) (h : cS l t k p M) : ∃ M', fX4_readBoat M = some (.inl (b2 (bq5 l t p).2), M') ∧ cO M M' k (bq5 l t p).1 ∧ (∀ a b, a ≠ 3 → a ≠ 6 → a ≠ 7 → a ≠ 8 → M' a b = M a b) ∧ ((bq5 l t p).2 = true → M' 6 k = nI (t (bq1 l t p).1) ∧ M' 7 k = nI (t (bq2 l t p).1 - 48) ∧ M' 8 k = nI (if t (bq4 l t p).1 = 100 then 1 else 0)) := by
  have okk : ml_ok (nI k) 60 := ok_nI hk (by decide)
  have ck : (nI k).toNatClampNeg = k := nI_clamp (by omega)
  obtain ⟨M1, a1, a2, a3, a4⟩ := rw_o (q := 5) (by decide) hT h
  unfold fX4_readBoat
  rw [a1, bd_e]
  show ∃ M', (if b2 (bq1 l t p).2 = 0 then _ else _) = _ ∧ _
  by_cases o1 : (bq1 l t p).2 = true
  · have e2 : bq2 l t p = oP l t (Wd 6) (bq1 l t p).1 := gq o1
    obtain ⟨M2, b1, b2', b3, b4, b5⟩ := ro_o (q := 6) (by decide) hT a3
    rw [bb o1, if_1, b1, bd_e]
    show ∃ M', (if b2 (oP l t (Wd 6) (bq1 l t p).1).2 = 0 then _ else _) = _ ∧ _
    rw [← e2]
    by_cases o2 : (bq2 l t p).2 = true
    · have e3 : bq3 l t p = oP l t (Wd 7) (bq2 l t p).1 := gq o2
      have l2 : M2 3 3 = nI (t (bq1 l t p).1) := b5 (by show (oP l t (Wd 6) (bq1 l t p).1).2 = true; rw [← e2]; exact o2)
      have b3' : cS l t k (bq2 l t p).1 M2 := by rw [e2]; exact b3
      have b2'' : cO M1 M2 k (bq2 l t p).1 := by rw [e2]; exact b2'
      obtain ⟨M3, c1, c2, c3, c4, c5⟩ := ro_o (q := 7) (by decide) hT (b3'.wr (a := 6) (x := nI (t (bq1 l t p).1)) (by decide))
      rw [bb o2, if_1, b3'.2.2.1, if_pos okk, ck, l2, lt_e, c1, bd_e, ← e3]
      by_cases o3 : (bq3 l t p).2 = true
      · have e4 : bq4 l t p = oP l t (Wd 8) (bq3 l t p).1 := gq o3
        have l3 : M3 3 3 = nI (t (bq2 l t p).1) := c5 (by rw [← e3]; exact o3)
        have hdg : (bq2 l t p).1 < l ∧ t (bq2 l t p).1 ∈ Wd 7 := by
          refine Classical.byContradiction (fun z => ?_)
          rw [e3, oP_f z] at o3
          cases o3
        have e48 : nI (t (bq2 l t p).1) - 48 = nI (t (bq2 l t p).1 - 48) := pk_sub (b := 48) ((dg_mem _).mp hdg.2).1
        have c3' : cS l t k (bq3 l t p).1 M3 := by rw [e3]; exact c3
        have c2' : cO (ml_w M2 6 k (nI (t (bq1 l t p).1))) M3 k (bq3 l t p).1 := by rw [e3]; exact c2
        obtain ⟨M4, d1, d2, d3, d4, d5⟩ := ro_o (q := 8) (by decide) hT (c3'.wr (a := 7) (x := nI (t (bq2 l t p).1 - 48)) (by decide))
        rw [bb o3, if_1, c3'.2.2.1, if_pos okk, ck, l3, e48, lt_e, d1, bd_e, ← e4]
        by_cases o4 : (bq4 l t p).2 = true
        · have e5 : bq5 l t p = oP l t (Wd 9) (bq4 l t p).1 := gq o4
          have d3' : cS l t k (bq4 l t p).1 M4 := by rw [e4]; exact d3
          have d2' : cO (ml_w M3 7 k (nI (t (bq2 l t p).1 - 48))) M4 k (bq4 l t p).1 := by rw [e4]; exact d2
          obtain ⟨M5, f1, f2, f3, f4, f5⟩ := ro_o (q := 9) (by decide) hT d3'
          rw [bb o4, if_1, f1, bd_e, ← e5]
          have tot : cO M M5 k (bq5 l t p).1 := by
            rw [e5]
            exact (a2.tr ((b2''.wr (a := 6) (by decide)).tr ((c2'.wr (a := 7) (by decide)).tr (d2'.tr f2))))
          by_cases o5 : (bq5 l t p).2 = true
          · have l5 : M5 3 3 = nI (t (bq4 l t p).1) := f5 (by rw [← e5]; exact o5)
            have f3' : M5 3 4 = nI k := f3.2.2.1
            have hdu : (bq4 l t p).1 < l ∧ t (bq4 l t p).1 ∈ Wd 9 := by
              refine Classical.byContradiction (fun z => ?_)
              rw [e5, oP_f z] at o5
              cases o5
            have h126 := (hT.2 _ hdu.1).2
            rw [bb o5, if_1, jn_e, l5]
            refine ⟨ml_w M5 8 k (nI (if t (bq4 l t p).1 = 100 then 1 else 0)), ?_, tot.wr (by decide), fun a b x y z w => ?_, fun _ => ⟨?_, ?_, w_at⟩⟩
            · by_cases c : t (bq4 l t p).1 = 100
              · rw [if_pos (show nI (t (bq4 l t p).1) = 100 from congrArg nI c)]
                dsimp only
                rw [f3', if_pos okk, ck, if_pos c, lt_e]
                rfl
              · rw [if_neg (show ¬ nI (t (bq4 l t p).1) = 100 from fun z => c ((nI_eq (b := 100) (by omega) (by decide)).mp z))]
                dsimp only
                rw [f3', if_pos okk, ck, if_neg c, lt_e]
                rfl
            · rw [w_off (by omega), f4 a b x, d4 a b x, w_off (by omega), c4 a b x, w_off (by omega), b4 a b x, a4 a b x]
            · rw [w_off (by omega), f4 6 k (by decide), d4 6 k (by decide), w_off (by omega), c4 6 k (by decide), w_at]
            · rw [w_off (by omega), f4 7 k (by decide), d4 7 k (by decide), w_at]
          · refine ⟨M5, ?_, tot, fun a b x y z w => by rw [f4 a b x, d4 a b x, w_off (by omega), c4 a b x, w_off (by omega), b4 a b x, a4 a b x], fun z => absurd z o5⟩
            rw [bn o5, if_0]
        · have e5 : bq5 l t p = bq4 l t p := gn o4
          rw [e5, bn o4, if_0]
          refine ⟨M4, rfl, ?_, fun a b x y z w => by rw [d4 a b x, w_off (by omega), c4 a b x, w_off (by omega), b4 a b x, a4 a b x], fun z => absurd z o4⟩
          rw [e4]
          exact (a2.tr ((b2''.wr (a := 6) (by decide)).tr ((c2'.wr (a := 7) (by decide)).tr d2)))
      · have e4 : bq4 l t p = bq3 l t p := gn o3
        have e5 : bq5 l t p = bq3 l t p := by unfold bq5; rw [e4]; exact gn o3
        rw [e5, bn o3, if_0]
        refine ⟨M3, rfl, ?_, fun a b x y z w => by rw [c4 a b x, w_off (by omega), b4 a b x, a4 a b x], fun z => absurd z o3⟩
        rw [e3]
        exact (a2.tr ((b2''.wr (a := 6) (by decide)).tr c2))
    · have e3 : bq3 l t p = bq2 l t p := gn o2
      have e4 : bq4 l t p = bq2 l t p := by unfold bq4; rw [e3]; exact gn o2
      have e5 : bq5 l t p = bq2 l t p := by unfold bq5; rw [e4]; exact gn o2
      rw [e5, bn o2, if_0]
      refine ⟨M2, rfl, ?_, fun a b x y z w => by rw [b4 a b x, a4 a b x], fun z => absurd z o2⟩
      rw [e2]
      exact a2.tr b2'
  · have e2 : bq2 l t p = bq1 l t p := gn o1
    have e3 : bq3 l t p = bq1 l t p := by unfold bq3; rw [e2]; exact gn o1
    have e4 : bq4 l t p = bq1 l t p := by unfold bq4; rw [e3]; exact gn o1
    have e5 : bq5 l t p = bq1 l t p := by unfold bq5; rw [e4]; exact gn o1
    rw [e5, bn o1, if_0]
    exact ⟨M1, rfl, a2, fun a b x y z w => a4 a b x, fun z => absurd z o1⟩
def vq1 (l : Nat) (t : Nat → Nat) (p : Nat) : Nat × Bool := wP l t (Wd 10) p
def vq2 (l : Nat) (t : Nat → Nat) (p : Nat) : Nat × Bool := gd (oP l t (Wd 7)) (vq1 l t p)
def vq3 (l : Nat) (t : Nat → Nat) (p : Nat) : Nat × Bool := gd (oP l t (Wd 8)) (vq2 l t p)
def vq4 (l : Nat) (t : Nat → Nat) (p : Nat) : Nat × Bool := gd (oP l t (Wd 7)) (vq3 l t p)
theorem rv_o {l k p : Nat} {t : Nat → Nat} {M : ml_M} (hT : tX l t) (hk : k < 60) (h : cS l t k p M) : ∃ M', fX4_readValve M = some (.inl (b2 (vq4 l t p).2), M') ∧ cO M M' k (vq4 l t p).1 ∧ (∀ a b, a ≠ 3 → a ≠ 6 → a ≠ 7 → a ≠ 8 → M' a b = M a b) ∧ ((vq4 l t p).2 = true → M' 6 k = nI (t (vq1 l t p).1 - 48) ∧ M' 7 k = nI (t (vq3 l t p).1 - 48)) := by
  have okk : ml_ok (nI k) 60 := ok_nI hk (by decide)
  have ck : (nI k).toNatClampNeg = k := nI_clamp (by omega)
  obtain ⟨M1, a1, a2, a3, a4⟩ := rw_o (q := 10) (by decide) hT h
  unfold fX4_readValve
  rw [a1, bd_e]
  show ∃ M', (if b2 (vq1 l t p).2 = 0 then _ else _) = _ ∧ _
  by_cases o1 : (vq1 l t p).2 = true
  · have e2 : vq2 l t p = oP l t (Wd 7) (vq1 l t p).1 := gq o1
    obtain ⟨M2, b1, b2', b3, b4, b5⟩ := rf_o hT hk a3
    rw [bb o1, if_1, b1, bd_e]
    show ∃ M', (if b2 (oP l t (Wd 7) (vq1 l t p).1).2 = 0 then _ else _) = _ ∧ _
    rw [← e2]
    by_cases o2 : (vq2 l t p).2 = true
    · have e3 : vq3 l t p = oP l t (Wd 8) (vq2 l t p).1 := gq o2
      have l2 : M2 6 k = nI (t (vq1 l t p).1 - 48) := b5 (by show (oP l t (Wd 7) (vq1 l t p).1).2 = true; rw [← e2]; exact o2)
      have b3' : cS l t k (vq2 l t p).1 M2 := by rw [e2]; exact b3
      obtain ⟨M3, c1, c2, c3, c4, c5⟩ := ro_o (q := 8) (by decide) hT b3'
      rw [bb o2, if_1, c1, bd_e, ← e3]
      have tot3 : cO M M3 k (vq3 l t p).1 := by rw [e3]; exact a2.tr (b2'.tr c2)
      by_cases o3 : (vq3 l t p).2 = true
      · have e4 : vq4 l t p = oP l t (Wd 7) (vq3 l t p).1 := gq o3
        have c3' : cS l t k (vq3 l t p).1 M3 := by rw [e3]; exact c3
        obtain ⟨M4, d1, d2, d3, d4, d5⟩ := ro_o (q := 7) (by decide) hT c3'
        rw [bb o3, if_1, d1, bd_e, ← e4]
        have tot : cO M M4 k (vq4 l t p).1 := by rw [e4]; exact tot3.tr d2
        by_cases o4 : (vq4 l t p).2 = true
        · have l4 : M4 3 3 = nI (t (vq3 l t p).1) := d5 (by rw [← e4]; exact o4)
          have hdg : (vq3 l t p).1 < l ∧ t (vq3 l t p).1 ∈ Wd 7 := by
            refine Classical.byContradiction (fun z => ?_)
            rw [e4, oP_f z] at o4
            cases o4
          have e48 : nI (t (vq3 l t p).1) - 48 = nI (t (vq3 l t p).1 - 48) := pk_sub (b := 48) ((dg_mem _).mp hdg.2).1
          rw [bb o4, if_1, d3.2.2.1, if_pos okk, ck, l4, e48, lt_e]
          exact ⟨_, rfl, tot.wr (by decide), fun a b x y z w => by rw [w_off (by omega), d4 a b x, c4 a b x, b4 a b x y, a4 a b x], fun _ => ⟨by rw [w_off (by omega), d4 6 k (by decide), c4 6 k (by decide), l2], w_at⟩⟩
        · rw [bn o4, if_0]
          exact ⟨M4, rfl, tot, fun a b x y z w => by rw [d4 a b x, c4 a b x, b4 a b x y, a4 a b x], fun z => absurd z o4⟩
      · have e4 : vq4 l t p = vq3 l t p := gn o3
        rw [e4, bn o3, if_0]
        exact ⟨M3, rfl, tot3, fun a b x y z w => by rw [c4 a b x, b4 a b x y, a4 a b x], fun z => absurd z o3⟩
    · have e3 : vq3 l t p = vq2 l t p := gn o2
      have e4 : vq4 l t p = vq2 l t p := by unfold vq4; rw [e3]; exact gn o2
      rw [e4, bn o2, if_0]
      refine ⟨M2, rfl, ?_, fun a b x y z w => by rw [b4 a b x y, a4 a b x], fun z => absurd z o2⟩
      rw [e2]
      exact a2.tr b2'
  · have e2 : vq2 l t p = vq1 l t p := gn o1
    have e3 : vq3 l t p = vq1 l t p := by unfold vq3; rw [e2]; exact gn o1
    have e4 : vq4 l t p = vq1 l t p := by unfold vq4; rw [e3]; exact gn o1
    rw [e4, bn o1, if_0]
    exact ⟨M1, rfl, a2, fun a b x y z w => a4 a b x, fun z => absurd z o1⟩
/-- the minutes: their digits -/
theorem rt_l {l k : Nat} {t : Nat → Nat} (hT : tX l t) (hk : k < 60) : ∀ (r j v p n : Nat) (M : ml_M), j + r = 3 → r < n → cS l t k p M → M 6 k = nI v → ∃ M', fX4_readWait_l n (nI j) M = some (.inl 1, M') ∧ cO M M' k (dn l t r (p, v)).1 ∧ (∀ a b, a ≠ 3 → a ≠ 6 → M' a b = M a b) ∧ M' 6 k = nI (dn l t r (p, v)).2 := by
  have okk : ml_ok (nI k) 60 := ok_nI hk (by decide)
  have ck : (nI k).toNatClampNeg = k := nI_clamp (by omega)
  intro r
  induction r with
  | zero =>
    intro j v p n M hj hn h hv
    obtain ⟨n, rfl⟩ : ∃ z, n = z + 1 := ⟨n - 1, by omega⟩
    have e : j = 3 := by omega
    subst e
    refine ⟨M, ?_, ⟨h.2.1, fun _ _ _ _ => rfl⟩, fun _ _ _ _ => rfl, hv⟩
    show fX4_readWait_s0 (fX4_readWait_l n) (nI 3) M = _
    unfold fX4_readWait_s0
    rw [jn_e, if_pos (by decide)]
  | succ r ih =>
    intro j v p n M hj hn h hv
    obtain ⟨n, rfl⟩ : ∃ z, n = z + 1 := ⟨n - 1, by omega⟩
    obtain ⟨M1, a1, a2, a3, a4, a5⟩ := ro_o (q := 7) (by decide) hT h
    have n3 : ¬ (3 : Int32) ≤ nI j := fun z => by have := (nI_leI (a := 3) (by decide) (by omega)).mp z; omega
    by_cases c : p < l ∧ t p ∈ Wd 7
    · have ed : dn l t (r + 1) (p, v) = dn l t r (p + 1, 10 * v + (t p - 48)) := by
        show (if p < l ∧ t p ∈ Wd 7 then _ else _) = _
        rw [if_pos c]
      rw [oP_t c] at a1 a2 a3 a5
      obtain ⟨a, b⟩ := (dg_mem _).mp c.2
      have ev : ((10 : Int32) * nI v + nI (t p)) - 48 = nI (10 * v + (t p - 48)) := by
        have e1 : (10 : Int32) * nI v = nI (10 * v) := pk_mul 10 v
        have e2 : nI (10 * v + t p) - 48 = nI (10 * v + t p - 48) := pk_sub (b := 48) (by omega)
        rw [e1, nI_add, e2]
        exact congrArg nI (by omega)
      obtain ⟨M2, b1, b2', b3, b4⟩ := ih (j + 1) (10 * v + (t p - 48)) (p + 1) n (ml_w M1 6 k (nI (10 * v + (t p - 48)))) (by omega) (by omega) (a3.wr (by decide)) w_at
      rw [ed]
      refine ⟨M2, ?_, (a2.wr (a := 6) (by decide)).tr b2', fun a b x y => by rw [b3 a b x y, w_off (by omega), a4 a b x], b4⟩
      rw [← b1]
      show fX4_readWait_s0 (fX4_readWait_l n) (nI j) M = _
      unfold fX4_readWait_s0
      rw [jn_e, if_neg n3, a1, bd_e, b2_t, if_1, a3.2.2.1, if_pos okk, if_pos okk, ck, a4 6 k (by decide), hv, a5 rfl, ev, lt_e, nI_1]
    · have ed : dn l t (r + 1) (p, v) = (p, v) := by
        show (if p < l ∧ t p ∈ Wd 7 then _ else _) = _
        rw [if_neg c]
      rw [oP_f c] at a1 a2 a3 a5
      rw [ed]
      refine ⟨M1, ?_, a2, fun a b x y => a4 a b x, by rw [a4 6 k (by decide), hv]⟩
      show fX4_readWait_s0 (fX4_readWait_l n) (nI j) M = _
      unfold fX4_readWait_s0
      rw [jn_e, if_neg n3, a1, bd_e, b2_f, if_0]
/-- a number of up to three digits behind a blank, or none -/
def wq1 (l : Nat) (t : Nat → Nat) (p : Nat) : Nat × Bool := wP l t (Wd 11) p
def wq2 (l : Nat) (t : Nat → Nat) (p : Nat) : Nat × Bool := if (wq1 l t p).1 < l ∧ t (wq1 l t p).1 ∈ Wd 8 then (if (wq1 l t p).1 + 1 < l ∧ t ((wq1 l t p).1 + 1) ∈ Wd 7 then ((dn l t 3 ((wq1 l t p).1 + 1, 0)).1, true) else ((wq1 l t p).1 + 1, false)) else wq1 l t p
def wq3 (l : Nat) (t : Nat → Nat) (p : Nat) : Nat × Bool := if (wq1 l t p).2 then wq2 l t p else wq1 l t p
def wv3 (l : Nat) (t : Nat → Nat) (p : Nat) : Nat := if (wq1 l t p).1 < l ∧ t (wq1 l t p).1 ∈ Wd 8 then (dn l t 3 ((wq1 l t p).1 + 1, 0)).2 else 1
theorem rt_o {l k p : Nat} {t : Nat → Nat} {M : ml_M} (hT : tX l t) (hk : k < 60) (h : cS l t k p M) : ∃ M', fX4_readWait M = some (.inl (b2 (wq3 l t p).2), M') ∧ cO M M' k (wq3 l t p).1 ∧ (∀ a b, a ≠ 3 → a ≠ 6 → a ≠ 7 → a ≠ 8 → M' a b = M a b) ∧ ((wq3 l t p).2 = true → M' 6 k = nI (wv3 l t p)) := by
  have okk : ml_ok (nI k) 60 := ok_nI hk (by decide)
  have ck : (nI k).toNatClampNeg = k := nI_clamp (by omega)
  obtain ⟨M1, a1, a2, a3, a4⟩ := rw_o (q := 11) (by decide) hT h
  unfold fX4_readWait
  rw [a1, bd_e]
  show ∃ M', (if b2 (wq1 l t p).2 = 0 then _ else _) = _ ∧ _
  by_cases o1 : (wq1 l t p).2 = true
  · have e3 : wq3 l t p = wq2 l t p := if_pos o1
    have a3' : cS l t k (wq1 l t p).1 M1 := a3
    obtain ⟨M2, b1, b2', b3, b4, b5⟩ := ro_o (q := 8) (by decide) hT (a3'.wr (a := 6) (x := 1) (by decide))
    rw [bb o1, if_1, a3'.2.2.1, if_pos okk, ck, lt_e, b1, bd_e]
    by_cases c1 : (wq1 l t p).1 < l ∧ t (wq1 l t p).1 ∈ Wd 8
    · have ev : wv3 l t p = (dn l t 3 ((wq1 l t p).1 + 1, 0)).2 := if_pos c1
      rw [oP_t c1] at b2' b3 b5 ⊢
      obtain ⟨M3, c2, c3, c4, c5, c6⟩ := rf_o hT hk b3
      rw [b2_t, if_1, c2, bd_e]
      by_cases c7 : (wq1 l t p).1 + 1 < l ∧ t ((wq1 l t p).1 + 1) ∈ Wd 7
      · have e2 : wq2 l t p = ((dn l t 3 ((wq1 l t p).1 + 1, 0)).1, true) := by unfold wq2; rw [if_pos c1, if_pos c7]
        have ed : dn l t 3 ((wq1 l t p).1 + 1, 0) = dn l t 2 ((wq1 l t p).1 + 1 + 1, t ((wq1 l t p).1 + 1) - 48) := by
          show (if (wq1 l t p).1 + 1 < l ∧ t ((wq1 l t p).1 + 1) ∈ Wd 7 then _ else _) = _
          rw [if_pos c7]
          show dn l t 2 ((wq1 l t p).1 + 1 + 1, 10 * 0 + (t ((wq1 l t p).1 + 1) - 48)) = _
          rw [Nat.mul_zero, Nat.zero_add]
        rw [oP_t c7] at c2 c3 c4 c6 ⊢
        obtain ⟨M4, d1, d2, d3, d4⟩ := rt_l hT hk 2 1 (t ((wq1 l t p).1 + 1) - 48) ((wq1 l t p).1 + 1 + 1) ml_fuel M3 rfl (by unfold ml_fuel; omega) c4 (c6 rfl)
        have d1' : fX4_readWait_l ml_fuel 1 M3 = some (.inl 1, M4) := d1
        rw [b2_t, if_1, d1', e3, e2, ev, ed]
        exact ⟨M4, rfl, a2.tr (a3'.c6.tr (b2'.tr (c3.tr d2))), fun a b x y z w => by rw [d3 a b x y, c5 a b x y, b4 a b x, w_off (by omega), a4 a b x], fun _ => d4⟩
      · have e2 : wq2 l t p = ((wq1 l t p).1 + 1, false) := by unfold wq2; rw [if_pos c1, if_neg c7]
        rw [oP_f c7] at c2 c3 c4 c6 ⊢
        rw [b2_f, if_0, e3, e2]
        exact ⟨M3, rfl, a2.tr (a3'.c6.tr (b2'.tr c3)), fun a b x y z w => by rw [c5 a b x y, b4 a b x, w_off (by omega), a4 a b x], fun z => by cases z⟩
    · have e2 : wq2 l t p = wq1 l t p := if_neg c1
      have ev : wv3 l t p = 1 := if_neg c1
      rw [oP_f c1] at b2' b3 b5 ⊢
      rw [b2_f, if_0, e3, e2, bb o1]
      exact ⟨M2, rfl, a2.tr (a3'.c6.tr b2'), fun a b x y z w => by rw [b4 a b x, w_off (by omega), a4 a b x], fun _ => by rw [b4 6 k (by decide), w_at, ev]; rfl⟩
  · have e3 : wq3 l t p = wq1 l t p := if_neg o1
    rw [e3, bn o1, if_0]
    exact ⟨M1, rfl, a2, fun a b x y z w => a4 a b x, fun z => absurd z o1⟩
/-- open, shut, rain, drain -/
def sq1 (l : Nat) (t : Nat → Nat) (q p : Nat) : Nat × Bool := wP l t (Wd q) p
def sq2 (l : Nat) (t : Nat → Nat) (q p : Nat) : Nat × Bool := gd (oP l t (Wd 7)) (sq1 l t q p)
theorem rs_o {l k p q : Nat} {t : Nat → Nat} {M : ml_M} (hq : q < 12) (hT : tX l t) (hk : k < 60) (h : cS l t k p M) : ∃ M', ml_bd (fX4_readWord q M) (fun r18 M19 => ml_jn (fun (y20 : Int32) (M21 : ml_M) => if narrow .boolean (.int y20) = .int y20 then some ((Sum.inl y20, M21) : ml_R) else none) (fun B22 => (if r18 = 0 then B22 0 M19 else ml_bd (fX4_readFirst M19) (fun r25 M26 => (if r25 = 0 then B22 0 M26 else B22 1 M26))))) = some (.inl (b2 (sq2 l t q p).2), M') ∧ cO M M' k (sq2 l t q p).1 ∧ (∀ a b, a ≠ 3 → a ≠ 6 → a ≠ 7 → a ≠ 8 → M' a b = M a b) ∧ ((sq2 l t q p).2 = true → M' 6 k = nI (t (sq1 l t q p).1 - 48)) := by
  obtain ⟨M1, a1, a2, a3, a4⟩ := rw_o hq hT h
  rw [a1, bd_e, jn_e]
  show ∃ M', (if b2 (sq1 l t q p).2 = 0 then _ else _) = _ ∧ _
  by_cases o1 : (sq1 l t q p).2 = true
  · have e2 : sq2 l t q p = oP l t (Wd 7) (sq1 l t q p).1 := gq o1
    obtain ⟨M2, b1, b2', b3, b4, b5⟩ := rf_o hT hk a3
    rw [bb o1, if_1, b1, bd_e]
    show ∃ M', (if b2 (oP l t (Wd 7) (sq1 l t q p).1).2 = 0 then _ else _) = _ ∧ _
    rw [← e2]
    have tot : cO M M2 k (sq2 l t q p).1 := by rw [e2]; exact a2.tr b2'
    by_cases o2 : (sq2 l t q p).2 = true
    · rw [bb o2, if_1]
      exact ⟨M2, nbi1, tot, fun a b x y z w => by rw [b4 a b x y, a4 a b x], fun _ => b5 (by show (oP l t (Wd 7) (sq1 l t q p).1).2 = true; rw [← e2]; exact o2)⟩
    · rw [bn o2, if_0]
      exact ⟨M2, nbi0, tot, fun a b x y z w => by rw [b4 a b x y, a4 a b x], fun z => absurd z o2⟩
  · have e2 : sq2 l t q p = sq1 l t q p := gn o1
    rw [e2, bn o1, if_0]
    exact ⟨M1, nbi0, a2, fun a b x y z w => a4 a b x, fun z => absurd z o1⟩
