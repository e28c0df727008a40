/-! Rain and drain; the flows of a minute. -/
theorem bd_l {r : Int32} {M : ml_M} {B : Int32 → ml_M → Option ml_R} : ml_bd (some (.inl r, M)) B = B r M := rfl
theorem bd_x {e : Nat} {M : ml_M} {B : Int32 → ml_M → Option ml_R} : ml_bd (some (.inr e, M)) B = some (.inr e, M) := rfl
def rA (Mc : ml_M) (i : Nat) (Mm : ml_M) (v o g : Nat → Nat) (r d : Nat) : Prop := wv (Mc (ml_fl i + 2)) v ∧ (∀ j, j < 5 → Mm 12 (11 + j) = nI (v j)) ∧ (∀ j, j < 4 → Mc (ml_fl i + 3) j = nI (o j) ∧ o j ≤ 3 ∧ Mm 12 (16 + j) = nI (o j)) ∧ (∀ j, j < 4 → Mc (ml_fl i + 4) j = nI (g j) ∧ g j ≤ 1 ∧ Mm 12 (20 + j) = nI (g j)) ∧ (Mc (ml_fl i + 1) 3 = nI r ∧ r ≤ 9 ∧ Mm 12 1 = nI r) ∧ (Mc (ml_fl i + 1) 4 = nI d ∧ d ≤ 9 ∧ Mm 12 2 = nI d)
def rB (Mc : ml_M) (i : Nat) (Mm : ml_M) : Prop := Mm 12 3 = Mc (ml_fl i + 1) 5 ∧ Mm 12 4 = Mc (ml_fl i + 1) 6 ∧ Mm 12 5 = Mc (ml_fl i + 1) 7 ∧ Mm 12 0 = Mc (ml_fl i) 3
def wsum (V : Nat → Int32) : Int32 := 0 + V 0 + V 1 + V 2 + V 3 + V 4
def wacc (A : Nat → Int32) : Int32 := A 5 - A 6 - A 7 + 300 + 144 + 108 + 72 + 60
def rS (Mc : ml_M) (i : Nat) : Prop := wsum (Mc (ml_fl i + 2)) = wacc (Mc (ml_fl i + 1))
/-- the boats' part stays -/
def kB (i : Nat) (M M' : ml_M) : Prop := (∀ o, 5 ≤ o → o ≤ 11 → M' (ml_fl i + o) = M (ml_fl i + o)) ∧ fC i M M'
def kR (M M' : ml_M) : Prop := (∀ q, (40 ≤ q ∨ q = 6 ∨ 8 ≤ q ∧ q < 11) → M' 12 q = M 12 q) ∧ ∀ p, p ≠ 12 → M' p = M p
theorem kB.tr {i : Nat} {M M1 M2 : ml_M} (h : kB i M M1) (h2 : kB i M1 M2) : kB i M M2 := ⟨fun o a b => (h2.1 o a b).trans (h.1 o a b), h.2.tr h2.2⟩
theorem kR.tr {M M1 M2 : ml_M} (h : kR M M1) (h2 : kR M1 M2) : kR M M2 := ⟨fun q a => (h2.1 q a).trans (h.1 q a), fun p a => (h2.2 p a).trans (h.2 p a)⟩
theorem kB.rf {i : Nat} {M : ml_M} : kB i M M := ⟨fun _ _ _ => rfl, fC.rf⟩
theorem kR.rf {M : ml_M} : kR M M := ⟨fun _ _ => rfl, fun _ _ => rfl⟩
theorem kB.w {i o j : Nat} {x : Int32} {M M1 : ml_M} (h : kB i M M1) (ho : o < 5 ∨ 11 < o ∧ o < 15) : kB i M (ml_w M1 (ml_fl i + o) j x) := ⟨fun o2 a b => by rw [ml_w_ne (by omega)]; exact h.1 o2 a b, h.2.w (by omega)⟩
theorem kR.w {j : Nat} {x : Int32} {M M1 : ml_M} (h : kR M M1) (hj : j < 6 ∨ j = 7 ∨ 10 < j ∧ j < 40) : kR M (ml_w M1 12 j x) := ⟨fun q a => by rw [w_un (by omega)]; exact h.1 q a, fun p a => by rw [ml_w_ne a]; exact h.2 p a⟩
theorem kR.fM {M M' : ml_M} (h : kR M M') : fM M M' := ⟨fun k _ b => h.2 k b, fun q a => h.1 q (Or.inl (by omega)), fun q _ => by rw [h.2 11 (by decide)]⟩
/-- the rain on the class's side -/
def lrC (i : Nat) (M : ml_M) (v0 r : Nat) : ml_M := ml_w (ml_w (ml_w M (ml_fl i + 2) 0 (nI (v0 + r - (v0 + r - 400)))) (ml_fl i + 1) 5 (M (ml_fl i + 1) 5 + nI r)) (ml_fl i + 1) 7 (M (ml_fl i + 1) 7 + nI (v0 + r - 400))
theorem lr_c {i v0 r : Nat} {M : ml_M} (h0 : M (ml_fl i + 2) 0 = nI v0) (hv : v0 ≤ 400) (hr : M (ml_fl i + 1) 3 = nI r) (hr9 : r ≤ 9) : fX5_letRain i M = some (.inl (nI (v0 + r - 400)), lrC i M v0 r) := by
  have e1 : (400 : Int32) - nI v0 = nI (400 - v0) := pk_sub (a := 400) hv
  have e2 : (if nI (400 - v0) < nI r then nI (400 - v0) else nI r) = nI (r - (v0 + r - 400)) := by
    by_cases h : 400 - v0 < r
    · rw [if_pos ((nI_ltI (by omega) (by omega)).mpr h)]
      exact congrArg nI (by omega)
    · rw [if_neg (fun z => h ((nI_ltI (by omega) (by omega)).mp z))]
      exact congrArg nI (by omega)
  have e3 : nI r - nI (r - (v0 + r - 400)) = nI (v0 + r - 400) := by
    rw [pk_sub (by omega)]
    exact congrArg nI (by omega)
  have e4 : nI v0 + nI (r - (v0 + r - 400)) = nI (v0 + r - (v0 + r - 400)) := by
    rw [nI_add]
    exact congrArg nI (by omega)
  unfold fX5_letRain ml_lt
  dsimp only
  rw [h0, e1, hr, e2, e4]
  have r1 : ∀ q, (ml_w M (ml_fl i + 2) 0 (nI (v0 + r - (v0 + r - 400)))) (ml_fl i + 1) q = M (ml_fl i + 1) q := fun q => by rw [ml_w_ne (by omega)]
  rw [r1, r1, hr, w_un (show 7 ≠ 5 by decide), w_un (show 3 ≠ 5 by decide), r1, r1, hr, e3, w_un (show 3 ≠ 7 by decide), w_un (show 3 ≠ 5 by decide), r1, hr, e3]
  rfl
def ldC (i : Nat) (M : ml_M) (v4 d : Nat) : ml_M := ml_w (ml_w M (ml_fl i + 2) 4 (nI (v4 - d))) (ml_fl i + 1) 6 (M (ml_fl i + 1) 6 + nI (v4 - (v4 - d)))
theorem ld_c {i v4 d : Nat} {M : ml_M} (h0 : M (ml_fl i + 2) 4 = nI v4) (hv : v4 ≤ 400) (hd : M (ml_fl i + 1) 4 = nI d) (hd9 : d ≤ 9) : fX5_letDrain i M = some (.inl 0, ldC i M v4 d) := by
  have e2 : (if nI v4 < nI d then nI v4 else nI d) = nI (v4 - (v4 - d)) := by
    by_cases h : v4 < d
    · rw [if_pos ((nI_ltI (by omega) (by omega)).mpr h)]
      exact congrArg nI (by omega)
    · rw [if_neg (fun z => h ((nI_ltI (by omega) (by omega)).mp z))]
      exact congrArg nI (by omega)
  have e3 : nI v4 - nI (v4 - (v4 - d)) = nI (v4 - d) := by
    rw [pk_sub (by omega)]
    exact congrArg nI (by omega)
  unfold fX5_letDrain ml_lt
  dsimp only
  rw [h0, hd, e2, e3, ml_w_ne (show ml_fl i + 1 ≠ ml_fl i + 2 by omega)]
  rfl
/-- the class's weather -/
def pwC (i : Nat) (M : ml_M) (v0 v4 r d : Nat) (M2 : ml_M) : Prop := ∀ p, (p < ml_fl i + 12 ∨ ml_fl i + 15 ≤ p) → M2 p = ldC i (lrC i M v0 r) v4 d p
theorem weather {i : Nat} {Mc Mm : ml_M} {v o g : Nat → Nat} {r d : Nat} (hA : rA Mc i Mm v o g r d) (hB : rB Mc i Mm) (hE : rE Mc i Mm) (hS : rS Mc i) : ∃ Mc' Mm' v', fX2_passWeather i Mc = some (.inl 0, Mc') ∧ fX7_rains Mm = some (.inl 0, Mm') ∧ rA Mc' i Mm' v' o g r d ∧ rB Mc' i Mm' ∧ rE Mc' i Mm' ∧ rS Mc' i ∧ kB i Mc Mc' ∧ kR Mm Mm' := by
  obtain ⟨hv, hV, hO, hG, ⟨hr1, hr9, hr2⟩, ⟨hd1, hd9, hd2⟩⟩ := id hA
  obtain ⟨hb1, hb2, hb3, hb4⟩ := id hB
  have v0 := hv 0 (by decide)
  have v4 := hv 4 (by decide)
  have l0 : v 0 ≤ 400 := v0.2
  have l4 : v 4 ≤ 400 := v4.2
  have hm0 : Mm 12 11 = nI (v 0) := hV 0 (by decide)
  have hm4 : Mm 12 15 = nI (v 4) := hV 4 (by decide)
  -- the reference, ahead of the overflow
  obtain ⟨M2, hM2⟩ : ∃ z, z = ml_w (ml_w Mm 12 3 (Mm 12 3 + nI r)) 12 11 (nI (v 0 + r)) := ⟨_, rfl⟩
  have hm2 : fX7_rains Mm = ml_jn (fun (M6 : ml_M) => ml_jn (fun (y9 : Int32) => ml_lt (ml_w M6 12 15 ((M6 12 15) - y9)) (fun M12 => ml_lt (ml_w M12 12 4 ((M12 12 4) + y9)) (fun M13 => some ((Sum.inl 0, M13) : ml_R)))) (fun B10 => (if (M6 12 15) ≤ (M6 12 2) then B10 (M6 12 15) else B10 (M6 12 2)))) (fun B7 => (if nI (v 0 + r) - nI 400 ≤ 0 then B7 M2 else ml_lt (ml_w M2 12 11 (nI (v 0 + r) - (nI (v 0 + r) - nI 400))) (fun M14 => ml_lt (ml_w M14 12 5 ((M14 12 5) + (nI (v 0 + r) - nI 400))) (fun M15 => ml_bd (fX7_happens 115 (nI (v 0 + r) - nI 400) M15) (fun r16 M17 => B7 M17))))) := by
    unfold fX7_rains
    unfold ml_lt
    dsimp only
    have q1 : ml_w Mm 12 3 (Mm 12 3 + Mm 12 1) 12 1 = nI r := by rw [w_un (by decide)]; exact hr2
    have q2 : ml_w Mm 12 3 (Mm 12 3 + Mm 12 1) 12 11 = nI (v 0) := by rw [w_un (by decide)]; exact hm0
    rw [q1, q2, nI_add, hr2, ← hM2]
    have q3 : M2 12 11 = nI (v 0 + r) := by rw [hM2, w_at]
    show ml_jn _ (fun B7 => if M2 12 11 - 40 * 10 ≤ 0 then _ else _) = _
    rw [show (40 : Int32) * 10 = nI 400 from rfl, q3]
    rfl
  -- the drain on the reference's side
  have dr : ∀ M6 : ml_M, M6 12 15 = nI (v 4) → M6 12 2 = nI d → ml_jn (fun (y9 : Int32) => ml_lt (ml_w M6 12 15 ((M6 12 15) - y9)) (fun M12 => ml_lt (ml_w M12 12 4 ((M12 12 4) + y9)) (fun M13 => some ((Sum.inl 0, M13) : ml_R)))) (fun B10 => (if (M6 12 15) ≤ (M6 12 2) then B10 (M6 12 15) else B10 (M6 12 2))) = some (.inl 0, ml_w (ml_w M6 12 15 (nI (v 4 - d))) 12 4 (M6 12 4 + nI (v 4 - (v 4 - d)))) := by
    intro M6 h15 h2
    have go : ∀ y, y = nI (v 4 - (v 4 - d)) → ml_lt (ml_w M6 12 15 ((M6 12 15) - y)) (fun M12 => ml_lt (ml_w M12 12 4 ((M12 12 4) + y)) (fun M13 => some ((Sum.inl 0, M13) : ml_R))) = some (.inl 0, ml_w (ml_w M6 12 15 (nI (v 4 - d))) 12 4 (M6 12 4 + nI (v 4 - (v 4 - d)))) := by
      intro y hy
      subst hy
      unfold ml_lt
      dsimp only
      rw [h15, w_un (show 4 ≠ 15 by decide), pk_sub (by omega), show v 4 - (v 4 - (v 4 - d)) = v 4 - d by omega]
    unfold ml_jn
    dsimp only
    by_cases h : v 4 ≤ d
    · rw [if_pos (by rw [h15, h2]; exact (nI_leI (by omega) (by omega)).mpr h)]
      exact go _ (by rw [h15]; exact congrArg nI (by omega))
    · rw [if_neg (by rw [h15, h2]; exact fun z => h ((nI_leI (by omega) (by omega)).mp z))]
      exact go _ (by rw [h2]; exact congrArg nI (by omega))
  have hpw : fX2_passWeather i Mc = ml_jn (fun (M3 : ml_M) => ml_bd (fX5_letDrain i M3) (fun r6 M7 => some ((Sum.inl 0, M7) : ml_R))) (fun B4 => (if nI (v 0 + r - 400) ≤ 0 then B4 (lrC i Mc (v 0) r) else ml_bd (fX0_note i 115 (nI (v 0 + r - 400)) (lrC i Mc (v 0) r)) (fun r8 M9 => B4 M9))) := by
    unfold fX2_passWeather
    rw [lr_c v0.1 l0 hr1 hr9, bd_l]
  -- what the class's side holds behind the rain and behind the drain
  have rd2 : ∀ q, lrC i Mc (v 0) r (ml_fl i + 2) q = upd (Mc (ml_fl i + 2)) 0 (nI (v 0 + r - (v 0 + r - 400))) q := fun q => by
    unfold lrC
    rw [ml_w_ne (by omega), ml_w_ne (by omega), ml_w_at]
  have rdo : ∀ p, p ≠ ml_fl i + 1 → p ≠ ml_fl i + 2 → lrC i Mc (v 0) r p = Mc p := fun p a b => by
    unfold lrC
    rw [ml_w_ne a, ml_w_ne a, ml_w_ne b]
  have rd1 : ∀ q, lrC i Mc (v 0) r (ml_fl i + 1) q = if q = 7 then Mc (ml_fl i + 1) 7 + nI (v 0 + r - 400) else if q = 5 then Mc (ml_fl i + 1) 5 + nI r else Mc (ml_fl i + 1) q := fun q => by
    unfold lrC
    by_cases h7 : q = 7
    · subst h7; rw [w_at, if_pos rfl]
    rw [w_un h7, if_neg h7]
    by_cases h5 : q = 5
    · subst h5; rw [w_at, if_pos rfl]
    rw [w_un h5, if_neg h5, ml_w_ne (by omega)]
  have fin : ∀ (N Nm : ml_M), (∀ p, (p < ml_fl i + 12 ∨ ml_fl i + 15 ≤ p) → N p = lrC i Mc (v 0) r p) → rE N i Nm → (∀ p, p ≠ 12 → Nm p = Mm p) → Nm 12 11 = nI (v 0 + r - (v 0 + r - 400)) → Nm 12 3 = Mm 12 3 + nI r → Nm 12 5 = Mm 12 5 + nI (v 0 + r - 400) → (∀ q, (q < 3 ∨ q = 4 ∨ q = 6 ∨ 7 < q ∧ q < 11 ∨ 11 < q ∧ q < 24 ∨ 40 ≤ q) → Nm 12 q = Mm 12 q) → ∃ Mc' Mm' v', ml_bd (fX5_letDrain i N) (fun r6 M7 => some ((Sum.inl 0, M7) : ml_R)) = some (.inl 0, Mc') ∧ some ((Sum.inl 0, ml_w (ml_w Nm 12 15 (nI (v 4 - d))) 12 4 (Nm 12 4 + nI (v 4 - (v 4 - d)))) : ml_R) = some (.inl 0, Mm') ∧ rA Mc' i Mm' v' o g r d ∧ rB Mc' i Mm' ∧ rE Mc' i Mm' ∧ rS Mc' i ∧ kB i Mc Mc' ∧ kR Mm Mm' := by
    intro N Nm hN hE9 hNp h11 h3 h5 hq
    have n1 : N (ml_fl i + 1) = lrC i Mc (v 0) r (ml_fl i + 1) := hN _ (by omega)
    have n2 : N (ml_fl i + 2) = lrC i Mc (v 0) r (ml_fl i + 2) := hN _ (by omega)
    have x4 : N (ml_fl i + 2) 4 = nI (v 4) := by rw [n2, rd2, pk_un (by decide)]; exact v4.1
    have xd : N (ml_fl i + 1) 4 = nI d := by rw [n1, rd1, if_neg (by decide), if_neg (by decide)]; exact hd1
    have hN4 : Nm 12 4 = Mm 12 4 := hq 4 (by omega)
    refine ⟨ldC i N (v 4) d, _, fun j => if j = 0 then v 0 + r - (v 0 + r - 400) else if j = 4 then v 4 - d else v j, by rw [ld_c x4 l4 xd hd9]; rfl, rfl, ⟨fun j hj => ?_, fun j hj => ?_, fun j hj => ?_, fun j hj => ?_, ⟨?_, hr9, ?_⟩, ⟨?_, hd9, ?_⟩⟩, ⟨?_, ?_, ?_, ?_⟩, ?_, ?_, ⟨fun o2 a b => ?_, fun k hk => ?_⟩, ⟨fun q hq9 => ?_, fun p hp => ?_⟩⟩
    · unfold ldC
      rw [ml_w_ne (by omega), ml_w_at, n2]
      rcases i_lt5 hj with rfl | rfl | rfl | rfl | rfl
      · rw [pk_un (by decide), rd2, pk_us]
        exact ⟨rfl, by show v 0 + r - (v 0 + r - 400) ≤ 400; omega⟩
      · rw [pk_un (by decide), rd2, pk_un (by decide)]; exact hv 1 (by decide)
      · rw [pk_un (by decide), rd2, pk_un (by decide)]; exact hv 2 (by decide)
      · rw [pk_un (by decide), rd2, pk_un (by decide)]; exact hv 3 (by decide)
      · rw [pk_us]
        exact ⟨rfl, by show v 4 - d ≤ 400; omega⟩
    · rcases i_lt5 hj with rfl | rfl | rfl | rfl | rfl
      · rw [w_un (by decide), w_un (by decide)]; exact h11
      · rw [w_un (by decide), w_un (by decide), hq _ (by omega)]; exact hV 1 (by decide)
      · rw [w_un (by decide), w_un (by decide), hq _ (by omega)]; exact hV 2 (by decide)
      · rw [w_un (by decide), w_un (by decide), hq _ (by omega)]; exact hV 3 (by decide)
      · rw [w_un (by decide), w_at]; rfl
    · unfold ldC
      rw [ml_w_ne (by omega), ml_w_ne (by omega), hN _ (by omega), rdo _ (by omega) (by omega), w_un (by omega), w_un (by omega), hq _ (by omega)]
      exact hO j hj
    · unfold ldC
      rw [ml_w_ne (by omega), ml_w_ne (by omega), hN _ (by omega), rdo _ (by omega) (by omega), w_un (by omega), w_un (by omega), hq _ (by omega)]
      exact hG j hj
    · unfold ldC
      rw [w_un (by decide), ml_w_ne (by omega), n1, rd1, if_neg (by decide), if_neg (by decide)]
      exact hr1
    · rw [w_un (by decide), w_un (by decide), hq _ (by omega)]; exact hr2
    · unfold ldC
      rw [w_un (by decide), ml_w_ne (by omega)]
      exact xd
    · rw [w_un (by decide), w_un (by decide), hq _ (by omega)]; exact hd2
    · unfold ldC
      rw [w_un (by decide), w_un (by decide), h3, hb1, w_un (by decide), ml_w_ne (by omega), n1, rd1, if_neg (by decide), if_pos rfl]
    · unfold ldC
      rw [w_at, w_at, hN4, hb2, n1, rd1, if_neg (by decide), if_neg (by decide)]
    · unfold ldC
      rw [w_un (by decide), w_un (by decide), h5, hb3, w_un (by decide), ml_w_ne (by omega), n1, rd1, if_pos rfl]
    · unfold ldC
      rw [w_un (by decide), w_un (by decide), hq _ (by omega), ml_w_ne (by omega), ml_w_ne (by omega), hN _ (by omega), rdo _ (by omega) (by omega)]
      exact hb4
    · refine rE.of hE9 (fun o2 a b => ?_) ?_ (fun q a b => ?_)
      · unfold ldC
        rw [ml_w_ne (by omega), ml_w_ne (by omega)]
      · rw [w_un (by decide), w_un (by decide)]
      · rw [w_un (by omega), w_un (by omega)]
    · unfold rS at hS ⊢
      have s1 : wsum (ldC i N (v 4) d (ml_fl i + 2)) = wsum (Mc (ml_fl i + 2)) + nI r - nI (v 0 + r - 400) - nI (v 4 - (v 4 - d)) := by
        unfold ldC
        rw [ml_w_ne (by omega), ml_w_at, n2]
        unfold wsum
        rw [pk_un (by decide), pk_un (by decide), pk_un (by decide), pk_un (by decide), pk_us, rd2, rd2, rd2, rd2, pk_us, pk_un (by decide), pk_un (by decide), pk_un (by decide), v0.1, v4.1]
        have a1 : nI (v 0 + r - (v 0 + r - 400)) = nI (v 0) + nI r - nI (v 0 + r - 400) := by rw [nI_add, pk_sub (by omega)]
        have a2 : nI (v 4 - d) = nI (v 4) - nI (v 4 - (v 4 - d)) := by
          rw [pk_sub (by omega)]
          exact congrArg nI (by omega)
        rw [a1, a2]
        grind
      have s2 : wacc (ldC i N (v 4) d (ml_fl i + 1)) = wacc (Mc (ml_fl i + 1)) + nI r - nI (v 0 + r - 400) - nI (v 4 - (v 4 - d)) := by
        unfold ldC wacc
        rw [w_at, w_un (by decide), w_un (by decide), ml_w_ne (by omega), n1, rd1, rd1, rd1, if_neg (by decide), if_pos rfl, if_neg (by decide), if_neg (by decide), if_pos rfl]
        grind
      rw [s1, s2, hS]
    · unfold ldC
      rw [ml_w_ne (by omega), ml_w_ne (by omega), hN _ (by omega), rdo _ (by omega) (by omega)]
    · unfold ldC
      rw [ml_w_ne (by omega), ml_w_ne (by omega), hN _ (by omega), rdo _ (by omega) (by omega)]
    · rw [w_un (by omega), w_un (by omega)]
      exact hq q (by omega)
    · rw [ml_w_ne hp, ml_w_ne hp]
      exact hNp p hp
  by_cases hov : v 0 + r ≤ 400
  · have z0 : v 0 + r - 400 = 0 := by omega
    have c1 : nI (v 0 + r - 400) ≤ 0 := by rw [z0]; decide
    have c2 : nI (v 0 + r) - nI 400 ≤ 0 := by
      rw [w_neg hov, Int32.le_iff_toInt_le, w_toInt (by omega)]
      have : (0 : Int32).toInt = 0 := by decide
      omega
    rw [hpw, hm2]
    unfold ml_jn
    dsimp only
    rw [if_pos c1, if_pos c2]
    have m15 : M2 12 15 = nI (v 4) := by rw [hM2, w_un (by decide), w_un (by decide)]; exact hm4
    have m2 : M2 12 2 = nI d := by rw [hM2, w_un (by decide), w_un (by decide)]; exact hd2
    have hdr := dr M2 m15 m2
    unfold ml_jn at hdr
    dsimp only at hdr ⊢
    rw [hdr]
    refine fin _ M2 (fun p _ => rfl) (rE.of hE (fun o2 a b => rdo _ (by omega) (by omega)) ?_ (fun q a b => ?_)) (fun p hp => ?_) ?_ ?_ ?_ (fun q hq => ?_)
    · rw [hM2, w_un (by decide), w_un (by decide)]
    · rw [hM2, w_un (by omega), w_un (by omega)]
    · rw [hM2, ml_w_ne hp, ml_w_ne hp]
    · rw [hM2, w_at, z0]; rfl
    · rw [hM2, w_un (by decide), w_at]
    · rw [hM2, w_un (by decide), w_un (by decide), z0]
      exact (Int32.add_zero _).symm
    · rw [hM2, w_un (by omega), w_un (by omega)]
  · have c1 : ¬ nI (v 0 + r - 400) ≤ 0 := nI_nle (by omega) (by omega)
    have e9 : nI (v 0 + r) - nI 400 = nI (v 0 + r - 400) := pk_sub (by omega)
    rw [hpw, hm2, e9]
    unfold ml_jn
    dsimp only
    rw [if_neg c1, if_neg c1]
    have m15 : M2 12 15 = nI (v 4) := by rw [hM2, w_un (by decide), w_un (by decide)]; exact hm4
    have m2 : M2 12 2 = nI d := by rw [hM2, w_un (by decide), w_un (by decide)]; exact hd2
    obtain ⟨M3, hM3⟩ : ∃ z, z = ml_w (ml_w M2 12 11 (nI (v 0 + r) - nI (v 0 + r - 400))) 12 5 (M2 12 5 + nI (v 0 + r - 400)) := ⟨_, rfl⟩
    have hE3 : rE (lrC i Mc (v 0) r) i M3 := by
      refine rE.of hE (fun o2 a b => rdo _ (by omega) (by omega)) ?_ (fun q a b => ?_)
      · rw [hM3, hM2, w_un (by decide), w_un (by decide), w_un (by decide), w_un (by decide)]
      · rw [hM3, hM2, w_un (by omega), w_un (by omega), w_un (by omega), w_un (by omega)]
    obtain ⟨N, Nm, g1, g2, g3, g4, g5, g6⟩ := hE3.note (k := 115) (x := nI (v 0 + r - 400)) (by decide) (by decide) (Or.inr (Or.inr ⟨rfl, v 0 + r - 400, by omega, by have := (hv 0 (by decide)).2; have : lim 0 = 400 := rfl; omega, rfl⟩))
    have k1 : (115 : Int32) = nI 115 := rfl
    unfold ml_lt
    dsimp only
    rw [k1, g1, w_un (show 5 ≠ 11 by decide), ← hM3, g2]
    have hdr := dr Nm (by rw [g6 _ (by omega), hM3, w_un (by decide), w_un (by decide)]; exact m15) (by rw [g6 _ (by omega), hM3, w_un (by decide), w_un (by decide)]; exact m2)
    unfold ml_jn ml_lt at hdr
    dsimp only at hdr
    rw [bd_l, bd_l]
    rw [hdr]
    refine fin N Nm g4 g3 (fun p hp => ?_) ?_ ?_ ?_ (fun q hq => ?_)
    · rw [g5 p hp, hM3, hM2, ml_w_ne hp, ml_w_ne hp, ml_w_ne hp, ml_w_ne hp]
    · rw [g6 _ (by omega), hM3, w_un (by decide), w_at, pk_sub (by omega)]
    · rw [g6 _ (by omega), hM3, hM2, w_un (by decide), w_un (by decide), w_un (by decide), w_at]
    · rw [g6 _ (by omega), hM3, w_at, hM2, w_un (by decide), w_un (by decide)]
    · rw [g6 _ (by omega), hM3, hM2, w_un (by omega), w_un (by omega), w_un (by omega), w_un (by omega)]
theorem wfl_congr {V W : Nat → Int32} {s g : Int32} {a : Nat} (h1 : V a = W a) (h2 : V (a + 1) = W (a + 1)) : wfl V s g a = wfl W s g a := by
  unfold wfl wq wd
  rw [h1, h2]
def mvC (i : Nat) (M : ml_M) (a : Nat) (F : Int32) : ml_M := ml_w (ml_w M (ml_fl i + 2) a (M (ml_fl i + 2) a - F)) (ml_fl i + 2) (a + 1) (M (ml_fl i + 2) (a + 1) + F)
def mvM (M : ml_M) (a : Nat) (F : Int32) : ml_M := ml_w (ml_w M 12 (11 + a) (M 12 (11 + a) - F)) 12 (12 + a) (M 12 (12 + a) + F)
theorem mv_c {i a : Nat} (ha : a < 4) (F : Int32) (M : ml_M) : fX5_moveDown i (nI a) F M = some (.inl 0, mvC i M a F) := by
  unfold fX5_moveDown ml_lt
  rw [nI_1, if_pos (ok_nI (by omega) (by decide)), if_pos (ok_nI (by omega) (by decide))]
  dsimp only
  rw [if_pos (ok_nI (by omega) (by decide)), if_pos (ok_nI (by omega) (by decide)), nI_clamp (by omega), nI_clamp (by omega), w_un (by omega)]
  rfl
theorem wsum_mv {V : Nat → Int32} {F : Int32} {a : Nat} (ha : a < 4) : wsum (upd (upd V a (V a - F)) (a + 1) (V (a + 1) + F)) = wsum V := by
  unfold wsum upd
  rcases i_lt4 ha with rfl | rfl | rfl | rfl <;> simp <;> grind
/-- one gate's flow on both sides -/
theorem flow1 {i a : Nat} {Mc Mm : ml_M} {v o g : Nat → Nat} {r d : Nat} (ha : a < 4) (hA : rA Mc i Mm v o g r d) (hB : rB Mc i Mm) (hE : rE Mc i Mm) (hS : rS Mc i) : ∃ F v', fX5_flowDown i (nI a) Mc = some (.inl F, Mc) ∧ fX7_flows (nI a) Mm = some (.inl F, Mm) ∧ rA (mvC i Mc a F) i (mvM Mm a F) v' o g r d ∧ rB (mvC i Mc a F) i (mvM Mm a F) ∧ rE (mvC i Mc a F) i (mvM Mm a F) ∧ rS (mvC i Mc a F) i ∧ kB i Mc (mvC i Mc a F) ∧ kR Mm (mvM Mm a F) := by
  obtain ⟨hv, hV, hO, hG, ⟨hr1, hr9, hr2⟩, ⟨hd1, hd9, hd2⟩⟩ := id hA
  obtain ⟨F, hF⟩ : ∃ F, F = wfl (Mc (ml_fl i + 2)) (nI (o a)) (nI (g a)) a := ⟨_, rfl⟩
  have hc : fX5_flowDown i (nI a) Mc = some (.inl F, Mc) := by rw [wfl_c ha (hO a ha).2.1 (hO a ha).1, hF, (hO a ha).1, (hG a ha).1]
  have hm : fX7_flows (nI a) Mm = some (.inl F, Mm) := by
    rw [wfl_m ha, hF, (hO a ha).2.2, (hG a ha).2.2]
    rw [wfl_congr (V := fun j => Mm 12 (11 + j)) (W := Mc (ml_fl i + 2)) ((hV a (by omega)).trans (hv a (by omega)).1.symm) ((hV (a + 1) (by omega)).trans (hv (a + 1) (by omega)).1.symm)]
  have r2 : mvC i Mc a F (ml_fl i + 2) = upd (upd (Mc (ml_fl i + 2)) a (Mc (ml_fl i + 2) a - F)) (a + 1) (Mc (ml_fl i + 2) (a + 1) + F) := by
    unfold mvC
    rw [ml_w_at, ml_w_at]
  have ro : ∀ p, p ≠ ml_fl i + 2 → mvC i Mc a F p = Mc p := fun p hp => by
    unfold mvC
    rw [ml_w_ne hp, ml_w_ne hp]
  have rm : ∀ q, q ≠ 11 + a → q ≠ 12 + a → mvM Mm a F 12 q = Mm 12 q := fun q h1 h2 => by
    unfold mvM
    rw [w_un h2, w_un h1]
  have hnv := nv_ok hv ha (hO a ha).2.1 (hG a ha).2.1
  rw [← hF] at hnv
  refine ⟨F, nv v (o a) (g a) a, hc, hm, ⟨by rw [r2]; exact hnv, fun j hj => ?_, fun j hj => ?_, fun j hj => ?_, ⟨?_, hr9, ?_⟩, ⟨?_, hd9, ?_⟩⟩, ⟨?_, ?_, ?_, ?_⟩, rE.of hE (fun o2 a2 b2 => ro _ (by omega)) (rm _ (by omega) (by omega)) (fun q a2 b2 => rm _ (by omega) (by omega)), ?_, ⟨fun o2 a2 b2 => ro _ (by omega), fun k hk => ro _ (by omega)⟩, ⟨fun q hq => rm _ (by omega) (by omega), fun p hp => ?_⟩⟩
  · rw [← (hnv j hj).1]
    by_cases h1 : j = a + 1
    · subst h1
      rw [pk_us]
      unfold mvM
      rw [show 11 + (a + 1) = 12 + a by omega, w_at, show 12 + a = 11 + (a + 1) by omega, hV _ hj, (hv _ hj).1]
    · rw [pk_un h1]
      by_cases h0 : j = a
      · subst h0
        rw [pk_us]
        unfold mvM
        rw [w_un (by omega), w_at, hV _ hj, (hv _ hj).1]
      · rw [pk_un h0, rm _ (by omega) (by omega), hV _ hj, (hv _ hj).1]
  · rw [ro _ (by omega), rm _ (by omega) (by omega)]; exact hO j hj
  · rw [ro _ (by omega), rm _ (by omega) (by omega)]; exact hG j hj
  · rw [ro _ (by omega)]; exact hr1
  · rw [rm _ (by omega) (by omega)]; exact hr2
  · rw [ro _ (by omega)]; exact hd1
  · rw [rm _ (by omega) (by omega)]; exact hd2
  · rw [ro _ (by omega), rm _ (by omega) (by omega)]; exact hB.1
  · rw [ro _ (by omega), rm _ (by omega) (by omega)]; exact hB.2.1
  · rw [ro _ (by omega), rm _ (by omega) (by omega)]; exact hB.2.2.1
  · rw [ro _ (by omega), rm _ (by omega) (by omega)]; exact hB.2.2.2
  · unfold rS at hS ⊢
    rw [r2, wsum_mv ha, ro _ (by omega)]
    exact hS
  · unfold mvM
    rw [ml_w_ne hp, ml_w_ne hp]
/-- a gate's step of the two loops -/
theorem flowL {i a : Nat} {Mc Mm : ml_M} {v o g : Nat → Nat} {r d : Nat} (ha : a < 4) (hA : rA Mc i Mm v o g r d) (hB : rB Mc i Mm) (hE : rE Mc i Mm) (hS : rS Mc i) : ∃ Mc' Mm' v', (∀ a0 n x1 x2 x3, fX2_passMinutes_l i a0 (n + 1) 1 x1 x2 x3 (nI a) Mc = fX2_passMinutes_l i a0 n 1 x1 x2 x3 (nI (a + 1)) Mc') ∧ (∀ n x1, fX7_ticks_l (n + 1) 0 x1 (nI a) 0 Mm = fX7_ticks_l n 0 x1 (nI (a + 1)) 0 Mm') ∧ rA Mc' i Mm' v' o g r d ∧ rB Mc' i Mm' ∧ rE Mc' i Mm' ∧ rS Mc' i ∧ kB i Mc Mc' ∧ kR Mm Mm' := by
  obtain ⟨F, v', h1, h2, h3, h4, h5, h6, h7, h8⟩ := flow1 ha hA hB hE hS
  refine ⟨_, _, v', fun a0 n x1 x2 x3 => ?_, fun n x1 => ?_, h3, h4, h5, h6, h7, h8⟩
  · show fX2_passMinutes_s1 i a0 (fX2_passMinutes_l i a0 n) x1 x2 x3 (nI a) Mc = _
    unfold fX2_passMinutes_s1
    rw [if_neg (fun z => by have := (nI_leI (a := 4) (b := a) (by decide) (by omega)).mp z; omega), h1, bd_l, mv_c ha, bd_l, nI_1]
  · show fX7_ticks_s0 (fX7_ticks_l n) x1 (nI a) 0 Mm = _
    unfold fX7_ticks_s0 ml_lt
    have e1 : (11 : Int32) + nI a = nI (11 + a) := nIl 11 a
    rw [if_neg (fun z => by have := (nI_leI (a := 4) (b := a) (by decide) (by omega)).mp z; omega), h2, bd_l, e1, nI_1, nI_1, if_pos (ok_nI (by omega) (by decide)), if_pos (ok_nI (by omega) (by decide))]
    dsimp only
    rw [if_pos (ok_nI (by omega) (by decide)), if_pos (ok_nI (by omega) (by decide)), nI_clamp (by omega), nI_clamp (by omega), w_un (by omega), show 11 + a + 1 = 12 + a by omega]
    rfl
/-- the four gates -/
theorem flow4 {i : Nat} {Mc Mm : ml_M} {v o g : Nat → Nat} {r d : Nat} (hA : rA Mc i Mm v o g r d) (hB : rB Mc i Mm) (hE : rE Mc i Mm) (hS : rS Mc i) : ∃ Mc' Mm' v', (∀ a0 n x1 x2 x3, fX2_passMinutes_l i a0 (n + 4) 1 x1 x2 x3 0 Mc = fX2_passMinutes_l i a0 n 1 x1 x2 x3 4 Mc') ∧ (∀ n x1, fX7_ticks_l (n + 4) 0 x1 0 0 Mm = fX7_ticks_l n 0 x1 4 0 Mm') ∧ rA Mc' i Mm' v' o g r d ∧ rB Mc' i Mm' ∧ rE Mc' i Mm' ∧ rS Mc' i ∧ kB i Mc Mc' ∧ kR Mm Mm' := by
  obtain ⟨C1, R1, v1, a1, b1, A1, B1, E1, S1, k1, m1⟩ := flowL (a := 0) (by decide) hA hB hE hS
  obtain ⟨C2, R2, v2, a2, b2, A2, B2, E2, S2, k2, m2⟩ := flowL (a := 1) (by decide) A1 B1 E1 S1
  obtain ⟨C3, R3, v3, a3, b3, A3, B3, E3, S3, k3, m3⟩ := flowL (a := 2) (by decide) A2 B2 E2 S2
  obtain ⟨C4, R4, v4, a4, b4, A4, B4, E4, S4, k4, m4⟩ := flowL (a := 3) (by decide) A3 B3 E3 S3
  exact ⟨C4, R4, v4, fun a0 n x1 x2 x3 => ((a1 a0 (n + 3) x1 x2 x3).trans (a2 a0 (n + 2) x1 x2 x3)).trans ((a3 a0 (n + 1) x1 x2 x3).trans (a4 a0 n x1 x2 x3)), fun n x1 => ((b1 (n + 3) x1).trans (b2 (n + 2) x1)).trans ((b3 (n + 1) x1).trans (b4 n x1)), A4, B4, E4, S4, k1.tr (k2.tr (k3.tr k4)), m1.tr (m2.tr (m3.tr m4))⟩
