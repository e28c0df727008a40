/-! ANOTHER BUILDER beside the class's own. -/
theorem li_ctB {g : ml_G} {B : Nat → Prop} {bq aq sq tq : Nat} {Bs : List Int32} {k : Nat} (h9 : k ≠ 9) (h10 : k ≠ 10) (m : Nat → Int32) : ml_ct (li_gB g B bq aq sq tq Bs) k m = ml_ct g k m := by
  have key : ∀ j, j ≠ 9 → j ≠ 10 → (li_gB g B bq aq sq tq Bs).2.2.2.1 j = g.2.2.2.1 j := fun j a b => by
    show (if j = 9 then bq else if j = 10 then aq else g.2.2.2.1 j) = _
    rw [if_neg a, if_neg b]
  have kr : ∀ j, j ≠ 9 → j ≠ 10 → ml_rf (li_gB g B bq aq sq tq Bs) j = ml_rf g j := fun j a b => congrArg Value.ref (key j a b)
  unfold ml_ct
  by_cases hk : k < 16
  · rw [if_pos hk, if_pos hk]
    rcases (show k = 0 ∨ k = 1 ∨ k = 2 ∨ k = 3 ∨ k = 4 ∨ k = 5 ∨ k = 6 ∨ k = 7 ∨ k = 8 ∨ k = 11 ∨ k = 12 ∨ k = 13 ∨ k = 14 ∨ k = 15 by omega) with rfl | rfl | rfl | rfl | rfl | rfl | rfl | rfl | rfl | rfl | rfl | rfl | rfl | rfl
    · show (.inr (10, _) : va_E) = .inr (10, _)
      rw [kr (ml_fl 0) (by decide) (by decide), kr (ml_fl 1) (by decide) (by decide), kr (ml_fl 2) (by decide) (by decide), kr 1 (by decide) (by decide), kr 3 (by decide) (by decide), kr 11 (by decide) (by decide)]
    · show (.inr (7, _) : va_E) = .inr (7, _)
      rw [kr 2 (by decide) (by decide)]
    · show (.inl (g.2.2.1 3, 8, .inr (.inr (.inr (.inr (fun i => some ((li_gB g B bq aq sq tq Bs).2.2.2.1 (ml_fl (3 + i)))))))) : va_E) = .inl (g.2.2.1 3, 8, .inr (.inr (.inr (.inr (fun i => some (g.2.2.2.1 (ml_fl (3 + i))))))))
      have e : (fun i => some ((li_gB g B bq aq sq tq Bs).2.2.2.1 (ml_fl (3 + i)))) = fun i => some (g.2.2.2.1 (ml_fl (3 + i))) := funext fun i => by rw [key _ (by unfold ml_fl; omega) (by unfold ml_fl; omega)]
      rw [e]
    · show (.inr (8, _) : va_E) = .inr (8, _)
      rw [kr 4 (by decide) (by decide), kr 5 (by decide) (by decide), kr 6 (by decide) (by decide), kr 7 (by decide) (by decide), kr 8 (by decide) (by decide)]
    all_goals rfl
  · rw [if_neg hk, if_neg hk]
    obtain ⟨b, hb⟩ : ∃ b, b = 16 + 15 * ((k - 16) / 15) := ⟨_, rfl⟩
    rw [← hb]
    have hb2 : 16 ≤ b := by omega
    have kb : ∀ o, ml_rf (li_gB g B bq aq sq tq Bs) (b + o) = ml_rf g (b + o) := fun o => kr _ (by omega) (by omega)
    unfold ml_flk
    split <;> first | rfl | simp only [kb]
def li_sw (i : Nat) : Nat := if i = 9 then 176 else if i = 10 then 177 else if i = 176 then 9 else if i = 177 then 10 else i
theorem li_sw_sw (i : Nat) : li_sw (li_sw i) = i := by
  unfold li_sw
  by_cases h1 : i = 9
  · subst h1; rfl
  by_cases h2 : i = 10
  · subst h2; rfl
  by_cases h3 : i = 176
  · subst h3; rfl
  by_cases h4 : i = 177
  · subst h4; rfl
  rw [if_neg h1, if_neg h2, if_neg h3, if_neg h4, if_neg h1, if_neg h2, if_neg h3, if_neg h4]
theorem li_sw_at {g : ml_G} {B : Nat → Prop} {bq aq sq tq : Nat} {Bs : List Int32} {M : ml_M} {mb ma : Nat → Int32} {X : va_W} (i : Nat) :
    (ml_wm (li_gB g B bq aq sq tq Bs) (li_mB M mb ma) ++ (g.2.2.2.1 9, ml_ct g 9 (M 9)) :: (g.2.2.2.1 10, ml_ct g 10 (M 10)) :: X)[i]? = (ml_wm g M ++ (bq, li_cb aq mb) :: (aq, li_ca g ma) :: X)[li_sw i]? := by
  have gt : ∀ (W : va_W) (a b : Nat × va_E) (Y : va_W), W.length = 176 → (W ++ a :: b :: Y)[176]? = some a ∧ (W ++ a :: b :: Y)[177]? = some b ∧ ∀ j, 178 ≤ j → (W ++ a :: b :: Y)[j]? = Y[j - 178]? := fun W a b Y hl => by
    refine ⟨?_, ?_, fun j hj => ?_⟩
    · rw [List.getElem?_append_right (by omega), hl]; rfl
    · rw [List.getElem?_append_right (by omega), hl]; rfl
    · rw [List.getElem?_append_right (by omega), hl, show j - 176 = j - 178 + 2 by omega]; rfl
  have l1 : (ml_wm (li_gB g B bq aq sq tq Bs) (li_mB M mb ma)).length = 176 := ml_wm_len
  have l2 : (ml_wm g M).length = 176 := ml_wm_len
  by_cases hi : i < 176
  · rw [List.getElem?_append_left (by omega), ml_wm_ai hi]
    by_cases h9 : i = 9
    · subst h9
      rw [show li_sw 9 = 176 from rfl, (gt _ _ _ _ l2).1]
      rfl
    by_cases h10 : i = 10
    · subst h10
      rw [show li_sw 10 = 177 from rfl, (gt _ _ _ _ l2).2.1]
      rfl
    have hs : li_sw i = i := by unfold li_sw; rw [if_neg h9, if_neg h10, if_neg (by omega), if_neg (by omega)]
    have hp9 : ml_pk i ≠ 9 := fun e => h9 (by have := (ml_pk_vp hi).2; rw [e] at this; exact this.symm)
    have hp10 : ml_pk i ≠ 10 := fun e => h10 (by have := (ml_pk_vp hi).2; rw [e] at this; exact this.symm)
    rw [hs, List.getElem?_append_left (by omega), ml_wm_ai hi, li_ctB hp9 hp10]
    have e1 : (li_gB g B bq aq sq tq Bs).2.2.2.1 (ml_pk i) = g.2.2.2.1 (ml_pk i) := by
      show (if ml_pk i = 9 then bq else if ml_pk i = 10 then aq else g.2.2.2.1 (ml_pk i)) = _
      rw [if_neg hp9, if_neg hp10]
    have e2 : li_mB M mb ma (ml_pk i) = M (ml_pk i) := by
      unfold li_mB
      rw [if_neg hp9, if_neg hp10]
    rw [e1, e2]
  · by_cases h6 : i = 176
    · subst h6
      rw [(gt _ _ _ _ l1).1, show li_sw 176 = 9 from rfl, List.getElem?_append_left (by omega), ml_wm_ai (by decide)]
      rfl
    by_cases h7 : i = 177
    · subst h7
      rw [(gt _ _ _ _ l1).2.1, show li_sw 177 = 10 from rfl, List.getElem?_append_left (by omega), ml_wm_ai (by decide)]
      rfl
    have hs : li_sw i = i := by unfold li_sw; rw [if_neg (by omega), if_neg (by omega), if_neg h6, if_neg h7]
    rw [hs, (gt _ _ _ _ l1).2.2 i (by omega), (gt _ _ _ _ l2).2.2 i (by omega)]
theorem li_perm {A : Nat → Prop} {D : va_G} {cl : List vw_C} {L L2 : va_W} {H : Heap} {f : Nat → Nat} (hf : ∀ i j, f i = f j → i = j) (h : ∀ i, L2[i]? = L[f i]?) (hP : va_P D cl L H) (hD : va_D A L) : va_P D cl L2 H ∧ va_D A L2 :=
  ⟨fun k q hq => hP (f k) q (by rw [← h]; exact hq), fun i j p q hp hq e => hf i j (hD.1 _ _ p q (by rw [← h]; exact hp) (by rw [← h]; exact hq) e), fun k q hq => hD.2 (f k) q (by rw [← h]; exact hq)⟩
theorem li_sw_inj (i j : Nat) (h : li_sw i = li_sw j) : i = j := by rw [← li_sw_sw i, h, li_sw_sw]
theorem li_swP {A : Nat → Prop} {g : ml_G} {B : Nat → Prop} {bq aq sq tq : Nat} {Bs : List Int32} {M : ml_M} {mb ma : Nat → Int32} {X : va_W} {H : Heap} (hP : va_P g.2.1 vwCl (ml_wm g M ++ (bq, li_cb aq mb) :: (aq, li_ca g ma) :: X) H) (hD : va_D A (ml_wm g M ++ (bq, li_cb aq mb) :: (aq, li_ca g ma) :: X)) : va_P g.2.1 vwCl (ml_wm (li_gB g B bq aq sq tq Bs) (li_mB M mb ma) ++ (g.2.2.2.1 9, ml_ct g 9 (M 9)) :: (g.2.2.2.1 10, ml_ct g 10 (M 10)) :: X) H ∧ va_D A (ml_wm (li_gB g B bq aq sq tq Bs) (li_mB M mb ma) ++ (g.2.2.2.1 9, ml_ct g 9 (M 9)) :: (g.2.2.2.1 10, ml_ct g 10 (M 10)) :: X) :=
  li_perm li_sw_inj (fun i => li_sw_at i) hP hD
theorem li_swQ {A : Nat → Prop} {g : ml_G} {B : Nat → Prop} {bq aq sq tq : Nat} {Bs : List Int32} {M : ml_M} {mb ma : Nat → Int32} {X : va_W} {H : Heap} (hP : va_P g.2.1 vwCl (ml_wm (li_gB g B bq aq sq tq Bs) (li_mB M mb ma) ++ (g.2.2.2.1 9, ml_ct g 9 (M 9)) :: (g.2.2.2.1 10, ml_ct g 10 (M 10)) :: X) H) (hD : va_D A (ml_wm (li_gB g B bq aq sq tq Bs) (li_mB M mb ma) ++ (g.2.2.2.1 9, ml_ct g 9 (M 9)) :: (g.2.2.2.1 10, ml_ct g 10 (M 10)) :: X)) : va_P g.2.1 vwCl (ml_wm g M ++ (bq, li_cb aq mb) :: (aq, li_ca g ma) :: X) H ∧ va_D A (ml_wm g M ++ (bq, li_cb aq mb) :: (aq, li_ca g ma) :: X) :=
  li_perm li_sw_inj (fun i => by rw [li_sw_at (B := B) (sq := sq) (tq := tq) (Bs := Bs), li_sw_sw]) hP hD
theorem li_txt_2 {g : ml_G} {X : va_W} {a b : Nat × va_E} {sq tq : Nat} {Bs : List Int32} (h : li_txt g X sq tq Bs) : li_txt g (a :: b :: X) sq tq Bs := by
  rcases h with h | ⟨i, j, f, h1, h2, h3⟩
  · exact Or.inl h
  · exact Or.inr ⟨i + 2, j + 2, f, h1, h2, h3⟩
/-- what a member of the builder finds -/
theorem li_HB {g : ml_G} {A : Nat → Prop} {M : ml_M} {mb ma : Nat → Int32} {X : va_W} {bq aq sq tq : Nat} {Bs : List Int32} {s U : State} {H : Heap} {args : Array Value} {locs : List Loc} {B : Nat → Prop} (ht : ∀ w ∈ ml_all, w.before args s = true) (hK : ml_K g s) (hX : ml_X g s s.heap) (hS : va_S A s.heap H locs) (hA : ∀ q : Nat, s.heap.size ≤ q → A q) (hA2 : ∀ q : Nat, A q → ml_A g q) (hP : va_P g.2.1 vwCl (ml_wm g M ++ (bq, li_cb aq mb) :: (aq, li_ca g ma) :: X) H) (hD : va_D A (ml_wm g M ++ (bq, li_cb aq mb) :: (aq, li_ca g ma) :: X)) (hT : li_txt g X sq tq Bs) (hB : B = va_A (ml_wm (li_gB g (fun _ => True) bq aq sq tq Bs) (li_mB M mb ma)) H.size) (hU : U.heap = H) (hW : s.WarmedH U.vm) : ml_H (li_gB g B bq aq sq tq Bs) (li_mB M mb ma) U := by
  obtain ⟨hP2, hD2⟩ := li_swP (B := fun _ => True) (sq := sq) (tq := tq) (Bs := Bs) hP hD
  obtain ⟨⟨p1, d1⟩, ⟨p2, d2⟩, ap⟩ := li_pre hP2 hD2
  subst hB
  have hBB : ∀ q, va_A (ml_wm (li_gB g (fun _ => True) bq aq sq tq Bs) (li_mB M mb ma)) H.size q → ml_A g q := fun q h => hA2 q (li_sub (g := g) d1 hS hA q h)
  subst hU
  refine ⟨fun q h => Or.inr h, p1, va_K.moved hW.alike hK, d1.self, li_X (g := g) rfl (fun k a b => ?_) (fun i a => if_neg a) hBB ?_ (ml_X_to hW (cn_S hA2 hS) hX)⟩
  · show (if k = 15 then sq else if k = 45 then tq else g.2.2.2.2.1 k) = _
    rw [if_neg a, if_neg b]
  · exact li_txt_use ht hK hX hS hA2 p2 ap hBB hW (li_txt_2 hT)
theorem li_callB {E : ml_E} {g : ml_G} {A : Nat → Prop} {cc : ByteArray} {own : String} {nL lv mc ms : Nat} {ret : Option FieldType} {Q : State → Prop} {k n pc : Nat} {ls : List (Nat × Value)} {st : List Value} {y : MethodName} {yc : ByteArray} {yn : Nat} {yr : Option FieldType} {lv2 mc2 ms2 z idx : Nat} {vl2 : Int32 → ml_M → Option Value} {av : List Value} {stk : List Value} {r8 : Int32} {M : ml_M} {mb ma mb8 ma8 : Nat → Int32} {bq aq : Nat} {X : va_W} {sq tq : Nat} {Bs : List Int32} (F : li_F E g A cc own nL lv mc ms ret) (hT : li_txt g X sq tq Bs) (hy : y.cls = RJ4) (hC : ∀ B : Nat → Prop, ml_C y yc yn yr lv2 mc2 ms2 (li_gB g B bq aq sq tq Bs) vl2 (.ref bq :: av) (li_mB M mb ma) (.inl r8, li_mB M mb8 ma8)) (W1 : ml_wc y yc yn yr) (hlk2 : Cond.methodLink own idx y ∈ ml_all) (hwd : ml_wd y z) (hlv : lv2 < lv) (hk : k + mc2 ≤ mc) (hn2 : n + ms2 ≤ ms) (hz2 : av.length = z) (hsel : Cond.selects y.cls y y ∈ ml_all) (hins : Cond.instanceMethod y ∈ ml_all) (hstk : stk = av.reverse ++ .ref bq :: st) (hroom : (st.map fun v => v.category).sum ≤ 8) (hd : decode cc pc = .ok (.invokevirtual idx, 3)) (K : cn_J E g A nL Q (k + mc2) (n + ms2) (pc + 3) ls ((vl2 r8 (li_mB M mb8 ma8)).toList ++ st) (ml_wm g M ++ (bq, li_cb aq mb8) :: (aq, li_ca g ma8) :: X)) : cn_J E g A nL Q (k) (n) (pc) ls (stk) (ml_wm g M ++ (bq, li_cb aq mb) :: (aq, li_ca g ma) :: X) := by
  obtain ⟨p, e, R, s, m, args, below, meth, c⟩ := E
  obtain ⟨⟨hx, hb, ht, ho, hm, hlk⟩, ⟨hK, hX, hz, hA, hA2⟩, ⟨hR1, hR2, hR3, hR4⟩, hret⟩ := F
  intro H locs la hP hD hS hl
  obtain ⟨B, hB⟩ : ∃ B, B = va_A (ml_wm (li_gB g (fun _ => True) bq aq sq tq Bs) (li_mB M mb ma)) H.size := ⟨_, rfl⟩
  obtain ⟨hP2, hD2⟩ := li_swP (B := B) (sq := sq) (tq := tq) (Bs := Bs) hP hD
  obtain ⟨⟨p1, d1⟩, -, -⟩ := li_pre hP2 hD2
  have h4 := W1.2.2
  have hrv : ∃ cell : Cell, H[bq]? = some cell ∧ cell.vm.isStatics = false ∧ s.vm.findClass y.cls = some cell.cls := by
    rw [hy]
    exact va_recv (D := g.2.1) (cl := vwCl) (tys := ml_ty g) (q := (RJ4, TJ4, 4)) (ci := 1) hK hP rfl (q0 := 176) (by rw [List.getElem?_append_right (by rw [ml_wm_len]; exact Nat.le_refl _), ml_wm_len]; rfl)
  have hrun := vx_runV (As := av) (rest := st) (C := y.cls) (Ts := ml_all) (e := e) (R := R) (below := below) (meth := meth) (locs := locs) (cells := k) (slots := n) ⟨hx, hb, hm, ho, ht⟩ (hC B) ⟨ml_cb ht W1 hlk2 hwd hR1 hR2 hlv, ht _ hins, ht _ hsel⟩ ⟨ml_H_blind, hrv, fun U hU hW => ⟨rfl, li_HB ht hK hX hS hA hA2 hP hD hT hB hU hW⟩⟩ (g := F0 m pc la stk) rfl hz2 hl.1 hstk (lv_room hroom) hd ⟨by omega, by omega⟩
  refine li_go (g' := li_gB g B bq aq sq tq Bs) hrun hS (fun q h => li_sub (g := g) d1 hS hA q (by rw [hB] at h; exact h)) (fun H1 locs1 hP1 hk1 hS1 => ?_)
  obtain ⟨hP9, hD9⟩ := li_post hP2 hD2 hP1 li_adr (fun q h1 h2 => hk1 q h1 (fun h3 => h2 (by rw [hB] at h3; exact h3)))
  obtain ⟨hPa, hDa⟩ := li_swQ hP9 hD9
  exact K H1 locs1 la hPa hDa hS1 hl
theorem li_callU {E : ml_E} {g : ml_G} {A : Nat → Prop} {cc : ByteArray} {own : String} {nL lv mc ms : Nat} {ret : Option FieldType} {Q : State → Prop} {k n pc : Nat} {ls : List (Nat × Value)} {st : List Value} {y : MethodName} {yc : ByteArray} {yn : Nat} {yr : Option FieldType} {lv2 mc2 ms2 z idx : Nat} {vl2 : Int32 → ml_M → Option Value} {av : List Value} {stk : List Value} {r8 : Int32} {M M8 : ml_M} {X : va_W} {sq tq : Nat} {Bs : List Int32} (F : li_F E g A cc own nL lv mc ms ret) (hT : li_txt g X sq tq Bs) (hC : ∀ B : Nat → Prop, ml_C y yc yn yr lv2 mc2 ms2 (li_g0 g B sq tq Bs) vl2 (ml_rf g 9 :: av) M (.inl r8, M8)) (W1 : ml_wc y yc yn yr) (hlk2 : Cond.methodLink own idx y ∈ ml_all) (hwd : ml_wd y z) (hlv : lv2 < lv) (hk : k + mc2 ≤ mc) (hn2 : n + ms2 ≤ ms) (hz2 : av.length = z) (hsm : Cond.sameMethod y.cls y.cls y.name y.desc ∈ ml_all) (hsel : Cond.selects RJ4 y y ∈ ml_all) (hins : Cond.instanceMethod y ∈ ml_all) (hstk : stk = av.reverse ++ ml_rf g 9 :: st) (hroom : (st.map fun v => v.category).sum ≤ 8) (hd : decode cc pc = .ok (.invokevirtual idx, 3)) (K : cn_J E g A nL Q (k + mc2) (n + ms2) (pc + 3) ls ((vl2 r8 M8).toList ++ st) (ml_wm g M8 ++ X)) : cn_J E g A nL Q (k) (n) (pc) ls (stk) (ml_wm g M ++ X) := by
  obtain ⟨p, e, R, s, m, args, below, meth, c⟩ := E
  obtain ⟨⟨hx, hb, ht, ho, hm, hlk⟩, ⟨hK, hX, hz, hA, hA2⟩, ⟨hR1, hR2, hR3, hR4⟩, hret⟩ := F
  intro H locs la hP hD hS hl
  obtain ⟨⟨p1, d1⟩, -, -⟩ := li_pre hP hD
  have h4 := W1.2.2
  have hG : GoodIn ml_all (va_wsU own idx RJ4 y.cls y y (ml_ws y yc yn yr)) := ml_goods (fun w hw => by
    rcases List.mem_append.mp hw with hw | hw
    · simp only [List.mem_cons, List.mem_nil_iff, or_false] at hw
      rcases hw with rfl | rfl | rfl | rfl | rfl
      · exact hlk2
      · exact hsm
      · exact hsel
      · exact hins
      · exact W1.2.1
    · exact ml_wc_in W1 w hw)
  have hrun := vx_runU (As := av) (rest := st) (C := RJ4) (owner := y.cls) (x := y) (Ts := ml_all) (e := e) (R := R) (below := below) (meth := meth) (locs := locs) (cells := k) (slots := n) ⟨hx, hb, hm, ho, ht⟩ (hC (va_A (ml_wm g M) H.size)) (va_cwU z ht hG rfl rfl rfl rfl ⟨hwd.1, hwd.2.1, hwd.2.2⟩ ⟨by show 40 + lv2 + 1 ≤ _; omega, by show 8 + (yn + 11) + (800 + 64 * lv2) ≤ _; omega⟩) ⟨ml_H_blind, va_recv (D := g.2.1) (cl := vwCl) (tys := ml_ty g) hK p1 (ci := 1) rfl (q0 := ml_ix 9) (by rw [ml_wm_at (by decide)]; rfl), fun U hU hW => ⟨rfl, li_H0 ht hK hX hS hA hA2 hP hD hT hU hW⟩⟩ (g := F0 m pc la stk) rfl hz2 hl.1 hstk (lv_room hroom) hd ⟨by omega, by omega⟩
  refine li_go (g' := li_g0 g (va_A (ml_wm g M) H.size) sq tq Bs) hrun hS (fun q h => li_sub (g := g) d1 hS hA q h) (fun H1 locs1 hP1 hk1 hS1 => ?_)
  obtain ⟨hP9, hD9⟩ := li_post hP hD (li_P0.mp hP1) li_adr hk1
  exact K H1 locs1 la hP9 hD9 hS1 hl
theorem li_callO {E : ml_E} {g : ml_G} {A : Nat → Prop} {cc : ByteArray} {own : String} {nL lv mc ms : Nat} {ret : Option FieldType} {Q : State → Prop} {k n pc : Nat} {ls : List (Nat × Value)} {st : List Value} {y : MethodName} {yc : ByteArray} {yn : Nat} {yr : Option FieldType} {lv2 mc2 ms2 z idx : Nat} {vl2 : Int32 → ml_M → Option Value} {av : List Value} {stk : List Value} {r8 : Int32} {M M8 : ml_M} {X : va_W} {sq tq : Nat} {Bs : List Int32} {x9 : MethodName} {b0 : ByteArray} {m0 : Nat} {r0 : Option FieldType} (F : li_F E g A cc own nL lv mc ms ret) (hT : li_txt g X sq tq Bs) (hC : ∀ B : Nat → Prop, ml_C y yc yn yr lv2 mc2 ms2 (li_g0 g B sq tq Bs) vl2 (ml_rf g 9 :: av) M (.inl r8, M8)) (W1 : ml_wc y yc yn yr) (hlk2 : Cond.methodLink own idx x9 ∈ ml_all) (hwd : ml_wd x9 z) (hlv : lv2 < lv) (hk : k + mc2 ≤ mc) (hn2 : n + ms2 ≤ ms) (hz2 : av.length = z) (h0 : Cond.code x9 b0 m0 r0 ∈ ml_all) (hsm : Cond.sameMethod x9.cls x9.cls x9.name x9.desc ∈ ml_all) (hi0 : Cond.instanceMethod x9 ∈ ml_all) (hsel : Cond.selects RJ4 x9 y ∈ ml_all) (hins : Cond.instanceMethod y ∈ ml_all) (hstk : stk = av.reverse ++ ml_rf g 9 :: st) (hroom : (st.map fun v => v.category).sum ≤ 8) (hd : decode cc pc = .ok (.invokevirtual idx, 3)) (K : cn_J E g A nL Q (k + mc2) (n + ms2) (pc + 3) ls ((vl2 r8 M8).toList ++ st) (ml_wm g M8 ++ X)) : cn_J E g A nL Q (k) (n) (pc) ls (stk) (ml_wm g M ++ X) := by
  obtain ⟨p, e, R, s, m, args, below, meth, c⟩ := E
  obtain ⟨⟨hx, hb, ht, ho, hm, hlk⟩, ⟨hK, hX, hz, hA, hA2⟩, ⟨hR1, hR2, hR3, hR4⟩, hret⟩ := F
  intro H locs la hP hD hS hl
  obtain ⟨⟨p1, d1⟩, -, -⟩ := li_pre hP hD
  have h4 := W1.2.2
  have hG : GoodIn ml_all (va_wsO own idx RJ4 x9.cls x9 y (ml_ws y yc yn yr)) := ml_goods (fun w hw => by
    rcases List.mem_append.mp hw with hw | hw
    · simp only [List.mem_cons, List.mem_nil_iff, or_false] at hw
      rcases hw with rfl | rfl | rfl | rfl | rfl | rfl
      · exact hlk2
      · exact hsm
      · exact hi0
      · exact hsel
      · exact hins
      · exact W1.2.1
    · exact ml_wc_in W1 w hw)
  have hrun := vx_runU (As := av) (rest := st) (C := RJ4) (owner := x9.cls) (x := x9) (Ts := ml_all) (e := e) (R := R) (below := below) (meth := meth) (locs := locs) (cells := k) (slots := n) ⟨hx, hb, hm, ho, ht⟩ (hC (va_A (ml_wm g M) H.size)) (va_cwO z ht hG rfl rfl rfl h0 ⟨hwd.1, hwd.2.1, hwd.2.2⟩ ⟨by show 40 + lv2 + 1 ≤ _; omega, by show 8 + (yn + 11) + (800 + 64 * lv2) ≤ _; omega⟩) ⟨ml_H_blind, va_recv (D := g.2.1) (cl := vwCl) (tys := ml_ty g) hK p1 (ci := 1) rfl (q0 := ml_ix 9) (by rw [ml_wm_at (by decide)]; rfl), fun U hU hW => ⟨rfl, li_H0 ht hK hX hS hA hA2 hP hD hT hU hW⟩⟩ (g := F0 m pc la stk) rfl hz2 hl.1 hstk (lv_room hroom) hd ⟨by omega, by omega⟩
  refine li_go (g' := li_g0 g (va_A (ml_wm g M) H.size) sq tq Bs) hrun hS (fun q h => li_sub (g := g) d1 hS hA q h) (fun H1 locs1 hP1 hk1 hS1 => ?_)
  obtain ⟨hP9, hD9⟩ := li_post hP hD (li_P0.mp hP1) li_adr hk1
  exact K H1 locs1 la hP9 hD9 hS1 hl
