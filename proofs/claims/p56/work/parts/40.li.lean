/-! A LIST WORLD beside the class's memory: the law's row, its builder, its texts. -/
def li_F (E : ml_E) (g : ml_G) (A : Nat → Prop) (cc : ByteArray) (own : String) (nL lv mc ms : Nat) (ret : Option FieldType) : Prop := match E with
  | (p, _, R, s, m, args, _, meth, c) => (p.tables.exec = Jvm.exec ∧ c.code = cc ∧ (∀ w ∈ ml_all, w.before args s = true) ∧ s.vm.findClass own = some m.cls ∧ c.maxLocals = nL ∧ meth.locks = false) ∧ (ml_K g s ∧ ml_X g s s.heap ∧ (∀ q : Nat, s.heap.size ≤ q → ml_A g q) ∧ (∀ q : Nat, s.heap.size ≤ q → A q) ∧ (∀ q : Nat, A q → ml_A g q)) ∧ (40 + lv ≤ R.frames ∧ 800 + 64 * lv ≤ R.locals ∧ mc ≤ R.cells ∧ ms ≤ R.slots) ∧ meth.sig.returnType = ret
theorem iaJ0 : ∀ w ∈ u_ws RJ0 TJ0 4, w ∈ ml_all := by decide +kernel
/-- a text at two addresses -/
def ml_txq (a t : Nat) (Bs : List Int32) (A : Nat → Prop) (U : State) (H : Heap) : Prop := (va_O "java/lang/String" a A U H ∧ va_OF "java/lang/String" "coder" "B" (.int 0) a A U H ∧ va_OF "java/lang/String" "value" "[B" (.ref t) a A U H ∧ va_T .byte t Bs.length (fun j => .int (Bs.getD j 0)) A U H) ∧ ∀ j : Nat, fits .byte (.int (Bs.getD j 0)) = true
theorem ml_tx_q {g : ml_G} {U : State} {H : Heap} {i : Nat} : ml_tx g U H i = ml_txq (g.2.2.2.2.1 (10 + i)) (g.2.2.2.2.1 (40 + i)) (ml_sb g i) (ml_A g) U H := rfl
theorem ml_txq_nar {a t : Nat} {Bs : List Int32} {A B : Nat → Prop} {U : State} {H : Heap} (h : ml_txq a t Bs A U H) (hA : ∀ q, B q → A q) : ml_txq a t Bs B U H := ⟨⟨h.1.1.narrow hA, h.1.2.1.narrow hA, h.1.2.2.1.narrow hA, h.1.2.2.2.narrow hA⟩, h.2⟩
/-- the same places; another set that may change, another text as the fifth -/
def li_g0 (g : ml_G) (B : Nat → Prop) (sq tq : Nat) (Bs : List Int32) : ml_G := ((B, g.1.2.1, fun i => if i = 5 then Bs else g.1.2.2 i), g.2.1, g.2.2.1, g.2.2.2.1, (fun k => if k = 15 then sq else if k = 45 then tq else g.2.2.2.2.1 k), g.2.2.2.2.2)
/-- another builder too -/
def li_gB (g : ml_G) (B : Nat → Prop) (bq aq sq tq : Nat) (Bs : List Int32) : ml_G := ((B, g.1.2.1, fun i => if i = 5 then Bs else g.1.2.2 i), g.2.1, g.2.2.1, (fun k => if k = 9 then bq else if k = 10 then aq else g.2.2.2.1 k), (fun k => if k = 15 then sq else if k = 45 then tq else g.2.2.2.2.1 k), g.2.2.2.2.2)
def li_mB (M : ml_M) (mb ma : Nat → Int32) : ml_M := fun k => if k = 9 then mb else if k = 10 then ma else M k
def li_cb (aq : Nat) (mb : Nat → Int32) : va_E := .inr (1, [.ref aq, .int (mb 1), .int (mb 2), .int (mb 3)])
def li_ca (g : ml_G) (ma : Nat → Int32) : va_E := ml_ar g 4 16 ma
theorem li_X {g g' : ml_G} {U : State} {H : Heap} (e1 : g'.1.2.1 = g.1.2.1) (e2 : ∀ k, k ≠ 15 → k ≠ 45 → g'.2.2.2.2.1 k = g.2.2.2.2.1 k) (e3 : ∀ i, i ≠ 5 → g'.1.2.2 i = g.1.2.2 i) (hA : ∀ q, ml_A g' q → ml_A g q) (h5 : ml_tx g' U H 5) (h : ml_X g U H) : ml_X g' U H := by
  obtain ⟨⟨⟨h1, h2⟩, ⟨h3, h4⟩, ⟨h5a, h6⟩, h7, ⟨h8, h9⟩, ⟨h10, h11⟩, h12, h13, h15, h14⟩, x1, x2, x3⟩ := h
  refine ⟨⟨⟨?_, ?_⟩, ⟨?_, ?_⟩, ⟨⟨h5a.1.narrow hA, h5a.2.narrow hA⟩, ⟨h6.1.narrow hA, h6.2.narrow hA⟩⟩, h7.narrow hA, ⟨?_, ?_⟩, ⟨?_, ?_⟩, fun i hi => ?_, h13, ?_, h14.narrow hA⟩, x1, x2, fun i hi => ?_⟩
  · rw [e2 0 (by decide) (by decide)]; exact h1.narrow hA
  · rw [e2 0 (by decide) (by decide)]; exact h2.narrow hA
  · rw [e2 1 (by decide) (by decide)]; exact h3.narrow hA
  · rw [e2 1 (by decide) (by decide)]; exact h4.narrow hA
  · rw [e2 2 (by decide) (by decide)]; exact h8.narrow hA
  · rw [e2 2 (by decide) (by decide)]; exact h9.narrow hA
  · rw [e2 3 (by decide) (by decide)]; exact h10.narrow hA
  · rw [e2 3 (by decide) (by decide)]; exact h11.narrow hA
  · by_cases h : i = 5
    · subst h; exact h5
    · have hi2 := h12 i hi
      rw [ml_tx_q] at hi2 ⊢
      rw [e2 (10 + i) (by omega) (by omega), e2 (40 + i) (by omega) (by omega), show ml_sb g' i = ml_sb g i from e3 i h]
      exact ml_txq_nar hi2 hA
  · show va_T .int (g'.2.2.2.2.1 4) g'.1.2.1.1 (fun j => .int (g'.1.2.1.2 j)) (ml_A g') U H
    rw [e1, e2 4 (by decide) (by decide)]
    exact h15.narrow hA
  · rw [e2 (10 + i) (by omega) (by omega)]
    exact x3 i hi
/-- a text: a constant of the law's, or a made one -/
def li_txt (g : ml_G) (Y : va_W) (sq tq : Nat) (Bs : List Int32) : Prop := (∃ i, i < 5 ∧ sq = g.2.2.2.2.1 (10 + i) ∧ tq = g.2.2.2.2.1 (40 + i) ∧ Bs = ml_sb g i) ∨ ∃ (i j : Nat) (f : Nat → Int32), Y[i]? = some (sq, .inr (0, [.ref tq, .int 0, .int 0, .int 0])) ∧ Y[j]? = some (tq, .inl (g.2.2.1 4, Bs.length, .inl f)) ∧ (∀ k, k < Bs.length → f k = Bs.getD k 0) ∧ ∀ k : Nat, fits .byte (.int (Bs.getD k 0)) = true
theorem li_txt_use {g : ml_G} {Y : va_W} {sq tq : Nat} {Bs : List Int32} {s U : State} {H : Heap} {args : Array Value} {A B : Nat → Prop} {locs : List Loc} (ht : ∀ w ∈ ml_all, w.before args s = true) (hK : ml_K g s) (hX : ml_X g s s.heap) (hS : va_S A s.heap H locs) (hA2 : ∀ q : Nat, A q → ml_A g q) (hP : va_P g.2.1 vwCl Y H) (hY : ∀ (k : Nat) (q : Nat × va_E), Y[k]? = some q → ¬ B q.1) (hB : ∀ q, B q → ml_A g q) (hW : s.WarmedH U.vm) (h : li_txt g Y sq tq Bs) : ml_txq sq tq Bs B U H := by
  rcases h with ⟨i, hi, rfl, rfl, rfl⟩ | ⟨i, j, f, h1, h2, h3, h4⟩
  · have h9 := hX.1.2.2.2.2.2.2.1 i (by omega)
    rw [ml_tx_q] at h9
    have h10 : ml_tx g U H i := ml_tx_to hW.alike (cn_S hA2 hS).2.1 (by rw [ml_tx_q]; exact h9)
    rw [ml_tx_q] at h10
    exact ml_txq_nar h10 hB
  · obtain ⟨r, r1, cell, q1, q2, q3, q4⟩ := hP i _ h1
    cases r1
    obtain ⟨hSl, hfc, kC, hkC, hkind⟩ := hK.1 0 _ rfl
    have hf : ∀ (k : Nat) (hk : k < 4) (v : Value), ([.ref tq, .int 0, .int 0, .int 0] : List Value)[k]? = some v → va_OF (TJ0 k).1 (TJ0 k).2.1 (TJ0 k).2.2.1 v sq B U H := by
      intro k hk v hv
      obtain ⟨cf, kf, fi, f9, hi9, hsl⟩ := hSl k hk
      refine va_OF.moved hW.alike ⟨cf, kf, fi, f9, cell, hi9, (u_facts hfc hkC (u_lays ht iaJ0 hk) hi9).1, q1, (by rw [q3]; exact (fun h => by cases h)), ?_, hY i _ h1⟩
      rw [hsl, q4 k hk]
      simp [vp_V, hv]
    have hc : H[tq]? = some (vp_cell (g.2.2.1 4) (Bs.length, .inl f)) := hP j _ h2
    refine ⟨⟨va_O.moved hW.alike ⟨cell, q1, by rw [q3]; rfl, by rw [q2]; exact hfc, hY i _ h1⟩, hf 1 (by decide) _ rfl, hf 0 (by decide) _ rfl, va_T.moved hW.alike ⟨_, hc, (hK.2 4 _ rfl).1 _ _, (fun h => by cases h), Nat.le_of_eq (arrV_size _ _ _).symm, by rw [vp_cell_i, arrV_size], fun k hk => ?_, hY j _ h2⟩⟩, h4⟩
    rw [vp_cell_i, arrV_read _ _ hk, h3 k hk]
theorem li_ct0 {g : ml_G} {B : Nat → Prop} {sq tq : Nat} {Bs : List Int32} (k : Nat) (m : Nat → Int32) : ml_ct (li_g0 g B sq tq Bs) k m = ml_ct g k m := rfl
theorem li_wm0 {g : ml_G} {B : Nat → Prop} {sq tq : Nat} {Bs : List Int32} {M : ml_M} : ml_wm (li_g0 g B sq tq Bs) M = ml_wm g M := List.map_congr_left (fun i _ => congrArg (fun z => (g.2.2.2.1 (ml_pk i), z)) (li_ct0 _ _))
theorem li_P0 {g : ml_G} {B : Nat → Prop} {sq tq : Nat} {Bs : List Int32} {M : ml_M} {H : Heap} : ml_P (li_g0 g B sq tq Bs) M H ↔ va_P g.2.1 vwCl (ml_wm g M) H := by
  unfold ml_P
  rw [li_wm0]
  exact Iff.rfl
theorem li_pre {A : Nat → Prop} {D : va_G} {cl : List vw_C} {W X : va_W} {H : Heap} (hP : va_P D cl (W ++ X) H) (hD : va_D A (W ++ X)) : (va_P D cl W H ∧ va_D A W) ∧ (va_P D cl X H ∧ va_D A X) ∧ ∀ (k : Nat) (q : Nat × va_E), X[k]? = some q → ¬ va_A W H.size q.1 := by
  have a1 : ∀ (k : Nat) (q : Nat × va_E), W[k]? = some q → (W ++ X)[k]? = some q ∧ k < W.length := fun k q h => by
    have hl := (List.getElem?_eq_some_iff.mp h).1
    exact ⟨by rw [List.getElem?_append_left hl]; exact h, hl⟩
  have a2 : ∀ (k : Nat) (q : Nat × va_E), X[k]? = some q → (W ++ X)[W.length + k]? = some q := fun k q h => by
    rw [List.getElem?_append_right (by omega), show W.length + k - W.length = k by omega]
    exact h
  refine ⟨⟨fun k q h => hP k q (a1 k q h).1, fun i j p q hp hq e => hD.1 i j p q (a1 i p hp).1 (a1 j q hq).1 e, fun k q h => hD.2 k q (a1 k q h).1⟩, ⟨fun k q h => hP _ q (a2 k q h), fun i j p q hp hq e => by have := hD.1 _ _ p q (a2 i p hp) (a2 j q hq) e; omega, fun k q h => hD.2 _ q (a2 k q h)⟩, fun k q h => ?_⟩
  rintro (⟨k2, e, h3⟩ | h3)
  · have h4 := a1 k2 _ h3
    have := hD.1 _ _ _ q h4.1 (a2 k q h) rfl
    omega
  · have := (hP _ q (a2 k q h)).lt
    omega
/-- behind a call: the callee's cells as it leaves them, the others as they were -/
theorem li_post {A : Nat → Prop} {D : va_G} {cl : List vw_C} {W W1 X : va_W} {H H1 : Heap} (hP : va_P D cl (W ++ X) H) (hD : va_D A (W ++ X)) (hP1 : va_P D cl W1 H1) (ha : W1.map (fun q => q.1) = W.map (fun q => q.1)) (hk : ∀ q : Nat, q < H.size → ¬ va_A W H.size q → H1[q]? = H[q]?) : va_P D cl (W1 ++ X) H1 ∧ va_D A (W1 ++ X) := by
  obtain ⟨⟨p1, d1⟩, ⟨p2, d2⟩, ap⟩ := li_pre hP hD
  have at' : ∀ (k : Nat) (q : Nat × va_E), W1[k]? = some q → ∃ q2 : Nat × va_E, W[k]? = some q2 ∧ q2.1 = q.1 := by
    intro k q h
    have h1 : (W1.map (fun q => q.1))[k]? = some q.1 := by rw [List.getElem?_map, h]; rfl
    rw [ha, List.getElem?_map] at h1
    cases hc : W[k]? with
    | none => rw [hc] at h1; cases h1
    | some c => rw [hc] at h1; exact ⟨c, rfl, Option.some.inj h1⟩
  refine ⟨va_P.app hP1 (fun k q h => (p2 k q h).kept (hk q.1 (p2 k q h).lt (ap k q h))), va_D.app ⟨fun i j p q hp hq e => ?_, fun k q h => ?_⟩ d2 (fun i j p q hp hq e => ?_)⟩
  · obtain ⟨p', h1, e1⟩ := at' i p hp
    obtain ⟨q', h2, e2⟩ := at' j q hq
    exact d1.1 i j p' q' h1 h2 (by rw [e1, e2]; exact e)
  · obtain ⟨q', h2, e2⟩ := at' k q h
    rw [← e2]
    exact d1.2 k q' h2
  · obtain ⟨p', h1, e1⟩ := at' i p hp
    exact ap j q hq (Or.inl ⟨i, p'.2, by rw [h1, ← e, ← e1]⟩)
theorem li_adr {g : ml_G} {M M8 : ml_M} : (ml_wm g M8).map (fun q => q.1) = (ml_wm g M).map (fun q => q.1) := by
  simp [ml_wm]
theorem li_sub {g : ml_G} {A : Nat → Prop} {W : va_W} {s : State} {H : Heap} {locs : List Loc} (hD : va_D A W) (hS : va_S A s.heap H locs) (hA : ∀ q : Nat, s.heap.size ≤ q → A q) : ∀ q, va_A W H.size q → A q := by
  rintro q (⟨k, e, h⟩ | h)
  · exact hD.2 k _ h
  · exact hA q (Nat.le_trans hS.1 h)
/-- what a callee of the class finds -/
theorem li_H0 {g : ml_G} {A : Nat → Prop} {M : ml_M} {X : va_W} {sq tq : Nat} {Bs : List Int32} {s U : State} {H : Heap} {args : Array Value} {locs : List Loc} (ht : ∀ w ∈ ml_all, w.before args s = true) (hK : ml_K g s) (hX : ml_X g s s.heap) (hS : va_S A s.heap H locs) (hA : ∀ q : Nat, s.heap.size ≤ q → A q) (hA2 : ∀ q : Nat, A q → ml_A g q) (hP : va_P g.2.1 vwCl (ml_wm g M ++ X) H) (hD : va_D A (ml_wm g M ++ X)) (hT : li_txt g X sq tq Bs) (hU : U.heap = H) (hW : s.WarmedH U.vm) : ml_H (li_g0 g (va_A (ml_wm g M) H.size) sq tq Bs) M U := by
  obtain ⟨⟨p1, d1⟩, ⟨p2, d2⟩, ap⟩ := li_pre hP hD
  have hB : ∀ q, va_A (ml_wm g M) H.size q → ml_A g q := fun q h => hA2 q (li_sub (g := g) d1 hS hA q h)
  subst hU
  refine ⟨fun q h => Or.inr h, li_P0.mpr p1, va_K.moved hW.alike hK, by rw [li_wm0]; exact d1.self, li_X (g := g) rfl (fun k a b => ?_) (fun i a => if_neg a) hB ?_ (ml_X_to hW (cn_S hA2 hS) hX)⟩
  · show (if k = 15 then sq else if k = 45 then tq else g.2.2.2.2.1 k) = _
    rw [if_neg a, if_neg b]
  · exact li_txt_use ht hK hX hS hA2 p2 ap hB hW hT
theorem li_noT {g : ml_G} {X : va_W} : li_txt g X (g.2.2.2.2.1 10) (g.2.2.2.2.1 40) (ml_sb g 0) := Or.inl ⟨0, by decide, rfl, rfl, rfl⟩
theorem li_go {p : Program} {l : Launch} {e : Env} {R : Room} {s : State} {m : MethodId} {args : Array Value} {below : List Frame} {meth : Method} {c : Code} {H : Heap} {locs : List Loc} {k n mc2 ms2 : Nat} {pc : Nat} {la : Array Slot} {st stk : List Value} {g' : ml_G} {A : Nat → Prop} {vl2 : Int32 → ml_M → Option Value} {r8 : Int32} {M8 : ml_M} {a : Array Value} {Q : State → Prop}
    (hr : vx_Run p l e R s m args below meth c H locs k n mc2 ms2 (F0 m pc la stk) st (ml_Q g' vl2 (.inl r8, M8) a) (ml_XC g' (.inl r8, M8)) (ml_A g')) (hS : va_S A s.heap H locs) (hA : ∀ q, ml_A g' q → A q)
    (kk : ∀ (H1 : Heap) (locs1 : List Loc), ml_P g' M8 H1 → (∀ q : Nat, q < H.size → ¬ ml_A g' q → H1[q]? = H[q]?) → va_S A s.heap H1 locs1 → W p l e R s m args below meth c H1 locs1 (k + mc2) (n + ms2) Q (F0 m (pc + 3) la ((vl2 r8 M8).toList ++ st))) :
    W p l e R s m args below meth c H locs k n Q (F0 m pc la stk) := by
  intro T hT X
  rcases hr T hT X with ⟨v, st₀, t, T', L, h0, X', hL, e1, e2, ⟨r9, hv1, hv2, hH, hF⟩, st9⟩ | ⟨q, st₀, t, T', L, E9, ce, h0, X', hL, e1, e2, ⟨e9, hv1, hv2, hH, hF⟩, hce, hcv, hcl, st9⟩
  · cases hv1
    cases hv2
    obtain ⟨k1, k2, k3⟩ := vx_keep h0 e1 hS (fun q _ h => hA q h) (fun q h => hA q h) hL hF
    obtain ⟨t2, a1, b1⟩ := kk T'.heap (locs ++ L) (by rw [e1]; exact hH) k2 k3 T' rfl X'
    exact ⟨t2, st9 t2 a1, b1⟩
  · cases hv1
theorem li_iconst {E : ml_E} {g : ml_G} {A : Nat → Prop} {cc : ByteArray} {own : String} {nL lv mc ms : Nat} {ret : Option FieldType} {Q : State → Prop} {k n pc : Nat} {ls : List (Nat × Value)} {st : List Value} {L : va_W} {z : Int} {v : Int32} (F : li_F E g A cc own nL lv mc ms ret) (hd : decode cc pc = .ok (.iconst z, 1)) (hv : Int32.ofInt z = v) (K : cn_J E g A nL Q (k) (n) (pc + 1) ls (.int v :: st) (L)) : cn_J E g A nL Q (k) (n) (pc) ls (st) (L) := by
  obtain ⟨p, e, R, s, m, args, below, meth, c⟩ := E
  obtain ⟨⟨hx, hb, ht, ho, hm, hlk⟩, ⟨hK, hX, hz, hA, hA2⟩, ⟨hR1, hR2, hR3, hR4⟩, hret⟩ := F
  intro H locs la hP hD hS hl
  exact lv_iconst hx hb hd hv (K H locs la hP hD hS hl)
theorem li_bipush {E : ml_E} {g : ml_G} {A : Nat → Prop} {cc : ByteArray} {own : String} {nL lv mc ms : Nat} {ret : Option FieldType} {Q : State → Prop} {k n pc : Nat} {ls : List (Nat × Value)} {st : List Value} {L : va_W} {z : Int} {v : Int32} (F : li_F E g A cc own nL lv mc ms ret) (hd : decode cc pc = .ok (.bipush z, 2)) (hv : (Int8.ofInt z).toInt32 = v) (K : cn_J E g A nL Q (k) (n) (pc + 2) ls (.int v :: st) (L)) : cn_J E g A nL Q (k) (n) (pc) ls (st) (L) := by
  obtain ⟨p, e, R, s, m, args, below, meth, c⟩ := E
  obtain ⟨⟨hx, hb, ht, ho, hm, hlk⟩, ⟨hK, hX, hz, hA, hA2⟩, ⟨hR1, hR2, hR3, hR4⟩, hret⟩ := F
  intro H locs la hP hD hS hl
  exact lv_bipush hx hb hd hv (K H locs la hP hD hS hl)
theorem li_sipush {E : ml_E} {g : ml_G} {A : Nat → Prop} {cc : ByteArray} {own : String} {nL lv mc ms : Nat} {ret : Option FieldType} {Q : State → Prop} {k n pc : Nat} {ls : List (Nat × Value)} {st : List Value} {L : va_W} {z : Int} {v : Int32} (F : li_F E g A cc own nL lv mc ms ret) (hd : decode cc pc = .ok (.sipush z, 3)) (hv : (Int16.ofInt z).toInt32 = v) (K : cn_J E g A nL Q (k) (n) (pc + 3) ls (.int v :: st) (L)) : cn_J E g A nL Q (k) (n) (pc) ls (st) (L) := by
  obtain ⟨p, e, R, s, m, args, below, meth, c⟩ := E
  obtain ⟨⟨hx, hb, ht, ho, hm, hlk⟩, ⟨hK, hX, hz, hA, hA2⟩, ⟨hR1, hR2, hR3, hR4⟩, hret⟩ := F
  intro H locs la hP hD hS hl
  exact lv_sipush hx hb hd hv (K H locs la hP hD hS hl)
theorem li_iload_n {E : ml_E} {g : ml_G} {A : Nat → Prop} {cc : ByteArray} {own : String} {nL lv mc ms : Nat} {ret : Option FieldType} {Q : State → Prop} {k n pc : Nat} {ls : List (Nat × Value)} {st : List Value} {L : va_W} {kk : Fin 4} {i q : Nat} {x : Int32} (F : li_F E g A cc own nL lv mc ms ret) (hd : decode cc pc = .ok (.iload_n kk, 1)) (hi : (kk : Nat) = i) (hq : ls[q]? = some (i, .int x)) (K : cn_J E g A nL Q (k) (n) (pc + 1) ls (.int x :: st) (L)) : cn_J E g A nL Q (k) (n) (pc) ls (st) (L) := by
  obtain ⟨p, e, R, s, m, args, below, meth, c⟩ := E
  obtain ⟨⟨hx, hb, ht, ho, hm, hlk⟩, ⟨hK, hX, hz, hA, hA2⟩, ⟨hR1, hR2, hR3, hR4⟩, hret⟩ := F
  intro H locs la hP hD hS hl
  exact lv_iload_n hx hb hd hi (lv_at hl q hq) (K H locs la hP hD hS hl)
theorem li_iload {E : ml_E} {g : ml_G} {A : Nat → Prop} {cc : ByteArray} {own : String} {nL lv mc ms : Nat} {ret : Option FieldType} {Q : State → Prop} {k n pc : Nat} {ls : List (Nat × Value)} {st : List Value} {L : va_W} {i q : Nat} {x : Int32} (F : li_F E g A cc own nL lv mc ms ret) (hd : decode cc pc = .ok (.iload i, 2)) (hq : ls[q]? = some (i, .int x)) (K : cn_J E g A nL Q (k) (n) (pc + 2) ls (.int x :: st) (L)) : cn_J E g A nL Q (k) (n) (pc) ls (st) (L) := by
  obtain ⟨p, e, R, s, m, args, below, meth, c⟩ := E
  obtain ⟨⟨hx, hb, ht, ho, hm, hlk⟩, ⟨hK, hX, hz, hA, hA2⟩, ⟨hR1, hR2, hR3, hR4⟩, hret⟩ := F
  intro H locs la hP hD hS hl
  exact lv_iload hx hb hd (lv_at hl q hq) (K H locs la hP hD hS hl)
theorem li_aload_n {E : ml_E} {g : ml_G} {A : Nat → Prop} {cc : ByteArray} {own : String} {nL lv mc ms : Nat} {ret : Option FieldType} {Q : State → Prop} {k n pc : Nat} {ls : List (Nat × Value)} {st : List Value} {L : va_W} {kk : Fin 4} {i q : Nat} {x : Nat} (F : li_F E g A cc own nL lv mc ms ret) (hd : decode cc pc = .ok (.aload_n kk, 1)) (hi : (kk : Nat) = i) (hq : ls[q]? = some (i, .ref x)) (K : cn_J E g A nL Q (k) (n) (pc + 1) ls (.ref x :: st) (L)) : cn_J E g A nL Q (k) (n) (pc) ls (st) (L) := by
  obtain ⟨p, e, R, s, m, args, below, meth, c⟩ := E
  obtain ⟨⟨hx, hb, ht, ho, hm, hlk⟩, ⟨hK, hX, hz, hA, hA2⟩, ⟨hR1, hR2, hR3, hR4⟩, hret⟩ := F
  intro H locs la hP hD hS hl
  exact lv_aload_n hx hb hd hi (lv_at hl q hq) (K H locs la hP hD hS hl)
theorem li_aload {E : ml_E} {g : ml_G} {A : Nat → Prop} {cc : ByteArray} {own : String} {nL lv mc ms : Nat} {ret : Option FieldType} {Q : State → Prop} {k n pc : Nat} {ls : List (Nat × Value)} {st : List Value} {L : va_W} {i q : Nat} {x : Nat} (F : li_F E g A cc own nL lv mc ms ret) (hd : decode cc pc = .ok (.aload i, 2)) (hq : ls[q]? = some (i, .ref x)) (K : cn_J E g A nL Q (k) (n) (pc + 2) ls (.ref x :: st) (L)) : cn_J E g A nL Q (k) (n) (pc) ls (st) (L) := by
  obtain ⟨p, e, R, s, m, args, below, meth, c⟩ := E
  obtain ⟨⟨hx, hb, ht, ho, hm, hlk⟩, ⟨hK, hX, hz, hA, hA2⟩, ⟨hR1, hR2, hR3, hR4⟩, hret⟩ := F
  intro H locs la hP hD hS hl
  exact lv_aload hx hb hd (lv_at hl q hq) (K H locs la hP hD hS hl)
theorem li_istore_n {E : ml_E} {g : ml_G} {A : Nat → Prop} {cc : ByteArray} {own : String} {nL lv mc ms : Nat} {ret : Option FieldType} {Q : State → Prop} {k n pc : Nat} {ls : List (Nat × Value)} {st : List Value} {L : va_W} {kk : Fin 4} {i : Nat} {x : Int32} {ls2 : List (Nat × Value)} (F : li_F E g A cc own nL lv mc ms ret) (hd : decode cc pc = .ok (.istore_n kk, 1)) (hi : (kk : Nat) = i) (hn : i < nL) (hq : ml_put ls i (.int x) = ls2) (K : cn_J E g A nL Q (k) (n) (pc + 1) ls2 (st) (L)) : cn_J E g A nL Q (k) (n) (pc) ls (.int x :: st) (L) := by
  obtain ⟨p, e, R, s, m, args, below, meth, c⟩ := E
  obtain ⟨⟨hx, hb, ht, ho, hm, hlk⟩, ⟨hK, hX, hz, hA, hA2⟩, ⟨hR1, hR2, hR3, hR4⟩, hret⟩ := F
  intro H locs la hP hD hS hl
  exact lv_istore_n hx hb hd hi hl hn hq (fun la2 hl2 => K H locs la2 hP hD hS hl2)
theorem li_istore {E : ml_E} {g : ml_G} {A : Nat → Prop} {cc : ByteArray} {own : String} {nL lv mc ms : Nat} {ret : Option FieldType} {Q : State → Prop} {k n pc : Nat} {ls : List (Nat × Value)} {st : List Value} {L : va_W} {i : Nat} {x : Int32} {ls2 : List (Nat × Value)} (F : li_F E g A cc own nL lv mc ms ret) (hd : decode cc pc = .ok (.istore i, 2)) (hn : i < nL) (hq : ml_put ls i (.int x) = ls2) (K : cn_J E g A nL Q (k) (n) (pc + 2) ls2 (st) (L)) : cn_J E g A nL Q (k) (n) (pc) ls (.int x :: st) (L) := by
  obtain ⟨p, e, R, s, m, args, below, meth, c⟩ := E
  obtain ⟨⟨hx, hb, ht, ho, hm, hlk⟩, ⟨hK, hX, hz, hA, hA2⟩, ⟨hR1, hR2, hR3, hR4⟩, hret⟩ := F
  intro H locs la hP hD hS hl
  exact lv_istore hx hb hd hl hn hq (fun la2 hl2 => K H locs la2 hP hD hS hl2)
theorem li_astore_n {E : ml_E} {g : ml_G} {A : Nat → Prop} {cc : ByteArray} {own : String} {nL lv mc ms : Nat} {ret : Option FieldType} {Q : State → Prop} {k n pc : Nat} {ls : List (Nat × Value)} {st : List Value} {L : va_W} {kk : Fin 4} {i : Nat} {x : Nat} {ls2 : List (Nat × Value)} (F : li_F E g A cc own nL lv mc ms ret) (hd : decode cc pc = .ok (.astore_n kk, 1)) (hi : (kk : Nat) = i) (hn : i < nL) (hq : ml_put ls i (.ref x) = ls2) (K : cn_J E g A nL Q (k) (n) (pc + 1) ls2 (st) (L)) : cn_J E g A nL Q (k) (n) (pc) ls (.ref x :: st) (L) := by
  obtain ⟨p, e, R, s, m, args, below, meth, c⟩ := E
  obtain ⟨⟨hx, hb, ht, ho, hm, hlk⟩, ⟨hK, hX, hz, hA, hA2⟩, ⟨hR1, hR2, hR3, hR4⟩, hret⟩ := F
  intro H locs la hP hD hS hl
  exact lv_astore_n hx hb hd hi hl hn hq (fun la2 hl2 => K H locs la2 hP hD hS hl2)
theorem li_astore {E : ml_E} {g : ml_G} {A : Nat → Prop} {cc : ByteArray} {own : String} {nL lv mc ms : Nat} {ret : Option FieldType} {Q : State → Prop} {k n pc : Nat} {ls : List (Nat × Value)} {st : List Value} {L : va_W} {i : Nat} {x : Nat} {ls2 : List (Nat × Value)} (F : li_F E g A cc own nL lv mc ms ret) (hd : decode cc pc = .ok (.astore i, 2)) (hn : i < nL) (hq : ml_put ls i (.ref x) = ls2) (K : cn_J E g A nL Q (k) (n) (pc + 2) ls2 (st) (L)) : cn_J E g A nL Q (k) (n) (pc) ls (.ref x :: st) (L) := by
  obtain ⟨p, e, R, s, m, args, below, meth, c⟩ := E
  obtain ⟨⟨hx, hb, ht, ho, hm, hlk⟩, ⟨hK, hX, hz, hA, hA2⟩, ⟨hR1, hR2, hR3, hR4⟩, hret⟩ := F
  intro H locs la hP hD hS hl
  exact lv_astore hx hb hd hl hn hq (fun la2 hl2 => K H locs la2 hP hD hS hl2)
theorem li_iinc {E : ml_E} {g : ml_G} {A : Nat → Prop} {cc : ByteArray} {own : String} {nL lv mc ms : Nat} {ret : Option FieldType} {Q : State → Prop} {k n pc : Nat} {ls : List (Nat × Value)} {st : List Value} {L : va_W} {i q : Nat} {z : Int} {x v : Int32} {ls2 : List (Nat × Value)} (F : li_F E g A cc own nL lv mc ms ret) (hd : decode cc pc = .ok (.iinc i z, 3)) (hq : ls[q]? = some (i, .int x)) (hv : x + Int32.ofInt z = v) (hn : i < nL) (h2 : ml_put ls i (.int v) = ls2) (K : cn_J E g A nL Q (k) (n) (pc + 3) ls2 (st) (L)) : cn_J E g A nL Q (k) (n) (pc) ls (st) (L) := by
  obtain ⟨p, e, R, s, m, args, below, meth, c⟩ := E
  obtain ⟨⟨hx, hb, ht, ho, hm, hlk⟩, ⟨hK, hX, hz, hA, hA2⟩, ⟨hR1, hR2, hR3, hR4⟩, hret⟩ := F
  intro H locs la hP hD hS hl
  exact lv_iinc hx hb hd hl hq hv hn h2 (fun la2 hl2 => K H locs la2 hP hD hS hl2)
theorem li_iadd {E : ml_E} {g : ml_G} {A : Nat → Prop} {cc : ByteArray} {own : String} {nL lv mc ms : Nat} {ret : Option FieldType} {Q : State → Prop} {k n pc : Nat} {ls : List (Nat × Value)} {st : List Value} {L : va_W} {x y v : Int32} (F : li_F E g A cc own nL lv mc ms ret) (hd : decode cc pc = .ok (.iadd, 1)) (hv : x + y = v) (K : cn_J E g A nL Q (k) (n) (pc + 1) ls (.int v :: st) (L)) : cn_J E g A nL Q (k) (n) (pc) ls (.int y :: .int x :: st) (L) := by
  obtain ⟨p, e, R, s, m, args, below, meth, c⟩ := E
  obtain ⟨⟨hx, hb, ht, ho, hm, hlk⟩, ⟨hK, hX, hz, hA, hA2⟩, ⟨hR1, hR2, hR3, hR4⟩, hret⟩ := F
  intro H locs la hP hD hS hl
  subst hv
  exact lv_iadd hx hb hd (K H locs la hP hD hS hl)
theorem li_isub {E : ml_E} {g : ml_G} {A : Nat → Prop} {cc : ByteArray} {own : String} {nL lv mc ms : Nat} {ret : Option FieldType} {Q : State → Prop} {k n pc : Nat} {ls : List (Nat × Value)} {st : List Value} {L : va_W} {x y v : Int32} (F : li_F E g A cc own nL lv mc ms ret) (hd : decode cc pc = .ok (.isub, 1)) (hv : x - y = v) (K : cn_J E g A nL Q (k) (n) (pc + 1) ls (.int v :: st) (L)) : cn_J E g A nL Q (k) (n) (pc) ls (.int y :: .int x :: st) (L) := by
  obtain ⟨p, e, R, s, m, args, below, meth, c⟩ := E
  obtain ⟨⟨hx, hb, ht, ho, hm, hlk⟩, ⟨hK, hX, hz, hA, hA2⟩, ⟨hR1, hR2, hR3, hR4⟩, hret⟩ := F
  intro H locs la hP hD hS hl
  subst hv
  exact lv_isub hx hb hd (K H locs la hP hD hS hl)
theorem li_imul {E : ml_E} {g : ml_G} {A : Nat → Prop} {cc : ByteArray} {own : String} {nL lv mc ms : Nat} {ret : Option FieldType} {Q : State → Prop} {k n pc : Nat} {ls : List (Nat × Value)} {st : List Value} {L : va_W} {x y v : Int32} (F : li_F E g A cc own nL lv mc ms ret) (hd : decode cc pc = .ok (.imul, 1)) (hv : x * y = v) (K : cn_J E g A nL Q (k) (n) (pc + 1) ls (.int v :: st) (L)) : cn_J E g A nL Q (k) (n) (pc) ls (.int y :: .int x :: st) (L) := by
  obtain ⟨p, e, R, s, m, args, below, meth, c⟩ := E
  obtain ⟨⟨hx, hb, ht, ho, hm, hlk⟩, ⟨hK, hX, hz, hA, hA2⟩, ⟨hR1, hR2, hR3, hR4⟩, hret⟩ := F
  intro H locs la hP hD hS hl
  subst hv
  exact lv_imul hx hb hd (K H locs la hP hD hS hl)
theorem li_idiv {E : ml_E} {g : ml_G} {A : Nat → Prop} {cc : ByteArray} {own : String} {nL lv mc ms : Nat} {ret : Option FieldType} {Q : State → Prop} {k n pc : Nat} {ls : List (Nat × Value)} {st : List Value} {L : va_W} {x y v : Int32} (F : li_F E g A cc own nL lv mc ms ret) (hd : decode cc pc = .ok (.idiv, 1)) (hne : ¬ y = 0) (hv : x / y = v) (K : cn_J E g A nL Q (k) (n) (pc + 1) ls (.int v :: st) (L)) : cn_J E g A nL Q (k) (n) (pc) ls (.int y :: .int x :: st) (L) := by
  obtain ⟨p, e, R, s, m, args, below, meth, c⟩ := E
  obtain ⟨⟨hx, hb, ht, ho, hm, hlk⟩, ⟨hK, hX, hz, hA, hA2⟩, ⟨hR1, hR2, hR3, hR4⟩, hret⟩ := F
  intro H locs la hP hD hS hl
  subst hv
  exact lv_idiv hx hb hd hne (K H locs la hP hD hS hl)
theorem li_ineg {E : ml_E} {g : ml_G} {A : Nat → Prop} {cc : ByteArray} {own : String} {nL lv mc ms : Nat} {ret : Option FieldType} {Q : State → Prop} {k n pc : Nat} {ls : List (Nat × Value)} {st : List Value} {L : va_W} {x v : Int32} (F : li_F E g A cc own nL lv mc ms ret) (hd : decode cc pc = .ok (.ineg, 1)) (hv : -x = v) (K : cn_J E g A nL Q (k) (n) (pc + 1) ls (.int v :: st) (L)) : cn_J E g A nL Q (k) (n) (pc) ls (.int x :: st) (L) := by
  obtain ⟨p, e, R, s, m, args, below, meth, c⟩ := E
  obtain ⟨⟨hx, hb, ht, ho, hm, hlk⟩, ⟨hK, hX, hz, hA, hA2⟩, ⟨hR1, hR2, hR3, hR4⟩, hret⟩ := F
  intro H locs la hP hD hS hl
  subst hv
  exact lv_ineg hx hb hd (K H locs la hP hD hS hl)
theorem li_dup {E : ml_E} {g : ml_G} {A : Nat → Prop} {cc : ByteArray} {own : String} {nL lv mc ms : Nat} {ret : Option FieldType} {Q : State → Prop} {k n pc : Nat} {ls : List (Nat × Value)} {st : List Value} {L : va_W} {va : Value} (F : li_F E g A cc own nL lv mc ms ret) (hd : decode cc pc = .ok (.dup, 1)) (h1 : va.category = 1) (K : cn_J E g A nL Q (k) (n) (pc + 1) ls (va :: va :: st) (L)) : cn_J E g A nL Q (k) (n) (pc) ls (va :: st) (L) := by
  obtain ⟨p, e, R, s, m, args, below, meth, c⟩ := E
  obtain ⟨⟨hx, hb, ht, ho, hm, hlk⟩, ⟨hK, hX, hz, hA, hA2⟩, ⟨hR1, hR2, hR3, hR4⟩, hret⟩ := F
  intro H locs la hP hD hS hl
  exact lv_dup hx hb hd h1 (K H locs la hP hD hS hl)
theorem li_pop {E : ml_E} {g : ml_G} {A : Nat → Prop} {cc : ByteArray} {own : String} {nL lv mc ms : Nat} {ret : Option FieldType} {Q : State → Prop} {k n pc : Nat} {ls : List (Nat × Value)} {st : List Value} {L : va_W} {va : Value} (F : li_F E g A cc own nL lv mc ms ret) (hd : decode cc pc = .ok (.pop, 1)) (h1 : va.category = 1) (K : cn_J E g A nL Q (k) (n) (pc + 1) ls (st) (L)) : cn_J E g A nL Q (k) (n) (pc) ls (va :: st) (L) := by
  obtain ⟨p, e, R, s, m, args, below, meth, c⟩ := E
  obtain ⟨⟨hx, hb, ht, ho, hm, hlk⟩, ⟨hK, hX, hz, hA, hA2⟩, ⟨hR1, hR2, hR3, hR4⟩, hret⟩ := F
  intro H locs la hP hD hS hl
  exact lv_pop hx hb hd h1 (K H locs la hP hD hS hl)
theorem li_dup2 {E : ml_E} {g : ml_G} {A : Nat → Prop} {cc : ByteArray} {own : String} {nL lv mc ms : Nat} {ret : Option FieldType} {Q : State → Prop} {k n pc : Nat} {ls : List (Nat × Value)} {st : List Value} {L : va_W} {va vb : Value} (F : li_F E g A cc own nL lv mc ms ret) (hd : decode cc pc = .ok (.dup2, 1)) (h1 : va.category = 1) (h2 : vb.category = 1) (K : cn_J E g A nL Q (k) (n) (pc + 1) ls (va :: vb :: va :: vb :: st) (L)) : cn_J E g A nL Q (k) (n) (pc) ls (va :: vb :: st) (L) := by
  obtain ⟨p, e, R, s, m, args, below, meth, c⟩ := E
  obtain ⟨⟨hx, hb, ht, ho, hm, hlk⟩, ⟨hK, hX, hz, hA, hA2⟩, ⟨hR1, hR2, hR3, hR4⟩, hret⟩ := F
  intro H locs la hP hD hS hl
  exact lv_dup2_11 hx hb hd h1 h2 (K H locs la hP hD hS hl)
theorem li_goto {E : ml_E} {g : ml_G} {A : Nat → Prop} {cc : ByteArray} {own : String} {nL lv mc ms : Nat} {ret : Option FieldType} {Q : State → Prop} {k n pc : Nat} {ls : List (Nat × Value)} {st : List Value} {L : va_W} {off : Int} {tgt : Nat} (F : li_F E g A cc own nL lv mc ms ret) (hd : decode cc pc = .ok (.goto off, 3)) (hg : (pc : Int) + off = (tgt : Int)) (K : cn_J E g A nL Q (k) (n) (tgt) ls (st) (L)) : cn_J E g A nL Q (k) (n) (pc) ls (st) (L) := by
  obtain ⟨p, e, R, s, m, args, below, meth, c⟩ := E
  obtain ⟨⟨hx, hb, ht, ho, hm, hlk⟩, ⟨hK, hX, hz, hA, hA2⟩, ⟨hR1, hR2, hR3, hR4⟩, hret⟩ := F
  intro H locs la hP hD hS hl
  exact lv_goto hx hb hd hg (K H locs la hP hD hS hl)
theorem li_if_eqT {E : ml_E} {g : ml_G} {A : Nat → Prop} {cc : ByteArray} {own : String} {nL lv mc ms : Nat} {ret : Option FieldType} {Q : State → Prop} {k n pc : Nat} {ls : List (Nat × Value)} {st : List Value} {L : va_W} {x : Int32} {off : Int} {tgt : Nat} (F : li_F E g A cc own nL lv mc ms ret) (hd : decode cc pc = .ok (.ifCond .eq off, 3)) (hg : (pc : Int) + off = (tgt : Int)) (q : x = 0) (K : cn_J E g A nL Q (k) (n) (tgt) ls (st) (L)) : cn_J E g A nL Q (k) (n) (pc) ls (.int x :: st) (L) := by
  obtain ⟨p, e, R, s, m, args, below, meth, c⟩ := E
  obtain ⟨⟨hx, hb, ht, ho, hm, hlk⟩, ⟨hK, hX, hz, hA, hA2⟩, ⟨hR1, hR2, hR3, hR4⟩, hret⟩ := F
  intro H locs la hP hD hS hl
  exact lv_if_eq hx hb hd hg (fun _ => K H locs la hP hD hS hl) (fun q2 => absurd q q2)
theorem li_if_eqF {E : ml_E} {g : ml_G} {A : Nat → Prop} {cc : ByteArray} {own : String} {nL lv mc ms : Nat} {ret : Option FieldType} {Q : State → Prop} {k n pc : Nat} {ls : List (Nat × Value)} {st : List Value} {L : va_W} {x : Int32} {off : Int} {tgt : Nat} (F : li_F E g A cc own nL lv mc ms ret) (hd : decode cc pc = .ok (.ifCond .eq off, 3)) (hg : (pc : Int) + off = (tgt : Int)) (q : ¬ (x = 0)) (K : cn_J E g A nL Q (k) (n) (pc + 3) ls (st) (L)) : cn_J E g A nL Q (k) (n) (pc) ls (.int x :: st) (L) := by
  obtain ⟨p, e, R, s, m, args, below, meth, c⟩ := E
  obtain ⟨⟨hx, hb, ht, ho, hm, hlk⟩, ⟨hK, hX, hz, hA, hA2⟩, ⟨hR1, hR2, hR3, hR4⟩, hret⟩ := F
  intro H locs la hP hD hS hl
  exact lv_if_eq hx hb hd hg (fun q2 => absurd q2 q) (fun _ => K H locs la hP hD hS hl)
theorem li_icmp_eqT {E : ml_E} {g : ml_G} {A : Nat → Prop} {cc : ByteArray} {own : String} {nL lv mc ms : Nat} {ret : Option FieldType} {Q : State → Prop} {k n pc : Nat} {ls : List (Nat × Value)} {st : List Value} {L : va_W} {x y : Int32} {off : Int} {tgt : Nat} (F : li_F E g A cc own nL lv mc ms ret) (hd : decode cc pc = .ok (.if_icmp .eq off, 3)) (hg : (pc : Int) + off = (tgt : Int)) (q : x = y) (K : cn_J E g A nL Q (k) (n) (tgt) ls (st) (L)) : cn_J E g A nL Q (k) (n) (pc) ls (.int y :: .int x :: st) (L) := by
  obtain ⟨p, e, R, s, m, args, below, meth, c⟩ := E
  obtain ⟨⟨hx, hb, ht, ho, hm, hlk⟩, ⟨hK, hX, hz, hA, hA2⟩, ⟨hR1, hR2, hR3, hR4⟩, hret⟩ := F
  intro H locs la hP hD hS hl
  exact lv_icmp_eq hx hb hd hg (fun _ => K H locs la hP hD hS hl) (fun q2 => absurd q q2)
theorem li_icmp_eqF {E : ml_E} {g : ml_G} {A : Nat → Prop} {cc : ByteArray} {own : String} {nL lv mc ms : Nat} {ret : Option FieldType} {Q : State → Prop} {k n pc : Nat} {ls : List (Nat × Value)} {st : List Value} {L : va_W} {x y : Int32} {off : Int} {tgt : Nat} (F : li_F E g A cc own nL lv mc ms ret) (hd : decode cc pc = .ok (.if_icmp .eq off, 3)) (hg : (pc : Int) + off = (tgt : Int)) (q : ¬ (x = y)) (K : cn_J E g A nL Q (k) (n) (pc + 3) ls (st) (L)) : cn_J E g A nL Q (k) (n) (pc) ls (.int y :: .int x :: st) (L) := by
  obtain ⟨p, e, R, s, m, args, below, meth, c⟩ := E
  obtain ⟨⟨hx, hb, ht, ho, hm, hlk⟩, ⟨hK, hX, hz, hA, hA2⟩, ⟨hR1, hR2, hR3, hR4⟩, hret⟩ := F
  intro H locs la hP hD hS hl
  exact lv_icmp_eq hx hb hd hg (fun q2 => absurd q2 q) (fun _ => K H locs la hP hD hS hl)
theorem li_if_neT {E : ml_E} {g : ml_G} {A : Nat → Prop} {cc : ByteArray} {own : String} {nL lv mc ms : Nat} {ret : Option FieldType} {Q : State → Prop} {k n pc : Nat} {ls : List (Nat × Value)} {st : List Value} {L : va_W} {x : Int32} {off : Int} {tgt : Nat} (F : li_F E g A cc own nL lv mc ms ret) (hd : decode cc pc = .ok (.ifCond .ne off, 3)) (hg : (pc : Int) + off = (tgt : Int)) (q : ¬ (x = 0)) (K : cn_J E g A nL Q (k) (n) (tgt) ls (st) (L)) : cn_J E g A nL Q (k) (n) (pc) ls (.int x :: st) (L) := by
  obtain ⟨p, e, R, s, m, args, below, meth, c⟩ := E
  obtain ⟨⟨hx, hb, ht, ho, hm, hlk⟩, ⟨hK, hX, hz, hA, hA2⟩, ⟨hR1, hR2, hR3, hR4⟩, hret⟩ := F
  intro H locs la hP hD hS hl
  exact lv_if_ne hx hb hd hg (fun _ => K H locs la hP hD hS hl) (fun q2 => absurd q (fun z => z q2))
theorem li_if_neF {E : ml_E} {g : ml_G} {A : Nat → Prop} {cc : ByteArray} {own : String} {nL lv mc ms : Nat} {ret : Option FieldType} {Q : State → Prop} {k n pc : Nat} {ls : List (Nat × Value)} {st : List Value} {L : va_W} {x : Int32} {off : Int} {tgt : Nat} (F : li_F E g A cc own nL lv mc ms ret) (hd : decode cc pc = .ok (.ifCond .ne off, 3)) (hg : (pc : Int) + off = (tgt : Int)) (q : x = 0) (K : cn_J E g A nL Q (k) (n) (pc + 3) ls (st) (L)) : cn_J E g A nL Q (k) (n) (pc) ls (.int x :: st) (L) := by
  obtain ⟨p, e, R, s, m, args, below, meth, c⟩ := E
  obtain ⟨⟨hx, hb, ht, ho, hm, hlk⟩, ⟨hK, hX, hz, hA, hA2⟩, ⟨hR1, hR2, hR3, hR4⟩, hret⟩ := F
  intro H locs la hP hD hS hl
  exact lv_if_ne hx hb hd hg (fun q2 => absurd q q2) (fun _ => K H locs la hP hD hS hl)
theorem li_icmp_neT {E : ml_E} {g : ml_G} {A : Nat → Prop} {cc : ByteArray} {own : String} {nL lv mc ms : Nat} {ret : Option FieldType} {Q : State → Prop} {k n pc : Nat} {ls : List (Nat × Value)} {st : List Value} {L : va_W} {x y : Int32} {off : Int} {tgt : Nat} (F : li_F E g A cc own nL lv mc ms ret) (hd : decode cc pc = .ok (.if_icmp .ne off, 3)) (hg : (pc : Int) + off = (tgt : Int)) (q : ¬ (x = y)) (K : cn_J E g A nL Q (k) (n) (tgt) ls (st) (L)) : cn_J E g A nL Q (k) (n) (pc) ls (.int y :: .int x :: st) (L) := by
  obtain ⟨p, e, R, s, m, args, below, meth, c⟩ := E
  obtain ⟨⟨hx, hb, ht, ho, hm, hlk⟩, ⟨hK, hX, hz, hA, hA2⟩, ⟨hR1, hR2, hR3, hR4⟩, hret⟩ := F
  intro H locs la hP hD hS hl
  exact lv_icmp_ne hx hb hd hg (fun _ => K H locs la hP hD hS hl) (fun q2 => absurd q (fun z => z q2))
theorem li_icmp_neF {E : ml_E} {g : ml_G} {A : Nat → Prop} {cc : ByteArray} {own : String} {nL lv mc ms : Nat} {ret : Option FieldType} {Q : State → Prop} {k n pc : Nat} {ls : List (Nat × Value)} {st : List Value} {L : va_W} {x y : Int32} {off : Int} {tgt : Nat} (F : li_F E g A cc own nL lv mc ms ret) (hd : decode cc pc = .ok (.if_icmp .ne off, 3)) (hg : (pc : Int) + off = (tgt : Int)) (q : x = y) (K : cn_J E g A nL Q (k) (n) (pc + 3) ls (st) (L)) : cn_J E g A nL Q (k) (n) (pc) ls (.int y :: .int x :: st) (L) := by
  obtain ⟨p, e, R, s, m, args, below, meth, c⟩ := E
  obtain ⟨⟨hx, hb, ht, ho, hm, hlk⟩, ⟨hK, hX, hz, hA, hA2⟩, ⟨hR1, hR2, hR3, hR4⟩, hret⟩ := F
  intro H locs la hP hD hS hl
  exact lv_icmp_ne hx hb hd hg (fun q2 => absurd q q2) (fun _ => K H locs la hP hD hS hl)
theorem li_if_ltT {E : ml_E} {g : ml_G} {A : Nat → Prop} {cc : ByteArray} {own : String} {nL lv mc ms : Nat} {ret : Option FieldType} {Q : State → Prop} {k n pc : Nat} {ls : List (Nat × Value)} {st : List Value} {L : va_W} {x : Int32} {off : Int} {tgt : Nat} (F : li_F E g A cc own nL lv mc ms ret) (hd : decode cc pc = .ok (.ifCond .lt off, 3)) (hg : (pc : Int) + off = (tgt : Int)) (q : x < 0) (K : cn_J E g A nL Q (k) (n) (tgt) ls (st) (L)) : cn_J E g A nL Q (k) (n) (pc) ls (.int x :: st) (L) := by
  obtain ⟨p, e, R, s, m, args, below, meth, c⟩ := E
  obtain ⟨⟨hx, hb, ht, ho, hm, hlk⟩, ⟨hK, hX, hz, hA, hA2⟩, ⟨hR1, hR2, hR3, hR4⟩, hret⟩ := F
  intro H locs la hP hD hS hl
  exact lv_if_lt hx hb hd hg (fun _ => K H locs la hP hD hS hl) (fun q2 => absurd q q2)
theorem li_if_ltF {E : ml_E} {g : ml_G} {A : Nat → Prop} {cc : ByteArray} {own : String} {nL lv mc ms : Nat} {ret : Option FieldType} {Q : State → Prop} {k n pc : Nat} {ls : List (Nat × Value)} {st : List Value} {L : va_W} {x : Int32} {off : Int} {tgt : Nat} (F : li_F E g A cc own nL lv mc ms ret) (hd : decode cc pc = .ok (.ifCond .lt off, 3)) (hg : (pc : Int) + off = (tgt : Int)) (q : ¬ (x < 0)) (K : cn_J E g A nL Q (k) (n) (pc + 3) ls (st) (L)) : cn_J E g A nL Q (k) (n) (pc) ls (.int x :: st) (L) := by
  obtain ⟨p, e, R, s, m, args, below, meth, c⟩ := E
  obtain ⟨⟨hx, hb, ht, ho, hm, hlk⟩, ⟨hK, hX, hz, hA, hA2⟩, ⟨hR1, hR2, hR3, hR4⟩, hret⟩ := F
  intro H locs la hP hD hS hl
  exact lv_if_lt hx hb hd hg (fun q2 => absurd q2 q) (fun _ => K H locs la hP hD hS hl)
theorem li_icmp_ltT {E : ml_E} {g : ml_G} {A : Nat → Prop} {cc : ByteArray} {own : String} {nL lv mc ms : Nat} {ret : Option FieldType} {Q : State → Prop} {k n pc : Nat} {ls : List (Nat × Value)} {st : List Value} {L : va_W} {x y : Int32} {off : Int} {tgt : Nat} (F : li_F E g A cc own nL lv mc ms ret) (hd : decode cc pc = .ok (.if_icmp .lt off, 3)) (hg : (pc : Int) + off = (tgt : Int)) (q : x < y) (K : cn_J E g A nL Q (k) (n) (tgt) ls (st) (L)) : cn_J E g A nL Q (k) (n) (pc) ls (.int y :: .int x :: st) (L) := by
  obtain ⟨p, e, R, s, m, args, below, meth, c⟩ := E
  obtain ⟨⟨hx, hb, ht, ho, hm, hlk⟩, ⟨hK, hX, hz, hA, hA2⟩, ⟨hR1, hR2, hR3, hR4⟩, hret⟩ := F
  intro H locs la hP hD hS hl
  exact lv_icmp_lt hx hb hd hg (fun _ => K H locs la hP hD hS hl) (fun q2 => absurd q q2)
theorem li_icmp_ltF {E : ml_E} {g : ml_G} {A : Nat → Prop} {cc : ByteArray} {own : String} {nL lv mc ms : Nat} {ret : Option FieldType} {Q : State → Prop} {k n pc : Nat} {ls : List (Nat × Value)} {st : List Value} {L : va_W} {x y : Int32} {off : Int} {tgt : Nat} (F : li_F E g A cc own nL lv mc ms ret) (hd : decode cc pc = .ok (.if_icmp .lt off, 3)) (hg : (pc : Int) + off = (tgt : Int)) (q : ¬ (x < y)) (K : cn_J E g A nL Q (k) (n) (pc + 3) ls (st) (L)) : cn_J E g A nL Q (k) (n) (pc) ls (.int y :: .int x :: st) (L) := by
  obtain ⟨p, e, R, s, m, args, below, meth, c⟩ := E
  obtain ⟨⟨hx, hb, ht, ho, hm, hlk⟩, ⟨hK, hX, hz, hA, hA2⟩, ⟨hR1, hR2, hR3, hR4⟩, hret⟩ := F
  intro H locs la hP hD hS hl
  exact lv_icmp_lt hx hb hd hg (fun q2 => absurd q2 q) (fun _ => K H locs la hP hD hS hl)
theorem li_if_geT {E : ml_E} {g : ml_G} {A : Nat → Prop} {cc : ByteArray} {own : String} {nL lv mc ms : Nat} {ret : Option FieldType} {Q : State → Prop} {k n pc : Nat} {ls : List (Nat × Value)} {st : List Value} {L : va_W} {x : Int32} {off : Int} {tgt : Nat} (F : li_F E g A cc own nL lv mc ms ret) (hd : decode cc pc = .ok (.ifCond .ge off, 3)) (hg : (pc : Int) + off = (tgt : Int)) (q : 0 ≤ x) (K : cn_J E g A nL Q (k) (n) (tgt) ls (st) (L)) : cn_J E g A nL Q (k) (n) (pc) ls (.int x :: st) (L) := by
  obtain ⟨p, e, R, s, m, args, below, meth, c⟩ := E
  obtain ⟨⟨hx, hb, ht, ho, hm, hlk⟩, ⟨hK, hX, hz, hA, hA2⟩, ⟨hR1, hR2, hR3, hR4⟩, hret⟩ := F
  intro H locs la hP hD hS hl
  exact lv_if_ge hx hb hd hg (fun _ => K H locs la hP hD hS hl) (fun q2 => absurd q q2)
theorem li_if_geF {E : ml_E} {g : ml_G} {A : Nat → Prop} {cc : ByteArray} {own : String} {nL lv mc ms : Nat} {ret : Option FieldType} {Q : State → Prop} {k n pc : Nat} {ls : List (Nat × Value)} {st : List Value} {L : va_W} {x : Int32} {off : Int} {tgt : Nat} (F : li_F E g A cc own nL lv mc ms ret) (hd : decode cc pc = .ok (.ifCond .ge off, 3)) (hg : (pc : Int) + off = (tgt : Int)) (q : ¬ (0 ≤ x)) (K : cn_J E g A nL Q (k) (n) (pc + 3) ls (st) (L)) : cn_J E g A nL Q (k) (n) (pc) ls (.int x :: st) (L) := by
  obtain ⟨p, e, R, s, m, args, below, meth, c⟩ := E
  obtain ⟨⟨hx, hb, ht, ho, hm, hlk⟩, ⟨hK, hX, hz, hA, hA2⟩, ⟨hR1, hR2, hR3, hR4⟩, hret⟩ := F
  intro H locs la hP hD hS hl
  exact lv_if_ge hx hb hd hg (fun q2 => absurd q2 q) (fun _ => K H locs la hP hD hS hl)
theorem li_icmp_geT {E : ml_E} {g : ml_G} {A : Nat → Prop} {cc : ByteArray} {own : String} {nL lv mc ms : Nat} {ret : Option FieldType} {Q : State → Prop} {k n pc : Nat} {ls : List (Nat × Value)} {st : List Value} {L : va_W} {x y : Int32} {off : Int} {tgt : Nat} (F : li_F E g A cc own nL lv mc ms ret) (hd : decode cc pc = .ok (.if_icmp .ge off, 3)) (hg : (pc : Int) + off = (tgt : Int)) (q : y ≤ x) (K : cn_J E g A nL Q (k) (n) (tgt) ls (st) (L)) : cn_J E g A nL Q (k) (n) (pc) ls (.int y :: .int x :: st) (L) := by
  obtain ⟨p, e, R, s, m, args, below, meth, c⟩ := E
  obtain ⟨⟨hx, hb, ht, ho, hm, hlk⟩, ⟨hK, hX, hz, hA, hA2⟩, ⟨hR1, hR2, hR3, hR4⟩, hret⟩ := F
  intro H locs la hP hD hS hl
  exact lv_icmp_ge hx hb hd hg (fun _ => K H locs la hP hD hS hl) (fun q2 => absurd q q2)
theorem li_icmp_geF {E : ml_E} {g : ml_G} {A : Nat → Prop} {cc : ByteArray} {own : String} {nL lv mc ms : Nat} {ret : Option FieldType} {Q : State → Prop} {k n pc : Nat} {ls : List (Nat × Value)} {st : List Value} {L : va_W} {x y : Int32} {off : Int} {tgt : Nat} (F : li_F E g A cc own nL lv mc ms ret) (hd : decode cc pc = .ok (.if_icmp .ge off, 3)) (hg : (pc : Int) + off = (tgt : Int)) (q : ¬ (y ≤ x)) (K : cn_J E g A nL Q (k) (n) (pc + 3) ls (st) (L)) : cn_J E g A nL Q (k) (n) (pc) ls (.int y :: .int x :: st) (L) := by
  obtain ⟨p, e, R, s, m, args, below, meth, c⟩ := E
  obtain ⟨⟨hx, hb, ht, ho, hm, hlk⟩, ⟨hK, hX, hz, hA, hA2⟩, ⟨hR1, hR2, hR3, hR4⟩, hret⟩ := F
  intro H locs la hP hD hS hl
  exact lv_icmp_ge hx hb hd hg (fun q2 => absurd q2 q) (fun _ => K H locs la hP hD hS hl)
theorem li_if_gtT {E : ml_E} {g : ml_G} {A : Nat → Prop} {cc : ByteArray} {own : String} {nL lv mc ms : Nat} {ret : Option FieldType} {Q : State → Prop} {k n pc : Nat} {ls : List (Nat × Value)} {st : List Value} {L : va_W} {x : Int32} {off : Int} {tgt : Nat} (F : li_F E g A cc own nL lv mc ms ret) (hd : decode cc pc = .ok (.ifCond .gt off, 3)) (hg : (pc : Int) + off = (tgt : Int)) (q : 0 < x) (K : cn_J E g A nL Q (k) (n) (tgt) ls (st) (L)) : cn_J E g A nL Q (k) (n) (pc) ls (.int x :: st) (L) := by
  obtain ⟨p, e, R, s, m, args, below, meth, c⟩ := E
  obtain ⟨⟨hx, hb, ht, ho, hm, hlk⟩, ⟨hK, hX, hz, hA, hA2⟩, ⟨hR1, hR2, hR3, hR4⟩, hret⟩ := F
  intro H locs la hP hD hS hl
  exact lv_if_gt hx hb hd hg (fun _ => K H locs la hP hD hS hl) (fun q2 => absurd q q2)
theorem li_if_gtF {E : ml_E} {g : ml_G} {A : Nat → Prop} {cc : ByteArray} {own : String} {nL lv mc ms : Nat} {ret : Option FieldType} {Q : State → Prop} {k n pc : Nat} {ls : List (Nat × Value)} {st : List Value} {L : va_W} {x : Int32} {off : Int} {tgt : Nat} (F : li_F E g A cc own nL lv mc ms ret) (hd : decode cc pc = .ok (.ifCond .gt off, 3)) (hg : (pc : Int) + off = (tgt : Int)) (q : ¬ (0 < x)) (K : cn_J E g A nL Q (k) (n) (pc + 3) ls (st) (L)) : cn_J E g A nL Q (k) (n) (pc) ls (.int x :: st) (L) := by
  obtain ⟨p, e, R, s, m, args, below, meth, c⟩ := E
  obtain ⟨⟨hx, hb, ht, ho, hm, hlk⟩, ⟨hK, hX, hz, hA, hA2⟩, ⟨hR1, hR2, hR3, hR4⟩, hret⟩ := F
  intro H locs la hP hD hS hl
  exact lv_if_gt hx hb hd hg (fun q2 => absurd q2 q) (fun _ => K H locs la hP hD hS hl)
theorem li_icmp_gtT {E : ml_E} {g : ml_G} {A : Nat → Prop} {cc : ByteArray} {own : String} {nL lv mc ms : Nat} {ret : Option FieldType} {Q : State → Prop} {k n pc : Nat} {ls : List (Nat × Value)} {st : List Value} {L : va_W} {x y : Int32} {off : Int} {tgt : Nat} (F : li_F E g A cc own nL lv mc ms ret) (hd : decode cc pc = .ok (.if_icmp .gt off, 3)) (hg : (pc : Int) + off = (tgt : Int)) (q : y < x) (K : cn_J E g A nL Q (k) (n) (tgt) ls (st) (L)) : cn_J E g A nL Q (k) (n) (pc) ls (.int y :: .int x :: st) (L) := by
  obtain ⟨p, e, R, s, m, args, below, meth, c⟩ := E
  obtain ⟨⟨hx, hb, ht, ho, hm, hlk⟩, ⟨hK, hX, hz, hA, hA2⟩, ⟨hR1, hR2, hR3, hR4⟩, hret⟩ := F
  intro H locs la hP hD hS hl
  exact lv_icmp_gt hx hb hd hg (fun _ => K H locs la hP hD hS hl) (fun q2 => absurd q q2)
theorem li_icmp_gtF {E : ml_E} {g : ml_G} {A : Nat → Prop} {cc : ByteArray} {own : String} {nL lv mc ms : Nat} {ret : Option FieldType} {Q : State → Prop} {k n pc : Nat} {ls : List (Nat × Value)} {st : List Value} {L : va_W} {x y : Int32} {off : Int} {tgt : Nat} (F : li_F E g A cc own nL lv mc ms ret) (hd : decode cc pc = .ok (.if_icmp .gt off, 3)) (hg : (pc : Int) + off = (tgt : Int)) (q : ¬ (y < x)) (K : cn_J E g A nL Q (k) (n) (pc + 3) ls (st) (L)) : cn_J E g A nL Q (k) (n) (pc) ls (.int y :: .int x :: st) (L) := by
  obtain ⟨p, e, R, s, m, args, below, meth, c⟩ := E
  obtain ⟨⟨hx, hb, ht, ho, hm, hlk⟩, ⟨hK, hX, hz, hA, hA2⟩, ⟨hR1, hR2, hR3, hR4⟩, hret⟩ := F
  intro H locs la hP hD hS hl
  exact lv_icmp_gt hx hb hd hg (fun q2 => absurd q2 q) (fun _ => K H locs la hP hD hS hl)
theorem li_if_leT {E : ml_E} {g : ml_G} {A : Nat → Prop} {cc : ByteArray} {own : String} {nL lv mc ms : Nat} {ret : Option FieldType} {Q : State → Prop} {k n pc : Nat} {ls : List (Nat × Value)} {st : List Value} {L : va_W} {x : Int32} {off : Int} {tgt : Nat} (F : li_F E g A cc own nL lv mc ms ret) (hd : decode cc pc = .ok (.ifCond .le off, 3)) (hg : (pc : Int) + off = (tgt : Int)) (q : x ≤ 0) (K : cn_J E g A nL Q (k) (n) (tgt) ls (st) (L)) : cn_J E g A nL Q (k) (n) (pc) ls (.int x :: st) (L) := by
  obtain ⟨p, e, R, s, m, args, below, meth, c⟩ := E
  obtain ⟨⟨hx, hb, ht, ho, hm, hlk⟩, ⟨hK, hX, hz, hA, hA2⟩, ⟨hR1, hR2, hR3, hR4⟩, hret⟩ := F
  intro H locs la hP hD hS hl
  exact lv_if_le hx hb hd hg (fun _ => K H locs la hP hD hS hl) (fun q2 => absurd q q2)
theorem li_if_leF {E : ml_E} {g : ml_G} {A : Nat → Prop} {cc : ByteArray} {own : String} {nL lv mc ms : Nat} {ret : Option FieldType} {Q : State → Prop} {k n pc : Nat} {ls : List (Nat × Value)} {st : List Value} {L : va_W} {x : Int32} {off : Int} {tgt : Nat} (F : li_F E g A cc own nL lv mc ms ret) (hd : decode cc pc = .ok (.ifCond .le off, 3)) (hg : (pc : Int) + off = (tgt : Int)) (q : ¬ (x ≤ 0)) (K : cn_J E g A nL Q (k) (n) (pc + 3) ls (st) (L)) : cn_J E g A nL Q (k) (n) (pc) ls (.int x :: st) (L) := by
  obtain ⟨p, e, R, s, m, args, below, meth, c⟩ := E
  obtain ⟨⟨hx, hb, ht, ho, hm, hlk⟩, ⟨hK, hX, hz, hA, hA2⟩, ⟨hR1, hR2, hR3, hR4⟩, hret⟩ := F
  intro H locs la hP hD hS hl
  exact lv_if_le hx hb hd hg (fun q2 => absurd q2 q) (fun _ => K H locs la hP hD hS hl)
theorem li_icmp_leT {E : ml_E} {g : ml_G} {A : Nat → Prop} {cc : ByteArray} {own : String} {nL lv mc ms : Nat} {ret : Option FieldType} {Q : State → Prop} {k n pc : Nat} {ls : List (Nat × Value)} {st : List Value} {L : va_W} {x y : Int32} {off : Int} {tgt : Nat} (F : li_F E g A cc own nL lv mc ms ret) (hd : decode cc pc = .ok (.if_icmp .le off, 3)) (hg : (pc : Int) + off = (tgt : Int)) (q : x ≤ y) (K : cn_J E g A nL Q (k) (n) (tgt) ls (st) (L)) : cn_J E g A nL Q (k) (n) (pc) ls (.int y :: .int x :: st) (L) := by
  obtain ⟨p, e, R, s, m, args, below, meth, c⟩ := E
  obtain ⟨⟨hx, hb, ht, ho, hm, hlk⟩, ⟨hK, hX, hz, hA, hA2⟩, ⟨hR1, hR2, hR3, hR4⟩, hret⟩ := F
  intro H locs la hP hD hS hl
  exact lv_icmp_le hx hb hd hg (fun _ => K H locs la hP hD hS hl) (fun q2 => absurd q q2)
theorem li_icmp_leF {E : ml_E} {g : ml_G} {A : Nat → Prop} {cc : ByteArray} {own : String} {nL lv mc ms : Nat} {ret : Option FieldType} {Q : State → Prop} {k n pc : Nat} {ls : List (Nat × Value)} {st : List Value} {L : va_W} {x y : Int32} {off : Int} {tgt : Nat} (F : li_F E g A cc own nL lv mc ms ret) (hd : decode cc pc = .ok (.if_icmp .le off, 3)) (hg : (pc : Int) + off = (tgt : Int)) (q : ¬ (x ≤ y)) (K : cn_J E g A nL Q (k) (n) (pc + 3) ls (st) (L)) : cn_J E g A nL Q (k) (n) (pc) ls (.int y :: .int x :: st) (L) := by
  obtain ⟨p, e, R, s, m, args, below, meth, c⟩ := E
  obtain ⟨⟨hx, hb, ht, ho, hm, hlk⟩, ⟨hK, hX, hz, hA, hA2⟩, ⟨hR1, hR2, hR3, hR4⟩, hret⟩ := F
  intro H locs la hP hD hS hl
  exact lv_icmp_le hx hb hd hg (fun q2 => absurd q2 q) (fun _ => K H locs la hP hD hS hl)
theorem li_new {E : ml_E} {g : ml_G} {A : Nat → Prop} {cc : ByteArray} {own : String} {nL lv mc ms : Nat} {ret : Option FieldType} {Q : State → Prop} {k n pc : Nat} {ls : List (Nat × Value)} {st : List Value} {L : va_W} {idx ci N : Nat} {C : String} {T : u_T} {fs : List Value} (F : li_F E g A cc own nL lv mc ms ret) (ty : Nat → FieldType) (hin9 : ∀ w ∈ u_ws C T N, w ∈ ml_all) (hty : ∀ k, k < N → parseFieldDescriptor (T k).2.2.1 = some (ty k)) (hcl : Cond.classLink own idx C ∈ ml_all) (hinst : Cond.instantiable C N ∈ ml_all) (hini : Cond.initialized C ∈ ml_all) (hc : vwCl[ci]? = some (C, T, N)) (hfs : ∀ j, j < N → defaultValue (ty j) = vp_V fs j) (hk : k + 1 ≤ mc) (hn2 : n + N ≤ ms) (hd : decode cc pc = .ok (.new idx, 3)) (K : ∀ q : Nat, cn_J E g A nL Q (k + 1) (n + N) (pc + 3) ls (.ref q :: st) (L ++ [(q, .inr (ci, fs))])) : cn_J E g A nL Q (k) (n) (pc) ls (st) (L) := by
  obtain ⟨p, e, R, s, m, args, below, meth, c⟩ := E
  obtain ⟨⟨hx, hb, ht, ho, hm, hlk⟩, ⟨hK, hX, hz, hA, hA2⟩, ⟨hR1, hR2, hR3, hR4⟩, hret⟩ := F
  intro H locs la hP hD hS hl
  exact va_new (ci := ci) (fs := fs) (C := C) (T := T) (N := N) hx hb ht hin9 ty hty ho (ht _ hcl) (ht _ hinst) (ht _ hini) hK hP hD hS hA hc hfs (Nat.le_trans hk hR3) (Nat.le_trans hn2 hR4) hd (fun q H1 hP1 hD1 hS1 => K q H1 locs la hP1 hD1 hS1 hl)
theorem li_newa {E : ml_E} {g : ml_G} {A : Nat → Prop} {cc : ByteArray} {own : String} {nL lv mc ms : Nat} {ret : Option FieldType} {Q : State → Prop} {k n pc : Nat} {ls : List (Nat × Value)} {st : List Value} {L : va_W} {at9 : ArrayType} {ty : FieldType} {t N : Nat} {x : Int32} (F : li_F E g A cc own nL lv mc ms ret) (a0 : vp_A) (harr : Cond.arrayClass (newarray.typeOf at9) ∈ ml_all) (hty : newarray.typeOf at9 = ty) (ht9 : (ml_ty g)[t]? = some (g.2.2.1 t, ty)) (ha : ∀ cA : ClassId, vp_cell cA a0 = arrV cA N (fun _ => defaultValue ty)) (hx0 : ¬ x < 0) (hN : x.toNatClampNeg = N) (hby : N * componentBytes ty ≤ 536870912) (hk : k + 1 ≤ mc) (hn2 : n + N ≤ ms) (hd : decode cc pc = .ok (.newarray at9, 2)) (K : ∀ q : Nat, cn_J E g A nL Q (k + 1) (n + N) (pc + 2) ls (.ref q :: st) (L ++ [(q, .inl (g.2.2.1 t, a0))])) : cn_J E g A nL Q (k) (n) (pc) ls (.int x :: st) (L) := by
  obtain ⟨p, e, R, s, m, args, below, meth, c⟩ := E
  obtain ⟨⟨hx, hb, ht, ho, hm, hlk⟩, ⟨hK, hX, hz, hA, hA2⟩, ⟨hR1, hR2, hR3, hR4⟩, hret⟩ := F
  intro H locs la hP hD hS hl
  refine va_newa hx hb (ht _ harr) hty hK hP hD hS hA (N' := N) (a0 := a0) ha hx0 hN hby (Nat.le_trans hk hR3) (Nat.le_trans hn2 hR4) hd (fun q cA H1 hK1 hP1 hD1 hS1 => ?_)
  rw [cn_cls hK ht9 hK1] at hP1 hD1
  exact K q H1 locs la hP1 hD1 hS1 hl
theorem li_iald {E : ml_E} {g : ml_G} {A : Nat → Prop} {cc : ByteArray} {own : String} {nL lv mc ms : Nat} {ret : Option FieldType} {Q : State → Prop} {k n pc : Nat} {ls : List (Nat × Value)} {st : List Value} {L : va_W} {a q0 N j : Nat} {f : Nat → Int32} {i v : Int32} (F : li_F E g A cc own nL lv mc ms ret) (he : L[q0]? = some (a, .inl (g.2.2.1 0, N, .inl f))) (hi : ¬ i < 0) (hj : i.toNatClampNeg = j) (hjN : j < N) (hv : f j = v) (hd : decode cc pc = .ok (.iaload, 1)) (K : cn_J E g A nL Q (k) (n) (pc + 1) ls (.int v :: st) (L)) : cn_J E g A nL Q (k) (n) (pc) ls (.int i :: .ref a :: st) (L) := by
  obtain ⟨p, e, R, s, m, args, below, meth, c⟩ := E
  obtain ⟨⟨hx, hb, ht, ho, hm, hlk⟩, ⟨hK, hX, hz, hA, hA2⟩, ⟨hR1, hR2, hR3, hR4⟩, hret⟩ := F
  intro H locs la hP hD hS hl
  subst hj
  subst hv
  exact va_iald (D := g.2.1) (cl := vwCl) (tys := ml_ty g) hx hb hK hP q0 0 he rfl (ml_ok_in ⟨hi, hjN⟩) hd (K H locs la hP hD hS hl)
theorem li_iast {E : ml_E} {g : ml_G} {A : Nat → Prop} {cc : ByteArray} {own : String} {nL lv mc ms : Nat} {ret : Option FieldType} {Q : State → Prop} {k n pc : Nat} {ls : List (Nat × Value)} {st : List Value} {L : va_W} {a q0 N j : Nat} {f : Nat → Int32} {i x : Int32} {L2 : va_W} (F : li_F E g A cc own nL lv mc ms ret) (he : L[q0]? = some (a, .inl (g.2.2.1 0, N, .inl f))) (hi : ¬ i < 0) (hj : i.toNatClampNeg = j) (hjN : j < N) (hL : L.set q0 (a, .inl (g.2.2.1 0, N, .inl (upd f j x))) = L2) (hd : decode cc pc = .ok (.iastore, 1)) (K : cn_J E g A nL Q (k) (n) (pc + 1) ls (st) (L2)) : cn_J E g A nL Q (k) (n) (pc) ls (.int x :: .int i :: .ref a :: st) (L) := by
  obtain ⟨p, e, R, s, m, args, below, meth, c⟩ := E
  obtain ⟨⟨hx, hb, ht, ho, hm, hlk⟩, ⟨hK, hX, hz, hA, hA2⟩, ⟨hR1, hR2, hR3, hR4⟩, hret⟩ := F
  intro H locs la hP hD hS hl
  subst hL
  subst hj
  exact va_iast (D := g.2.1) (cl := vwCl) (tys := ml_ty g) hx hb hK hP hD hS q0 0 he rfl (ml_ok_in ⟨hi, hjN⟩) hd (fun H1 locs1 hP1 hD1 hS1 => K H1 locs1 la hP1 hD1 hS1 hl)
theorem li_alen {E : ml_E} {g : ml_G} {A : Nat → Prop} {cc : ByteArray} {own : String} {nL lv mc ms : Nat} {ret : Option FieldType} {Q : State → Prop} {k n pc : Nat} {ls : List (Nat × Value)} {st : List Value} {L : va_W} {a q0 N : Nat} {f : Nat → Int32} {v : Int32} (F : li_F E g A cc own nL lv mc ms ret) (he : L[q0]? = some (a, .inl (g.2.2.1 4, N, .inl f))) (hv : Int32.ofNat N = v) (hd : decode cc pc = .ok (.arraylength, 1)) (K : cn_J E g A nL Q (k) (n) (pc + 1) ls (.int v :: st) (L)) : cn_J E g A nL Q (k) (n) (pc) ls (.ref a :: st) (L) := by
  obtain ⟨p, e, R, s, m, args, below, meth, c⟩ := E
  obtain ⟨⟨hx, hb, ht, ho, hm, hlk⟩, ⟨hK, hX, hz, hA, hA2⟩, ⟨hR1, hR2, hR3, hR4⟩, hret⟩ := F
  intro H locs la hP hD hS hl
  exact va_alen (D := g.2.1) (cl := vwCl) (tys := ml_ty g) hx hb hK hP q0 4 he rfl hv hd (K H locs la hP hD hS hl)
theorem li_bcopy {E : ml_E} {g : ml_G} {A : Nat → Prop} {cc : ByteArray} {own : String} {nL lv mc ms : Nat} {ret : Option FieldType} {Q : State → Prop} {k n pc : Nat} {ls : List (Nat × Value)} {st : List Value} {L : va_W} {a b q0 q1 N0 N1 idx : Nat} {f f9 : Nat → Int32} {sp dp n9 : Int32} {L2 : va_W} (F : li_F E g A cc own nL lv mc ms ret) (hlk2 : Cond.methodLink own idx arraycopyName ∈ ml_all) (hnt : Cond.native arraycopyName ∈ ml_all) (hstt : Cond.static arraycopyName ∈ ml_all) (hin9 : Cond.initialized "java/lang/System" ∈ ml_all) (h0 : L[q0]? = some (b, .inl (g.2.2.1 4, N0, .inl f))) (h1 : L[q1]? = some (a, .inl (g.2.2.1 4, N1, .inl f9))) (c1 : ¬ sp < 0) (c2 : ¬ dp < 0) (c3 : ¬ n9 < 0) (c4 : sp.toNatClampNeg + n9.toNatClampNeg ≤ N0) (c5 : dp.toNatClampNeg + n9.toNatClampNeg ≤ N1) (hfit : ∀ i, i < n9.toNatClampNeg → fits .byte (.int (f (sp.toNatClampNeg + i))) = true) (hL : L.set q1 (a, .inl (g.2.2.1 4, N1, .inl (va_cpy f f9 sp.toNatClampNeg dp.toNatClampNeg n9.toNatClampNeg))) = L2) (hroom : (st.map fun v => v.category).sum ≤ 8) (hd : decode cc pc = .ok (.invokestatic idx, 3)) (K : cn_J E g A nL Q (k) (n) (pc + 3) ls (st) (L2)) : cn_J E g A nL Q (k) (n) (pc) ls (.int n9 :: .int dp :: .ref a :: .int sp :: .ref b :: st) (L) := by
  obtain ⟨p, e, R, s, m, args, below, meth, c⟩ := E
  obtain ⟨⟨hx, hb, ht, ho, hm, hlk⟩, ⟨hK, hX, hz, hA, hA2⟩, ⟨hR1, hR2, hR3, hR4⟩, hret⟩ := F
  intro H locs la hP hD hS hl
  subst hL
  exact va_copyi (D := g.2.1) (cl := vwCl) (tys := ml_ty g) (ty := .byte) hx hb (hm.trans hl.1.symm) ho (ht _ hlk2) (ht _ hnt) (ht _ hstt) (ht _ hin9) hK hP hD hS q0 q1 4 4 h0 h1 rfl rfl rfl c1 c2 c3 c4 c5 hfit (by omega) (by
    have h5 : nativeFrameWords "java/lang/System" "arraycopy" 5 ≤ 100 := by decide
    omega) hd (fun H1 locs1 hP1 hD1 hS1 => K H1 locs1 la hP1 hD1 hS1 hl)
theorem li_min {E : ml_E} {g : ml_G} {A : Nat → Prop} {cc : ByteArray} {own : String} {nL lv mc ms : Nat} {ret : Option FieldType} {Q : State → Prop} {k n pc : Nat} {ls : List (Nat × Value)} {st : List Value} {L : va_W} {x y v : Int32} {idx : Nat} (F : li_F E g A cc own nL lv mc ms ret) (hlk2 : Cond.methodLink own idx Lib.Math.min.name ∈ ml_all) (h1 : Cond.static Lib.Math.min.name ∈ ml_all) (h2 : Cond.initialized "java/lang/Math" ∈ ml_all) (h3 : Cond.code Lib.Math.min.name Lib.Math.min.code 2 (some .int) ∈ ml_all) (hd : decode cc pc = .ok (.invokestatic idx, 3)) (hst9 : (st.map fun v => v.category).sum ≤ 8) (hk : k ≤ mc) (hn2 : n ≤ ms) (hv : (if y < x then y else x) = v) (K : cn_J E g A nL Q (k) (n) (pc + 3) ls (.int v :: st) (L)) : cn_J E g A nL Q (k) (n) (pc) ls (.int y :: .int x :: st) (L) := by
  obtain ⟨p, e, R, s, m, args, below, meth, c⟩ := E
  obtain ⟨⟨hx, hb, ht, ho, hm, hlk⟩, ⟨hK, hX, hz, hA, hA2⟩, ⟨hR1, hR2, hR3, hR4⟩, hret⟩ := F
  intro H locs la hP hD hS hl
  subst hv
  exact va_mmin hx hb (hm.trans hl.1.symm) ho (ht _ hlk2) (ht _ h1) (ht _ h2) (ht _ h3) (by omega) (by omega) (by omega) (by omega) hd (K H locs la hP hD hS hl)
theorem li_ldcS {E : ml_E} {g : ml_G} {A : Nat → Prop} {cc : ByteArray} {own : String} {nL lv mc ms : Nat} {ret : Option FieldType} {Q : State → Prop} {k n pc : Nat} {ls : List (Nat × Value)} {st : List Value} {L : va_W} {i8 : Nat} (F : li_F E g A cc own nL lv mc ms ret) (hown8 : own = RL) (hi8 : i8 < 5) (hd : decode cc pc = .ok (.ldc (ml_str i8).1, 2)) (K : cn_J E g A nL Q (k) (n) (pc + 2) ls (.ref (g.2.2.2.2.1 (10 + i8)) :: st) (L)) : cn_J E g A nL Q (k) (n) (pc) ls (st) (L) := by
  obtain ⟨p, e, R, s, m, args, below, meth, c⟩ := E
  obtain ⟨⟨hx, hb, ht, ho, hm, hlk⟩, ⟨hK, hX, hz, hA, hA2⟩, ⟨hR1, hR2, hR3, hR4⟩, hret⟩ := F
  intro H locs la hP hD hS hl
  subst hown8
  exact va_ldcS hx hb ho (hX.2.2.2 i8 hi8) hd (K H locs la hP hD hS hl)
theorem li_i2d {E : ml_E} {g : ml_G} {A : Nat → Prop} {cc : ByteArray} {own : String} {nL lv mc ms : Nat} {ret : Option FieldType} {Q : State → Prop} {k n pc : Nat} {ls : List (Nat × Value)} {st : List Value} {L : va_W} {x : Int32} (F : li_F E g A cc own nL lv mc ms ret) (hd : decode cc pc = .ok (.i2d, 1)) (K : cn_J E g A nL Q (k) (n) (pc + 1) ls (.double (FP.i2d x) :: st) (L)) : cn_J E g A nL Q (k) (n) (pc) ls (.int x :: st) (L) := by
  obtain ⟨p, e, R, s, m, args, below, meth, c⟩ := E
  obtain ⟨⟨hx, hb, ht, ho, hm, hlk⟩, ⟨hK, hX, hz, hA, hA2⟩, ⟨hR1, hR2, hR3, hR4⟩, hret⟩ := F
  intro H locs la hP hD hS hl
  exact lv_i2d hx hb hd (K H locs la hP hD hS hl)
theorem li_ddiv {E : ml_E} {g : ml_G} {A : Nat → Prop} {cc : ByteArray} {own : String} {nL lv mc ms : Nat} {ret : Option FieldType} {Q : State → Prop} {k n pc : Nat} {ls : List (Nat × Value)} {st : List Value} {L : va_W} {x y : UInt64} (F : li_F E g A cc own nL lv mc ms ret) (hd : decode cc pc = .ok (.ddiv, 1)) (hne : vf_n64 (FP.ddiv x y)) (K : cn_J E g A nL Q (k) (n) (pc + 1) ls (.double (FP.ddiv x y) :: st) (L)) : cn_J E g A nL Q (k) (n) (pc) ls (.double y :: .double x :: st) (L) := by
  obtain ⟨p, e, R, s, m, args, below, meth, c⟩ := E
  obtain ⟨⟨hx, hb, ht, ho, hm, hlk⟩, ⟨hK, hX, hz, hA, hA2⟩, ⟨hR1, hR2, hR3, hR4⟩, hret⟩ := F
  intro H locs la hP hD hS hl
  exact lv_ddiv hx hb hd hne (K H locs la hP hD hS hl)
theorem li_dcmp {E : ml_E} {g : ml_G} {A : Nat → Prop} {cc : ByteArray} {own : String} {nL lv mc ms : Nat} {ret : Option FieldType} {Q : State → Prop} {k n pc : Nat} {ls : List (Nat × Value)} {st : List Value} {L : va_W} {x y : UInt64} {op : CmpOp} {v : Int32} (F : li_F E g A cc own nL lv mc ms ret) (hd : decode cc pc = .ok (.dcmp op, 1)) (hv : Op.cmpValue (FP.dcmp x y) op = v) (K : cn_J E g A nL Q (k) (n) (pc + 1) ls (.int v :: st) (L)) : cn_J E g A nL Q (k) (n) (pc) ls (.double y :: .double x :: st) (L) := by
  obtain ⟨p, e, R, s, m, args, below, meth, c⟩ := E
  obtain ⟨⟨hx, hb, ht, ho, hm, hlk⟩, ⟨hK, hX, hz, hA, hA2⟩, ⟨hR1, hR2, hR3, hR4⟩, hret⟩ := F
  intro H locs la hP hD hS hl
  subst hv
  exact lv_dcmp hx hb hd (K H locs la hP hD hS hl)
theorem li_i2f {E : ml_E} {g : ml_G} {A : Nat → Prop} {cc : ByteArray} {own : String} {nL lv mc ms : Nat} {ret : Option FieldType} {Q : State → Prop} {k n pc : Nat} {ls : List (Nat × Value)} {st : List Value} {L : va_W} {x : Int32} (F : li_F E g A cc own nL lv mc ms ret) (hd : decode cc pc = .ok (.i2f, 1)) (K : cn_J E g A nL Q (k) (n) (pc + 1) ls (.float (FP.i2f x) :: st) (L)) : cn_J E g A nL Q (k) (n) (pc) ls (.int x :: st) (L) := by
  obtain ⟨p, e, R, s, m, args, below, meth, c⟩ := E
  obtain ⟨⟨hx, hb, ht, ho, hm, hlk⟩, ⟨hK, hX, hz, hA, hA2⟩, ⟨hR1, hR2, hR3, hR4⟩, hret⟩ := F
  intro H locs la hP hD hS hl
  exact lv_i2f hx hb hd (K H locs la hP hD hS hl)
theorem li_fdiv {E : ml_E} {g : ml_G} {A : Nat → Prop} {cc : ByteArray} {own : String} {nL lv mc ms : Nat} {ret : Option FieldType} {Q : State → Prop} {k n pc : Nat} {ls : List (Nat × Value)} {st : List Value} {L : va_W} {x y : UInt32} (F : li_F E g A cc own nL lv mc ms ret) (hd : decode cc pc = .ok (.fdiv, 1)) (hne : vf_n32 (FP.fdiv x y)) (K : cn_J E g A nL Q (k) (n) (pc + 1) ls (.float (FP.fdiv x y) :: st) (L)) : cn_J E g A nL Q (k) (n) (pc) ls (.float y :: .float x :: st) (L) := by
  obtain ⟨p, e, R, s, m, args, below, meth, c⟩ := E
  obtain ⟨⟨hx, hb, ht, ho, hm, hlk⟩, ⟨hK, hX, hz, hA, hA2⟩, ⟨hR1, hR2, hR3, hR4⟩, hret⟩ := F
  intro H locs la hP hD hS hl
  exact lv_fdiv hx hb hd hne (K H locs la hP hD hS hl)
theorem li_fcmp {E : ml_E} {g : ml_G} {A : Nat → Prop} {cc : ByteArray} {own : String} {nL lv mc ms : Nat} {ret : Option FieldType} {Q : State → Prop} {k n pc : Nat} {ls : List (Nat × Value)} {st : List Value} {L : va_W} {x y : UInt32} {op : CmpOp} {v : Int32} (F : li_F E g A cc own nL lv mc ms ret) (hd : decode cc pc = .ok (.fcmp op, 1)) (hv : Op.cmpValue (FP.fcmp x y) op = v) (K : cn_J E g A nL Q (k) (n) (pc + 1) ls (.int v :: st) (L)) : cn_J E g A nL Q (k) (n) (pc) ls (.float y :: .float x :: st) (L) := by
  obtain ⟨p, e, R, s, m, args, below, meth, c⟩ := E
  obtain ⟨⟨hx, hb, ht, ho, hm, hlk⟩, ⟨hK, hX, hz, hA, hA2⟩, ⟨hR1, hR2, hR3, hR4⟩, hret⟩ := F
  intro H locs la hP hD hS hl
  subst hv
  exact lv_fcmp hx hb hd (K H locs la hP hD hS hl)
theorem li_ldcf {E : ml_E} {g : ml_G} {A : Nat → Prop} {cc : ByteArray} {own : String} {nL lv mc ms : Nat} {ret : Option FieldType} {Q : State → Prop} {k n pc : Nat} {ls : List (Nat × Value)} {st : List Value} {L : va_W} {index : Nat} {v : UInt32} (F : li_F E g A cc own nL lv mc ms ret) (hlk2 : Cond.constantFloat own index v ∈ ml_all) (hd : decode cc pc = .ok (.ldc index, 2)) (K : cn_J E g A nL Q (k) (n) (pc + 2) ls (.float v :: st) (L)) : cn_J E g A nL Q (k) (n) (pc) ls (st) (L) := by
  obtain ⟨p, e, R, s, m, args, below, meth, c⟩ := E
  obtain ⟨⟨hx, hb, ht, ho, hm, hlk⟩, ⟨hK, hX, hz, hA, hA2⟩, ⟨hR1, hR2, hR3, hR4⟩, hret⟩ := F
  intro H locs la hP hD hS hl
  exact lv_ldcf hx hb ho (ht _ hlk2) hd (K H locs la hP hD hS hl)
theorem li_eq {E : ml_E} {g : ml_G} {A : Nat → Prop} {nL : Nat} {Q : State → Prop} {k n pc : Nat} {ls : List (Nat × Value)} {st : List Value} {L : va_W} {st2 : List Value} (h : st = st2) (K : cn_J E g A nL Q (k) (n) (pc) ls (st2) (L)) : cn_J E g A nL Q (k) (n) (pc) ls (st) (L) := by
  subst h
  exact K
theorem li_wid {E : ml_E} {g : ml_G} {A : Nat → Prop} {nL : Nat} {Q : State → Prop} {k n pc : Nat} {ls : List (Nat × Value)} {st : List Value} {L : va_W} {k2 n2 : Nat} (hk : k ≤ k2) (hn : n ≤ n2) (K : cn_J E g A nL Q (k2) (n2) (pc) ls (st) (L)) : cn_J E g A nL Q (k) (n) (pc) ls (st) (L) := by
  obtain ⟨p, e, R, s, m, args, below, meth, c⟩ := E
  exact fun H locs la hP hD hS hl => W.widen hk hn (K H locs la hP hD hS hl)
theorem li_cut {E : ml_E} {g : ml_G} {A : Nat → Prop} {nL : Nat} {Q : State → Prop} {k n pc : Nat} {ls : List (Nat × Value)} {st : List Value} {L : va_W} {L2 : va_W} (h : ∃ f : Nat → Nat, (∀ i j, i < L2.length → j < L2.length → f i = f j → i = j) ∧ ∀ (i : Nat) (q : Nat × va_E), L2[i]? = some q → L[f i]? = some q) (K : cn_J E g A nL Q (k) (n) (pc) ls (st) (L2)) : cn_J E g A nL Q (k) (n) (pc) ls (st) (L) := by
  obtain ⟨p, e, R, s, m, args, below, meth, c⟩ := E
  obtain ⟨f, hf, hq⟩ := h
  refine fun H locs la hP hD hS hl => K H locs la (fun i q h => hP _ q (hq i q h)) ⟨fun i j x y hx hy e => hf i j (List.getElem?_eq_some_iff.mp hx).1 (List.getElem?_eq_some_iff.mp hy).1 (hD.1 _ _ x y (hq i x hx) (hq j y hy) e), fun i q h => hD.2 _ q (hq i q h)⟩ hS hl
theorem li_pick {E : ml_E} {g : ml_G} {A : Nat → Prop} {nL : Nat} {Q : State → Prop} {k n pc : Nat} {ls : List (Nat × Value)} {st : List Value} {L : va_W} (ks : List Nat) {ls2 : List (Nat × Value)} (hs : lv_pick ls ks = ls2) (K : cn_J E g A nL Q (k) (n) (pc) ls2 (st) (L)) : cn_J E g A nL Q (k) (n) (pc) ls (st) (L) := by
  obtain ⟨p, e, R, s, m, args, below, meth, c⟩ := E
  exact fun H locs la hP hD hS hl => K H locs la hP hD hS (lv_sub hl ks hs)
theorem li_callV {E : ml_E} {g : ml_G} {A : Nat → Prop} {cc : ByteArray} {own : String} {nL lv mc ms : Nat} {ret : Option FieldType} {Q : State → Prop} {k n pc : Nat} {ls : List (Nat × Value)} {st : List Value} {y : MethodName} {yc : ByteArray} {yn : Nat} {yr : Option FieldType} {lv2 mc2 ms2 z idx : Nat} {vl2 : Int32 → ml_M → Option Value} {av : List Value} {stk : List Value} {r8 : Int32} {M M8 : ml_M} {X : va_W} {sq tq : Nat} {Bs : List Int32} {kb ci : Nat} {fs : (Nat → Int32) → List Value} {T : u_T} {N : Nat} (F : li_F E g A cc own nL lv mc ms ret) (O : ml_O g kb ci fs) (hT : li_txt g X sq tq Bs) (hc : vwCl[ci]? = some (y.cls, T, N)) (hC : ∀ B : Nat → Prop, ml_C y yc yn yr lv2 mc2 ms2 (li_g0 g B sq tq Bs) vl2 (ml_rf g kb :: av) M (.inl r8, M8)) (W1 : ml_wc y yc yn yr) (hlk2 : Cond.methodLink own idx y ∈ ml_all) (hwd : ml_wd y z) (hlv : lv2 < lv) (hk : k + mc2 ≤ mc) (hn2 : n + ms2 ≤ ms) (hz2 : av.length = z) (hsel : Cond.selects y.cls y y ∈ ml_all) (hins : Cond.instanceMethod y ∈ ml_all) (hstk : stk = av.reverse ++ ml_rf g kb :: st) (hroom : (st.map fun v => v.category).sum ≤ 8) (hd : decode cc pc = .ok (.invokevirtual idx, 3)) (K : cn_J E g A nL Q (k + mc2) (n + ms2) (pc + 3) ls ((vl2 r8 M8).toList ++ st) (ml_wm g M8 ++ X)) : cn_J E g A nL Q (k) (n) (pc) ls (stk) (ml_wm g M ++ X) := by
  obtain ⟨p, e, R, s, m, args, below, meth, c⟩ := E
  obtain ⟨⟨hx, hb, ht, ho, hm, hlk⟩, ⟨hK, hX, hz, hA, hA2⟩, ⟨hR1, hR2, hR3, hR4⟩, hret⟩ := F
  intro H locs la hP hD hS hl
  obtain ⟨⟨p1, d1⟩, -, -⟩ := li_pre hP hD
  have h4 := W1.2.2
  have hrun := vx_runV (As := av) (rest := st) (C := y.cls) (Ts := ml_all) (e := e) (R := R) (below := below) (meth := meth) (locs := locs) (cells := k) (slots := n) ⟨hx, hb, hm, ho, ht⟩ (hC (va_A (ml_wm g M) H.size)) ⟨ml_cb ht W1 hlk2 hwd hR1 hR2 hlv, ht _ hins, ht _ hsel⟩ ⟨ml_H_blind, va_recv (D := g.2.1) (cl := vwCl) (tys := ml_ty g) hK p1 hc (q0 := ml_ix kb) (by rw [ml_wm_at O.1, O.2]), fun U hU hW => ⟨rfl, li_H0 ht hK hX hS hA hA2 hP hD hT hU hW⟩⟩ (g := F0 m pc la stk) rfl hz2 hl.1 hstk (lv_room hroom) hd ⟨by omega, by omega⟩
  refine li_go (g' := li_g0 g (va_A (ml_wm g M) H.size) sq tq Bs) hrun hS (fun q h => li_sub (g := g) d1 hS hA q h) (fun H1 locs1 hP1 hk1 hS1 => ?_)
  obtain ⟨hP9, hD9⟩ := li_post hP hD (li_P0.mp hP1) li_adr hk1
  exact K H1 locs1 la hP9 hD9 hS1 hl
theorem li_callS {E : ml_E} {g : ml_G} {A : Nat → Prop} {cc : ByteArray} {own : String} {nL lv mc ms : Nat} {ret : Option FieldType} {Q : State → Prop} {k n pc : Nat} {ls : List (Nat × Value)} {st : List Value} {y : MethodName} {yc : ByteArray} {yn : Nat} {yr : Option FieldType} {lv2 mc2 ms2 z idx : Nat} {vl2 : Int32 → ml_M → Option Value} {av : List Value} {stk : List Value} {r8 : Int32} {M M8 : ml_M} {X : va_W} {sq tq : Nat} {Bs : List Int32} (F : li_F E g A cc own nL lv mc ms ret) (hT : li_txt g X sq tq Bs) (hC : ∀ B : Nat → Prop, ml_C y yc yn yr lv2 mc2 ms2 (li_g0 g B sq tq Bs) vl2 av M (.inl r8, M8)) (W1 : ml_wc y yc yn yr) (hlk2 : Cond.methodLink own idx y ∈ ml_all) (hwd : ml_wd y z) (hlv : lv2 < lv) (hk : k + mc2 ≤ mc) (hn2 : n + ms2 ≤ ms) (hz2 : av.length = z) (hstt : Cond.static y ∈ ml_all) (hstk : stk = av.reverse ++ st) (hroom : (st.map fun v => v.category).sum ≤ 8) (hd : decode cc pc = .ok (.invokestatic idx, 3)) (K : cn_J E g A nL Q (k + mc2) (n + ms2) (pc + 3) ls ((vl2 r8 M8).toList ++ st) (ml_wm g M8 ++ X)) : cn_J E g A nL Q (k) (n) (pc) ls (stk) (ml_wm g M ++ X) := by
  obtain ⟨p, e, R, s, m, args, below, meth, c⟩ := E
  obtain ⟨⟨hx, hb, ht, ho, hm, hlk⟩, ⟨hK, hX, hz, hA, hA2⟩, ⟨hR1, hR2, hR3, hR4⟩, hret⟩ := F
  intro H locs la hP hD hS hl
  obtain ⟨⟨p1, d1⟩, -, -⟩ := li_pre hP hD
  have h4 := W1.2.2
  have hrun := vx_runS (As := av) (rest := st) (Ts := ml_all) (e := e) (R := R) (below := below) (meth := meth) (locs := locs) (cells := k) (slots := n) ⟨hx, hb, hm, ho, ht⟩ (hC (va_A (ml_wm g M) H.size)) ⟨ml_cb ht W1 hlk2 hwd hR1 hR2 hlv, ht _ hstt⟩ ⟨ml_H_blind, fun U hU hW => ⟨rfl, li_H0 ht hK hX hS hA hA2 hP hD hT hU hW⟩⟩ (g := F0 m pc la stk) rfl hz2 hl.1 hstk (lv_room hroom) hd ⟨by omega, by omega⟩
  refine li_go (g' := li_g0 g (va_A (ml_wm g M) H.size) sq tq Bs) hrun hS (fun q h => li_sub (g := g) d1 hS hA q h) (fun H1 locs1 hP1 hk1 hS1 => ?_)
  obtain ⟨hP9, hD9⟩ := li_post hP hD (li_P0.mp hP1) li_adr hk1
  exact K H1 locs1 la hP9 hD9 hS1 hl
theorem li_callW {E : ml_E} {g : ml_G} {A : Nat → Prop} {cc : ByteArray} {own : String} {nL lv mc ms : Nat} {ret : Option FieldType} {Q : State → Prop} {k n pc : Nat} {ls : List (Nat × Value)} {st : List Value} {y : MethodName} {yc : ByteArray} {yn : Nat} {yr : Option FieldType} {lv2 mc2 ms2 z idx : Nat} {vl2 : Int32 → ml_M → Option Value} {av : List Value} {stk : List Value} {r8 : Int32} {M M8 : ml_M} {X : va_W} {sq tq : Nat} {Bs : List Int32} {hh : List (Nat × Nat × Nat × Nat)} (F : li_F E g A cc own nL lv mc ms ret) (hT : li_txt g X sq tq Bs) (hC : ∀ B : Nat → Prop, ml_CW y yc yn yr hh lv2 mc2 ms2 (li_g0 g B sq tq Bs) vl2 av M (.inl r8, M8)) (W1 : ml_wcW y yc yn yr hh) (hlk2 : Cond.methodLink own idx y ∈ ml_all) (hwd : ml_wd y z) (hlv : lv2 < lv) (hk : k + mc2 ≤ mc) (hn2 : n + ms2 ≤ ms) (hz2 : av.length = z) (hstt : Cond.static y ∈ ml_all) (hstk : stk = av.reverse ++ st) (hroom : (st.map fun v => v.category).sum ≤ 8) (hd : decode cc pc = .ok (.invokestatic idx, 3)) (K : cn_J E g A nL Q (k + mc2) (n + ms2) (pc + 3) ls ((vl2 r8 M8).toList ++ st) (ml_wm g M8 ++ X)) : cn_J E g A nL Q (k) (n) (pc) ls (stk) (ml_wm g M ++ X) := by
  obtain ⟨p, e, R, s, m, args, below, meth, c⟩ := E
  obtain ⟨⟨hx, hb, ht, ho, hm, hlk⟩, ⟨hK, hX, hz, hA, hA2⟩, ⟨hR1, hR2, hR3, hR4⟩, hret⟩ := F
  intro H locs la hP hD hS hl
  obtain ⟨⟨p1, d1⟩, -, -⟩ := li_pre hP hD
  have h4 := W1.2.2
  have hG : GoodIn ml_all (va_wsS own idx y (ml_wsW y yc yn yr hh)) := ml_goods (fun w hw => by
    rcases List.mem_append.mp hw with hw | hw
    · simp only [List.mem_cons, List.mem_nil_iff, or_false] at hw
      rcases hw with rfl | rfl | rfl
      · exact hlk2
      · exact hstt
      · exact W1.2.1
    · exact (List.mem_cons.mp hw).elim (fun e => e ▸ W1.1) id)
  have hrun := vx_runSX (As := av) (rest := st) (hh := hh) (Ts := ml_all) (e := e) (R := R) (below := below) (meth := meth) (locs := locs) (cells := k) (slots := n) ⟨hx, hb, hm, ho, ht⟩ (hC (va_A (ml_wm g M) H.size)) (vx_cwSW z ht hG rfl rfl rfl ⟨hwd.1, hwd.2.1, hwd.2.2⟩ ⟨by show 40 + lv2 + 1 ≤ _; omega, by show 8 + (yn + 11) + (800 + 64 * lv2) ≤ _; omega⟩) ⟨ml_H_blind, fun U hU hW => ⟨rfl, li_H0 ht hK hX hS hA hA2 hP hD hT hU hW⟩⟩ (g := F0 m pc la stk) rfl hz2 hl.1 hstk (lv_room hroom) hd ⟨by omega, by omega⟩
  refine li_go (g' := li_g0 g (va_A (ml_wm g M) H.size) sq tq Bs) hrun hS (fun q h => li_sub (g := g) d1 hS hA q h) (fun H1 locs1 hP1 hk1 hS1 => ?_)
  obtain ⟨hP9, hD9⟩ := li_post hP hD (li_P0.mp hP1) li_adr hk1
  exact K H1 locs1 la hP9 hD9 hS1 hl
