/-! The law: its boats. -/
theorem mlL_192 : Cond.methodLink RL 192 yX6_floats ∈ ml_all := ml_tb 538 (by decide +kernel) rfl
theorem wcX6_floats : ml_wc yX6_floats cX6_floats 3 (some .boolean) := ⟨ml_tb 541 (by decide +kernel) rfl, ml_tb 1 (by decide +kernel) rfl, by decide⟩
theorem wdX6_floats : ml_wd yX6_floats 2 := ⟨by decide +kernel, by decide +kernel, by decide +kernel⟩
theorem imX6_floats : Cond.instanceMethod yX6_floats ∈ ml_all := ml_tb 539 (by decide +kernel) rfl
theorem seX6_floats : Cond.selects yX6_floats.cls yX6_floats yX6_floats ∈ ml_all := ml_tb 540 (by decide +kernel) rfl
theorem mlL_183 : Cond.methodLink RL 183 yX6_draught ∈ ml_all := ml_tb 510 (by decide +kernel) rfl
theorem wcX6_draught : ml_wc yX6_draught cX6_draught 2 (some .int) := ⟨ml_tb 513 (by decide +kernel) rfl, ml_tb 1 (by decide +kernel) rfl, by decide⟩
theorem wdX6_draught : ml_wd yX6_draught 1 := ⟨by decide +kernel, by decide +kernel, by decide +kernel⟩
theorem imX6_draught : Cond.instanceMethod yX6_draught ∈ ml_all := ml_tb 511 (by decide +kernel) rfl
theorem seX6_draught : Cond.selects yX6_draught.cls yX6_draught yX6_draught ∈ ml_all := ml_tb 512 (by decide +kernel) rfl
theorem mlL_180 : Cond.methodLink RL 180 yX6_basinOf ∈ ml_all := ml_tb 518 (by decide +kernel) rfl
theorem wcX6_basinOf : ml_wc yX6_basinOf cX6_basinOf 2 (some .int) := ⟨ml_tb 521 (by decide +kernel) rfl, ml_tb 1 (by decide +kernel) rfl, by decide⟩
theorem wdX6_basinOf : ml_wd yX6_basinOf 1 := ⟨by decide +kernel, by decide +kernel, by decide +kernel⟩
theorem imX6_basinOf : Cond.instanceMethod yX6_basinOf ∈ ml_all := ml_tb 519 (by decide +kernel) rfl
theorem seX6_basinOf : Cond.selects yX6_basinOf.cls yX6_basinOf yX6_basinOf ∈ ml_all := ml_tb 520 (by decide +kernel) rfl
theorem mlL_195 : Cond.methodLink RL 195 yX6_renderBoat ∈ ml_all := ml_tb 887 (by decide +kernel) rfl
theorem wcX6_renderBoat : ml_wc yX6_renderBoat cX6_renderBoat 2 (some .int) := ⟨ml_tb 890 (by decide +kernel) rfl, ml_tb 1 (by decide +kernel) rfl, by decide⟩
theorem wdX6_renderBoat : ml_wd yX6_renderBoat 1 := ⟨by decide +kernel, by decide +kernel, by decide +kernel⟩
theorem imX6_renderBoat : Cond.instanceMethod yX6_renderBoat ∈ ml_all := ml_tb 888 (by decide +kernel) rfl
theorem seX6_renderBoat : Cond.selects yX6_renderBoat.cls yX6_renderBoat yX6_renderBoat ∈ ml_all := ml_tb 889 (by decide +kernel) rfl
theorem mlL_186 : Cond.methodLink RL 186 yX6_colour ∈ ml_all := ml_tb 495 (by decide +kernel) rfl
theorem wcX6_colour : ml_wc yX6_colour cX6_colour 2 (some .char) := ⟨ml_tb 498 (by decide +kernel) rfl, ml_tb 1 (by decide +kernel) rfl, by decide⟩
theorem wdX6_colour : ml_wd yX6_colour 1 := ⟨by decide +kernel, by decide +kernel, by decide +kernel⟩
theorem imX6_colour : Cond.instanceMethod yX6_colour ∈ ml_all := ml_tb 496 (by decide +kernel) rfl
theorem seX6_colour : Cond.selects yX6_colour.cls yX6_colour yX6_colour ∈ ml_all := ml_tb 497 (by decide +kernel) rfl
theorem mlL_198 : Cond.methodLink RL 198 yJ4_append_cf468 ∈ ml_all := ml_tb 1225 (by decide +kernel) rfl
theorem mlL_189 : Cond.methodLink RL 189 yX6_isGoingDown ∈ ml_all := ml_tb 514 (by decide +kernel) rfl
theorem wcX6_isGoingDown : ml_wc yX6_isGoingDown cX6_isGoingDown 2 (some .boolean) := ⟨ml_tb 517 (by decide +kernel) rfl, ml_tb 1 (by decide +kernel) rfl, by decide⟩
theorem wdX6_isGoingDown : ml_wd yX6_isGoingDown 1 := ⟨by decide +kernel, by decide +kernel, by decide +kernel⟩
theorem imX6_isGoingDown : Cond.instanceMethod yX6_isGoingDown ∈ ml_all := ml_tb 515 (by decide +kernel) rfl
theorem seX6_isGoingDown : Cond.selects yX6_isGoingDown.cls yX6_isGoingDown yX6_isGoingDown ∈ ml_all := ml_tb 516 (by decide +kernel) rfl
theorem mlL_205 : Cond.methodLink RL 205 yL_isLine ∈ ml_all := ml_tb 1187 (by decide +kernel) rfl
theorem wcL_isLine : ml_wc yL_isLine cL_isLine 4 (some .boolean) := ⟨ml_tb 1189 (by decide +kernel) rfl, ml_tb 0 (by decide +kernel) rfl, by decide⟩
theorem wdL_isLine : ml_wd yL_isLine 3 := ⟨by decide +kernel, by decide +kernel, by decide +kernel⟩
theorem stL_isLine : Cond.static yL_isLine ∈ ml_all := ml_tb 1188 (by decide +kernel) rfl
theorem cnt_take {L : List fb} {b q : Nat} {x : fb} (hx : L[b]? = some x) : cnt (L.take (b + 1)) q = cnt (L.take b) q + if x.2.2.2.1 = q then 1 else 0 := by
  have e : L.take (b + 1) = L.take b ++ [x] := by rw [List.take_add_one, hx]; rfl
  unfold cnt
  rw [e, List.countP_append, List.countP_singleton]
  by_cases h : x.2.2.2.1 = q
  · rw [if_pos h, if_pos (by simp [h])]
  · rw [if_neg h, if_neg (by simp [h])]
set_option maxRecDepth 100000 in
set_option maxHeartbeats 8000000 in
theorem w_e {E : ml_E} {g : ml_G} {A : Nat → Prop} {Q : State → Prop} (F : li_F E g A cL_law RL 13 100 877187 6469907 (some .boolean)) (hst : g.2.2.2.2.2.stackTraces = false) {v o gg : Nat → Nat} {L : List fb} {nx c : Nat} {M : ml_M} (h : jS M v o gg L nx c) {t tot n9 rank : Int32} {ia sq b d bas : Nat} {X : va_W} {kz nz : Nat} (hd9 : d ≤ 9) (hdr : fX6_draught (nI b) M = some (.inl (nI d), M)) (hfl : ∀ k, k < 5 → fX6_floats (nI b) (nI k) M = some (.inl (if v k < d * ar k then 0 else 1), M)) (hkz : kz ≤ 877187) (hnz : nz ≤ 6469907) (K : cn_J E g A 13 Q kz nz 663 [(0, .ref (g.2.2.2.2.1 4)), (1, ml_rf g 0), (2, .int t), (3, .int tot), (4, .int n9), (5, .int rank), (6, .ref ia), (7, .ref sq), (8, .int (nI b)), (9, .int (nI bas))] [] (ml_wm g M ++ X)) : ∀ (s j k n : Nat), j + s = 5 → k + 20 * s ≤ kz → n + 200 * s ≤ nz → cn_J E g A 13 Q k n 611 [(0, .ref (g.2.2.2.2.1 4)), (1, ml_rf g 0), (2, .int t), (3, .int tot), (4, .int n9), (5, .int rank), (6, .ref ia), (7, .ref sq), (8, .int (nI b)), (9, .int (nI bas)), (10, .int (nI j))] [] (ml_wm g M ++ X) := by
  intro s
  induction s with
  | zero =>
    intro j k n hj hk hn
    have e : j = 5 := by omega
    subst e
    refine li_iload (q := 10) F dL_law_611 rfl ?_
    refine li_iconst (v := 5) F dL_law_613 (by decide) ?_
    refine li_icmp_geT (tgt := 663) F dL_law_614 (by decide) (by decide) ?_
    exact li_pick [0, 1, 2, 3, 4, 5, 6, 7, 8, 9] rfl (li_wid (by omega) (by omega) K)
  | succ s ih =>
    intro j k n hj hk hn
    have hj5 : j < 5 := by omega
    have l1 := ar_le j
    have l2 : d * ar j ≤ 90 := Nat.le_trans (Nat.mul_le_mul hd9 l1) (by decide)
    have l3 := lim4 h.1 hj5
    refine li_iload (q := 10) F dL_law_611 rfl ?_
    refine li_iconst (v := 5) F dL_law_613 (by decide) ?_
    refine li_icmp_geF (tgt := 663) F dL_law_614 (by decide) (fun z => by have := (nI_leI (a := 5) (b := j) (by decide) (by omega)).mp z; omega) ?_
    refine li_aload_n (q := 1) F dL_law_617 rfl rfl ?_
    refine li_iload (q := 8) F dL_law_618 rfl ?_
    refine li_iload (q := 10) F dL_law_620 rfl ?_
    refine li_callV (lv2 := 3) (mc2 := 2) (ms2 := 12) (av := [.int (nI b), .int (nI j)]) (st := []) (r8 := (if v j < d * ar j then 0 else 1)) (M := M) (M8 := M) (X := X) (kb := 0) (ci := 10) (T := TX6) (N := 9) F (pc0 g) li_noT rfl (fun _ => fX6_floats_c (nI b) (nI j) M _ hst (hfl j hj5)) wcX6_floats mlL_192 wdX6_floats (by decide) (by omega) (by omega) rfl seX6_floats imX6_floats rfl (Nat.le_of_ble_eq_true rfl) dL_law_622 ?_
    refine li_eq (st2 := [.int (if v j < d * ar j then 0 else 1)]) rfl ?_
    refine li_aload_n (q := 1) F dL_law_625 rfl rfl ?_
    refine li_iload (q := 10) F dL_law_626 rfl ?_
    refine li_callV (lv2 := 2) (mc2 := 1) (ms2 := 6) (av := [.int (nI j)]) (st := [.int (if v j < d * ar j then 0 else 1)]) (r8 := (nI (v j))) (M := M) (M8 := M) (X := X) (kb := 0) (ci := 10) (T := TX6) (N := 9) F (pc0 g) li_noT rfl (fun _ => fX6_volume_c (nI j) M _ hst (q_volume h hj5)) wcX6_volume mlL_120 wdX6_volume (by decide) (by omega) (by omega) rfl seX6_volume imX6_volume rfl (Nat.le_of_ble_eq_true rfl) dL_law_628 ?_
    refine li_eq (st2 := [.int (nI (v j)), .int (if v j < d * ar j then 0 else 1)]) rfl ?_
    refine li_aload_n (q := 1) F dL_law_631 rfl rfl ?_
    refine li_iload (q := 8) F dL_law_632 rfl ?_
    refine li_callV (lv2 := 2) (mc2 := 1) (ms2 := 6) (av := [.int (nI b)]) (st := [.int (nI (v j)), .int (if v j < d * ar j then 0 else 1)]) (r8 := (nI d)) (M := M) (M8 := M) (X := X) (kb := 0) (ci := 10) (T := TX6) (N := 9) F (pc0 g) li_noT rfl (fun _ => fX6_draught_c (nI b) M _ hst (hdr)) wcX6_draught mlL_183 wdX6_draught (by decide) (by omega) (by omega) rfl seX6_draught imX6_draught rfl (Nat.le_of_ble_eq_true rfl) dL_law_634 ?_
    refine li_eq (st2 := [.int (nI d), .int (nI (v j)), .int (if v j < d * ar j then 0 else 1)]) rfl ?_
    refine li_aload_n (q := 1) F dL_law_637 rfl rfl ?_
    refine li_iload (q := 10) F dL_law_638 rfl ?_
    refine li_callV (lv2 := 2) (mc2 := 1) (ms2 := 6) (av := [.int (nI j)]) (st := [.int (nI d), .int (nI (v j)), .int (if v j < d * ar j then 0 else 1)]) (r8 := (nI (ar j))) (M := M) (M8 := M) (X := X) (kb := 0) (ci := 10) (T := TX6) (N := 9) F (pc0 g) li_noT rfl (fun _ => fX6_area_c (nI j) M _ hst (q_area hj5)) wcX6_area mlL_123 wdX6_area (by decide) (by omega) (by omega) rfl seX6_area imX6_area rfl (Nat.le_of_ble_eq_true rfl) dL_law_640 ?_
    refine li_eq (st2 := [.int (nI (ar j)), .int (nI d), .int (nI (v j)), .int (if v j < d * ar j then 0 else 1)]) rfl ?_
    refine li_imul (v := (nI (d * ar j))) F dL_law_643 (pk_mul d (ar j)) ?_
    by_cases hc : v j < d * ar j
    · refine li_icmp_ltT (tgt := 651) F dL_law_644 (by decide) ((nI_ltI (by omega) (by omega)).mpr hc) ?_
      refine li_iconst (v := 0) F dL_law_651 (by decide) ?_
      refine li_icmp_eqT (tgt := 657) F dL_law_652 (by decide) (if_pos hc) ?_
      refine li_iinc (q := 10) (v := (nI (j + 1))) (ls2 := [(10, .int (nI (j + 1))), (0, .ref (g.2.2.2.2.1 4)), (1, ml_rf g 0), (2, .int t), (3, .int tot), (4, .int n9), (5, .int rank), (6, .ref ia), (7, .ref sq), (8, .int (nI b)), (9, .int (nI bas))]) F dL_law_657 rfl (nI_i1 j) (by decide) rfl ?_
      refine li_goto (tgt := 611) F dL_law_660 (by decide) ?_
      exact li_pick [1, 2, 3, 4, 5, 6, 7, 8, 9, 10, 0] rfl (li_wid (by omega) (by omega) (ih (j + 1) (k + 20) (n + 200) (by omega) (by omega) (by omega)))
    · refine li_icmp_ltF (tgt := 651) F dL_law_644 (by decide) (fun z => hc ((nI_ltI (by omega) (by omega)).mp z)) ?_
      refine li_iconst (v := 1) F dL_law_647 (by decide) ?_
      refine li_goto (tgt := 652) F dL_law_648 (by decide) ?_
      refine li_icmp_eqT (tgt := 657) F dL_law_652 (by decide) (if_neg hc) ?_
      refine li_iinc (q := 10) (v := (nI (j + 1))) (ls2 := [(10, .int (nI (j + 1))), (0, .ref (g.2.2.2.2.1 4)), (1, ml_rf g 0), (2, .int t), (3, .int tot), (4, .int n9), (5, .int rank), (6, .ref ia), (7, .ref sq), (8, .int (nI b)), (9, .int (nI bas))]) F dL_law_657 rfl (nI_i1 j) (by decide) rfl ?_
      refine li_goto (tgt := 611) F dL_law_660 (by decide) ?_
      exact li_pick [1, 2, 3, 4, 5, 6, 7, 8, 9, 10, 0] rfl (li_wid (by omega) (by omega) (ih (j + 1) (k + 20) (n + 200) (by omega) (by omega) (by omega)))
theorem set_set9 {X : va_W} {i : Nat} {a b : Nat × va_E} : (X.set i a).set i b = X.set i b := by simp
theorem set_at9 {X : va_W} {i : Nat} {a c : Nat × va_E} (h : X[i]? = some c) : (X.set i a)[i]? = some a := by
  have := (List.getElem?_eq_some_iff.mp h).1
  simp [this]
set_option maxRecDepth 100000 in
set_option maxHeartbeats 16000000 in
theorem w_d {E : ml_E} {g : ml_G} {A : Nat → Prop} {Q : State → Prop} (F : li_F E g A cL_law RL 13 100 877187 6469907 (some .boolean)) (hst : g.2.2.2.2.2.stackTraces = false) (hO : g.2.2.2.1 11 = g.2.2.2.1 9) (hsb : ml_sb g = st_sb) (hLO : li_O E) {v o gg : Nat → Nat} {L : List fb} {nx c : Nat} {t tot rank : Int32} {ia sq tq : Nat} {T0 : List Int32} {kz nz : Nat} (hkz : kz ≤ 877187) (hnz : nz ≤ 6469907) (K : ∀ (M : ml_M) (X : va_W) (i : Nat) (f : Nat → Int32), jI M → jS M v o gg L nx c → X[i]? = some (ia, .inl (g.2.2.1 0, 5, .inl f)) → (∀ q, q < 5 → f q = nI (cnt L q)) → li_txt g X sq tq T0 → cn_J E g A 13 Q kz nz 741 [(0, .ref (g.2.2.2.2.1 4)), (1, ml_rf g 0), (2, .int t), (3, .int tot), (4, .int (nI L.length)), (5, .int rank), (6, .ref ia), (7, .ref sq), (8, .int (nI L.length))] [] (ml_wm g M ++ X)) : ∀ (s b k n : Nat) (M : ml_M) (X : va_W) (i : Nat) (f : Nat → Int32), b + s = L.length → k + 500 * s ≤ kz → n + 5000 * s ≤ nz → jI M → jS M v o gg L nx c → X[i]? = some (ia, .inl (g.2.2.1 0, 5, .inl f)) → (∀ q, q < 5 → f q = nI (cnt (L.take b) q)) → li_txt g X sq tq T0 → (∀ f : Nat → Int32, li_txt g (List.set X i (ia, .inl (g.2.2.1 0, 5, .inl f))) sq tq T0) → cn_J E g A 13 Q k n 499 [(0, .ref (g.2.2.2.2.1 4)), (1, ml_rf g 0), (2, .int t), (3, .int tot), (4, .int (nI L.length)), (5, .int rank), (6, .ref ia), (7, .ref sq), (8, .int (nI b))] [] (ml_wm g M ++ X) := by
  intro s
  induction s with
  | zero =>
    intro b k n M X i f hb hk hn hI h hA hf hT hS
    have e : b = L.length := by omega
    subst e
    refine li_iload (q := 8) F dL_law_499 rfl ?_
    refine li_iload (q := 4) F dL_law_501 rfl ?_
    refine li_icmp_geT (tgt := 741) F dL_law_503 (by decide) (Int32.le_refl _) ?_
    exact li_wid (by omega) (by omega) (K M X i f hI h hA (fun q hq => by rw [hf q hq, List.take_length]) hT)
  | succ s ih =>
    intro b k n M X i f hb hk hn hI h hA hf hT hS
    have hL8 := h.2.2.2.2.2.2.1
    have hbL : b < L.length := by omega
    obtain ⟨x, hx, ⟨x3, d1, d9, w1, s4⟩, hfa, ec, ed, eg, eb, efl⟩ := q_boat h hbL
    obtain ⟨bas, hbas⟩ : ∃ z, z = x.2.2.2.1 := ⟨_, rfl⟩
    rw [← hbas] at eb s4
    have hb5 : bas < 5 := by omega
    refine li_iload (q := 8) F dL_law_499 rfl ?_
    refine li_iload (q := 4) F dL_law_501 rfl ?_
    refine li_icmp_geF (tgt := 741) F dL_law_503 (by decide) (fun z => by have := (nI_leI (by omega) (by omega)).mp z; omega) ?_
    refine li_aload_n (q := 1) F dL_law_506 rfl rfl ?_
    refine li_iload (q := 8) F dL_law_507 rfl ?_
    refine li_callV (lv2 := 2) (mc2 := 1) (ms2 := 6) (av := [.int (nI b)]) (st := []) (r8 := (nI bas)) (M := M) (M8 := M) (X := X) (kb := 0) (ci := 10) (T := TX6) (N := 9) F (pc0 g) li_noT rfl (fun _ => fX6_basinOf_c (nI b) M _ hst (eb)) wcX6_basinOf mlL_180 wdX6_basinOf (by decide) (by omega) (by omega) rfl seX6_basinOf imX6_basinOf rfl (Nat.le_of_ble_eq_true rfl) dL_law_509 ?_
    refine li_eq (st2 := [.int (nI bas)]) rfl ?_
    refine li_istore (ls2 := [(9, .int (nI bas)), (0, .ref (g.2.2.2.2.1 4)), (1, ml_rf g 0), (2, .int t), (3, .int tot), (4, .int (nI L.length)), (5, .int rank), (6, .ref ia), (7, .ref sq), (8, .int (nI b))]) F dL_law_512 (by decide) rfl ?_
    refine li_aload (q := 7) F dL_law_514 rfl ?_
    refine li_iload (q := 0) F dL_law_516 rfl ?_
    refine li_dup2 F dL_law_518 rfl rfl ?_
    refine li_iald (q0 := (176 + i)) (N := 5) (j := bas) (f := f) (v := (f bas)) F (by rw [li_at]; exact hA) (nI_pos (by omega)) (nI_clamp (by omega)) hb5 rfl dL_law_519 ?_
    refine li_iconst (v := 1) F dL_law_520 (by decide) ?_
    refine li_iadd (v := ((f bas) + 1)) F dL_law_521 rfl ?_
    refine li_iast (q0 := 176 + i) (N := 5) (j := bas) (f := f) (L2 := ml_wm g M ++ List.set X i (ia, .inl (g.2.2.1 0, 5, .inl (upd f bas (f bas + 1))))) F (by rw [li_at]; exact hA) (nI_pos (by omega)) (nI_clamp (by omega)) hb5 (li_set _ _) dL_law_522 ?_
    have hA1 := set_at9 (a := (ia, .inl (g.2.2.1 0, 5, .inl (upd f bas (f bas + 1))))) hA
    have hf1 : ∀ q, q < 5 → upd f bas (f bas + 1) q = nI (cnt (L.take (b + 1)) q) := fun q hq => by
      rw [cnt_take hx, ← hbas]
      by_cases hq2 : q = bas
      · rw [hq2, pk_us, if_pos rfl, hf bas hb5, nI_1]
      · rw [pk_un hq2, if_neg (fun z => hq2 z.symm), hf q hq]; rfl
    have hT1 := hS (upd f bas (f bas + 1))
    have hS1 : ∀ f9 : Nat → Int32, li_txt g (List.set (List.set X i (ia, .inl (g.2.2.1 0, 5, .inl (upd f bas (f bas + 1))))) i (ia, .inl (g.2.2.1 0, 5, .inl f9))) sq tq T0 := fun f9 => by rw [set_set9]; exact hS f9
    generalize ((List.set X i (ia, .inl (g.2.2.1 0, 5, .inl (upd f bas (f bas + 1))))) : va_W) = X1 at hA1 hT1 hS1 ⊢
    generalize upd f bas (f bas + 1) = f1 at hA1 hf1
    refine li_aload_n (q := 2) F dL_law_523 rfl rfl ?_
    refine li_iload (q := 9) F dL_law_524 rfl ?_
    refine li_callV (lv2 := 2) (mc2 := 1) (ms2 := 6) (av := [.int (nI b)]) (st := []) (r8 := (nI x.2.1)) (M := M) (M8 := M) (X := X1) (kb := 0) (ci := 10) (T := TX6) (N := 9) F (pc0 g) li_noT rfl (fun _ => fX6_draught_c (nI b) M _ hst (ed)) wcX6_draught mlL_183 wdX6_draught (by decide) (by omega) (by omega) rfl seX6_draught imX6_draught rfl (Nat.le_of_ble_eq_true rfl) dL_law_526 ?_
    refine li_eq (st2 := [.int (nI x.2.1)]) rfl ?_
    refine li_iconst (v := 1) F dL_law_529 (by decide) ?_
    refine li_icmp_ltF (tgt := 606) F dL_law_530 (by decide) (fun z => by have := (nI_ltI (b := 1) (by omega) (by decide)).mp z; omega) ?_
    refine li_aload_n (q := 2) F dL_law_533 rfl rfl ?_
    refine li_iload (q := 9) F dL_law_534 rfl ?_
    refine li_callV (lv2 := 2) (mc2 := 1) (ms2 := 6) (av := [.int (nI b)]) (st := []) (r8 := (nI x.2.1)) (M := M) (M8 := M) (X := X1) (kb := 0) (ci := 10) (T := TX6) (N := 9) F (pc0 g) li_noT rfl (fun _ => fX6_draught_c (nI b) M _ hst (ed)) wcX6_draught mlL_183 wdX6_draught (by decide) (by omega) (by omega) rfl seX6_draught imX6_draught rfl (Nat.le_of_ble_eq_true rfl) dL_law_536 ?_
    refine li_eq (st2 := [.int (nI x.2.1)]) rfl ?_
    refine li_bipush (v := 9) F dL_law_539 (by decide) ?_
    refine li_icmp_gtF (tgt := 606) F dL_law_541 (by decide) (fun z => by have := (nI_ltI (a := 9) (by decide) (by omega)).mp z; omega) ?_
    have tail7 : cn_J E g A 13 Q (k + 1 + 1 + 1 + 3) (n + 6 + 6 + 6 + 18) 577 [(9, .int (nI bas)), (0, .ref (g.2.2.2.2.1 4)), (1, ml_rf g 0), (2, .int t), (3, .int tot), (4, .int (nI L.length)), (5, .int rank), (6, .ref ia), (7, .ref sq), (8, .int (nI b))] [] (ml_wm g M ++ X1) := by
      have tail8 : cn_J E g A 13 Q (k + 1 + 1 + 1 + 3 + 2) (n + 6 + 6 + 6 + 18 + 12) 608 [(9, .int (nI bas)), (0, .ref (g.2.2.2.2.1 4)), (1, ml_rf g 0), (2, .int t), (3, .int tot), (4, .int (nI L.length)), (5, .int rank), (6, .ref ia), (7, .ref sq), (8, .int (nI b))] [] (ml_wm g M ++ X1) := by
        refine li_iconst (v := 0) F dL_law_608 (by decide) ?_
        refine li_istore (ls2 := [(10, .int 0), (9, .int (nI bas)), (0, .ref (g.2.2.2.2.1 4)), (1, ml_rf g 0), (2, .int t), (3, .int tot), (4, .int (nI L.length)), (5, .int rank), (6, .ref ia), (7, .ref sq), (8, .int (nI b))]) F dL_law_609 (by decide) rfl ?_
        refine li_pick (ls2 := [(0, .ref (g.2.2.2.2.1 4)), (1, ml_rf g 0), (2, .int t), (3, .int tot), (4, .int (nI L.length)), (5, .int rank), (6, .ref ia), (7, .ref sq), (8, .int (nI b)), (9, .int (nI bas)), (10, .int (nI 0))]) [2, 3, 4, 5, 6, 7, 8, 9, 10, 1, 0] rfl ?_
        refine w_e (kz := k + 300) (nz := n + 3000) F hst h d9 ed efl (by omega) (by omega) ?_ 5 0 _ _ (by decide) (by omega) (by omega)
        obtain ⟨M9, er, tM, hI9, h9⟩ := q_bt hI h hx
        refine li_aload_n (q := 1) F dL_law_663 rfl rfl ?_
        refine li_aload_n (q := 1) F dL_law_664 rfl rfl ?_
        refine li_iload (q := 8) F dL_law_665 rfl ?_
        refine li_callV (lv2 := 5) (mc2 := 1) (ms2 := 6) (av := [.int (nI b)]) (st := [ml_rf g 0]) (r8 := (nI (btT x).length)) (M := M) (M8 := M9) (X := X1) (kb := 0) (ci := 10) (T := TX6) (N := 9) F (pc0 g) li_noT rfl (fun _ => fX6_renderBoat_c (nI b) M _ hO hst (er)) wcX6_renderBoat mlL_195 wdX6_renderBoat (by decide) (by omega) (by omega) rfl seX6_renderBoat imX6_renderBoat rfl (Nat.le_of_ble_eq_true rfl) dL_law_667 ?_
        refine li_eq (st2 := [.int (nI (btT x).length), ml_rf g 0]) rfl ?_
        obtain ⟨x9, hx9, -, -, ec9, ed9, eg9, -, -⟩ := q_boat h9 hbL
        rw [hx] at hx9
        cases hx9
        rw [(cs_e x3).1] at ec9
        refine li_mkSB F hst hLO dL_law_670 dL_law_673 dL_law_674 (by omega) (by omega) (fun _ => Nat.le_of_ble_eq_true rfl) (fun bq aq => ?_)
        obtain ⟨mb1, ma1, e1, t1⟩ := y_s (M := M9) (T2 := []) (z := (g.1.2.1, fun i => if i = 5 then ([] : List Nat).map nI else g.1.2.2 i)) (q := 5) oY_0 (by decide) (fun j y hy => by cases hy) rfl
        have q2l := dg_len x.2.1
        obtain ⟨mb2, ma2, e2, t2⟩ := y_c (M := M9) (c := cs x.1) t1 (by decide) (cs_e x3).2
        obtain ⟨mb3, ma3, e3, t3⟩ := y_n (M := M9) (v := x.2.1) t2 (by simp only [List.length_append, List.length_cons, List.length_nil]; omega) (by omega)
        refine li_ldcS (i8 := 0) F rfl (by decide) dL_law_677 ?_
        refine li_callB (vl2 := fun _ _ => some (.ref bq)) (lv2 := 6) (mc2 := 0) (ms2 := 0) (av := [.ref (g.2.2.2.2.1 (10 + 0))]) (st := [.int (nI (btT x).length), ml_rf g 0]) (r8 := 0) (M := M9) (mb := (fun _ => 0)) (ma := (fun _ => 0)) (mb8 := mb1) (ma8 := ma1) (bq := bq) (aq := aq) (X := X1) F (li_c (T := []) (i := 0) hsb (by decide) rfl) rfl (fun B9 => fJ4_append_15ec4_c (g := li_gB g B9 bq aq (g.2.2.2.2.1 (10 + 0)) (g.2.2.2.2.1 (40 + 0)) _)  5 (li_mB M9 (fun _ => 0) (fun _ => 0)) _ (by decide) hst (e1)) wcJ4_append_15ec4 mlL_129 wdJ4_append_15ec4 (by decide) (by omega) (by omega) rfl seJ4_append_15ec4 imJ4_append_15ec4 rfl (Nat.le_of_ble_eq_true rfl) dL_law_679 ?_
        refine li_eq (st2 := [.ref bq, .int (nI (btT x).length), ml_rf g 0]) rfl ?_
        refine li_aload_n (q := 1) F dL_law_682 rfl rfl ?_
        refine li_iload (q := 8) F dL_law_683 rfl ?_
        refine li_callV (lv2 := 2) (mc2 := 1) (ms2 := 6) (av := [.int (nI b)]) (st := [.ref bq, .int (nI (btT x).length), ml_rf g 0]) (r8 := (nI (cs x.1))) (M := M9) (M8 := M9) (X := (bq, li_cb aq mb1) :: (aq, li_ca g ma1) :: X1) (kb := 0) (ci := 10) (T := TX6) (N := 9) F (pc0 g) li_noT rfl (fun _ => fX6_colour_c (nI b) M9 _ hst (ec9)) wcX6_colour mlL_186 wdX6_colour (by decide) (by omega) (by omega) rfl seX6_colour imX6_colour rfl (Nat.le_of_ble_eq_true rfl) dL_law_685 ?_
        refine li_eq (st2 := [.int (nI (cs x.1)), .ref bq, .int (nI (btT x).length), ml_rf g 0]) rfl ?_
        refine li_callB (vl2 := fun _ _ => some (.ref bq)) (lv2 := 4) (mc2 := 0) (ms2 := 0) (av := [.int (nI (cs x.1))]) (st := [.int (nI (btT x).length), ml_rf g 0]) (r8 := 0) (M := M9) (mb := mb1) (ma := ma1) (mb8 := mb2) (ma8 := ma2) (bq := bq) (aq := aq) (X := X1) F li_noT rfl (fun B9 => fJ4_append_cf468_c  (nI (cs x.1)) (li_mB M9 mb1 ma1) _ hst (e2)) wcJ4_append_cf468 mlL_198 wdJ4_append_cf468 (by decide) (by omega) (by omega) rfl seJ4_append_cf468 imJ4_append_cf468 rfl (Nat.le_of_ble_eq_true rfl) dL_law_688 ?_
        refine li_eq (st2 := [.ref bq, .int (nI (btT x).length), ml_rf g 0]) rfl ?_
        refine li_aload_n (q := 1) F dL_law_691 rfl rfl ?_
        refine li_iload (q := 8) F dL_law_692 rfl ?_
        refine li_callV (lv2 := 2) (mc2 := 1) (ms2 := 6) (av := [.int (nI b)]) (st := [.ref bq, .int (nI (btT x).length), ml_rf g 0]) (r8 := (nI x.2.1)) (M := M9) (M8 := M9) (X := (bq, li_cb aq mb2) :: (aq, li_ca g ma2) :: X1) (kb := 0) (ci := 10) (T := TX6) (N := 9) F (pc0 g) li_noT rfl (fun _ => fX6_draught_c (nI b) M9 _ hst (ed9)) wcX6_draught mlL_183 wdX6_draught (by decide) (by omega) (by omega) rfl seX6_draught imX6_draught rfl (Nat.le_of_ble_eq_true rfl) dL_law_694 ?_
        refine li_eq (st2 := [.int (nI x.2.1), .ref bq, .int (nI (btT x).length), ml_rf g 0]) rfl ?_
        refine li_callB (vl2 := fun _ _ => some (.ref bq)) (lv2 := 3) (mc2 := 0) (ms2 := 0) (av := [.int (nI x.2.1)]) (st := [.int (nI (btT x).length), ml_rf g 0]) (r8 := 0) (M := M9) (mb := mb2) (ma := ma2) (mb8 := mb3) (ma8 := ma3) (bq := bq) (aq := aq) (X := X1) F li_noT rfl (fun B9 => fJ4_append_bf812_c  (nI x.2.1) (li_mB M9 mb2 ma2) _ hst (e3)) wcJ4_append_bf812 mlL_141 wdJ4_append_bf812 (by decide) (by omega) (by omega) rfl seJ4_append_bf812 imJ4_append_bf812 rfl (Nat.le_of_ble_eq_true rfl) dL_law_697 ?_
        refine li_eq (st2 := [.ref bq, .int (nI (btT x).length), ml_rf g 0]) rfl ?_
        refine li_aload_n (q := 1) F dL_law_700 rfl rfl ?_
        refine li_iload (q := 8) F dL_law_701 rfl ?_
        refine li_callV (lv2 := 2) (mc2 := 1) (ms2 := 6) (av := [.int (nI b)]) (st := [.ref bq, .int (nI (btT x).length), ml_rf g 0]) (r8 := (nI x.2.2.1)) (M := M9) (M8 := M9) (X := (bq, li_cb aq mb3) :: (aq, li_ca g ma3) :: X1) (kb := 0) (ci := 10) (T := TX6) (N := 9) F (pc0 g) li_noT rfl (fun _ => fX6_isGoingDown_c (nI b) M9 _ hst (eg9)) wcX6_isGoingDown mlL_189 wdX6_isGoingDown (by decide) (by omega) (by omega) rfl seX6_isGoingDown imX6_isGoingDown rfl (Nat.le_of_ble_eq_true rfl) dL_law_703 ?_
        refine li_eq (st2 := [.int (nI x.2.2.1), .ref bq, .int (nI (btT x).length), ml_rf g 0]) rfl ?_
        have tailc : ∀ (i8 : Nat) (T2 : List Nat), i8 < 5 → T2.map nI = st_sb i8 → T2 = [if x.2.2.1 = 0 then 94 else 118] → cn_J E g A 13 Q (k + 300 + 1 + 2 + 0 + 1 + 0 + 1 + 0 + 1) (n + 3000 + 6 + 20 + 0 + 6 + 0 + 6 + 0 + 6) 716 [(0, .ref (g.2.2.2.2.1 4)), (1, ml_rf g 0), (2, .int t), (3, .int tot), (4, .int (nI L.length)), (5, .int rank), (6, .ref ia), (7, .ref sq), (8, .int (nI b)), (9, .int (nI bas))] [.ref (g.2.2.2.2.1 (10 + i8)), .ref bq, .int (nI (btT x).length), ml_rf g 0] (ml_wm g M9 ++ (bq, li_cb aq mb3) :: (aq, li_ca g ma3) :: X1) := by
          intro i8 T2 hi8 hT8 hT2
          have hT2l : T2.length = 1 := by rw [hT2]; rfl
          obtain ⟨mb4, ma4, e4, t4⟩ := y_s (M := M9) (T2 := T2) (z := (g.1.2.1, fun i => if i = 5 then T2.map nI else g.1.2.2 i)) (q := 5) t3 (by simp only [List.length_append, List.length_cons, List.length_nil]; omega) (fun j y hy => by rw [hT2] at hy; have h7 := List.mem_singleton.mp (List.mem_of_getElem? hy); rw [h7]; split <;> decide) rfl
          have q4l := dg_len bas
          obtain ⟨mb5, ma5, e5, t5⟩ := y_n (M := M9) (v := bas) t4 (by simp only [List.length_append, List.length_cons, List.length_nil]; omega) (by omega)
          refine li_callB (vl2 := fun _ _ => some (.ref bq)) (lv2 := 6) (mc2 := 0) (ms2 := 0) (av := [.ref (g.2.2.2.2.1 (10 + i8))]) (st := [.int (nI (btT x).length), ml_rf g 0]) (r8 := 0) (M := M9) (mb := mb3) (ma := ma3) (mb8 := mb4) (ma8 := ma4) (bq := bq) (aq := aq) (X := X1) F (li_c hsb hi8 hT8) rfl (fun B9 => fJ4_append_15ec4_c (g := li_gB g B9 bq aq (g.2.2.2.2.1 (10 + i8)) (g.2.2.2.2.1 (40 + i8)) _)  5 (li_mB M9 mb3 ma3) _ (by decide) hst (e4)) wcJ4_append_15ec4 mlL_129 wdJ4_append_15ec4 (by decide) (by omega) (by omega) rfl seJ4_append_15ec4 imJ4_append_15ec4 rfl (Nat.le_of_ble_eq_true rfl) dL_law_716 ?_
          refine li_eq (st2 := [.ref bq, .int (nI (btT x).length), ml_rf g 0]) rfl ?_
          refine li_iload (q := 9) F dL_law_719 rfl ?_
          refine li_callB (vl2 := fun _ _ => some (.ref bq)) (lv2 := 3) (mc2 := 0) (ms2 := 0) (av := [.int (nI bas)]) (st := [.int (nI (btT x).length), ml_rf g 0]) (r8 := 0) (M := M9) (mb := mb4) (ma := ma4) (mb8 := mb5) (ma8 := ma5) (bq := bq) (aq := aq) (X := X1) F li_noT rfl (fun B9 => fJ4_append_bf812_c  (nI bas) (li_mB M9 mb4 ma4) _ hst (e5)) wcJ4_append_bf812 mlL_141 wdJ4_append_bf812 (by decide) (by omega) (by omega) rfl seJ4_append_bf812 imJ4_append_bf812 rfl (Nat.le_of_ble_eq_true rfl) dL_law_721 ?_
          refine li_eq (st2 := [.ref bq, .int (nI (btT x).length), ml_rf g 0]) rfl ?_
          have eT : [] ++ [] ++ [cs x.1] ++ dg x.2.1 ++ T2 ++ dg bas = btT x := by rw [hT2, hbas]; rfl
          rw [eT] at t5
          have hlen := btT_len x
          refine li_toSB F hst (show (btT x).length < 16 by omega) (y_fit t5) t5.1 t5.2.1 (ml_tb 1227 (by decide +kernel) rfl) (by decide) (by omega) (by omega) (Nat.le_of_ble_eq_true rfl) dL_law_724 (fun s2 t2b => ?_)
          have hT9 : li_txt g ((s2, .inr (0, [.ref t2b, .int 0, .int 0, .int 0])) :: (t2b, .inl (g.2.2.1 4, (btT x).length, .inl (va_cpy ma5 (fun _ => 0) 0 0 (btT x).length))) :: X1) s2 t2b ((btT x).map nI) := y_txt (i := 0) t5 rfl rfl
          have hT8_ : li_txt g ((s2, .inr (0, [.ref t2b, .int 0, .int 0, .int 0])) :: (t2b, .inl (g.2.2.1 4, (btT x).length, .inl (va_cpy ma5 (fun _ => 0) 0 0 (btT x).length))) :: X1) sq tq T0 := li_txt_2 hT1
          have hS8 : ∀ f9 : Nat → Int32, li_txt g (List.set ((s2, .inr (0, [.ref t2b, .int 0, .int 0, .int 0])) :: (t2b, .inl (g.2.2.1 4, (btT x).length, .inl (va_cpy ma5 (fun _ => 0) 0 0 (btT x).length))) :: X1) (i + 2) (ia, .inl (g.2.2.1 0, 5, .inl f9))) sq tq T0 := fun f9 => li_txt_2 (hS1 f9)
          have hA8 : ((s2, .inr (0, [.ref t2b, .int 0, .int 0, .int 0])) :: (t2b, .inl (g.2.2.1 4, (btT x).length, .inl (va_cpy ma5 (fun _ => 0) 0 0 (btT x).length))) :: X1)[i + 2]? = some (ia, .inl (g.2.2.1 0, 5, .inl f1)) := hA1
          generalize (((s2, .inr (0, [.ref t2b, .int 0, .int 0, .int 0])) :: (t2b, .inl (g.2.2.1 4, (btT x).length, .inl (va_cpy ma5 (fun _ => 0) 0 0 (btT x).length))) :: X1) : va_W) = X9 at hT9 hT8_ hS8 hA8 ⊢
          refine li_callS (lv2 := 6) (mc2 := 41) (ms2 := 246) (av := [ml_rf g 0, .int (nI (btT x).length), .ref s2]) (st := []) (r8 := 1) (M := M9) (M8 := M9) (X := X9) F hT9 (fun B9 => fL_isLine_c (g := li_g0 g B9 s2 t2b _) 5 (nI (btT x).length) M9 _ (by decide) hO hst (q_line (z := (g.1.2.1, fun i => if i = 5 then (btT x).map nI else g.1.2.2 i)) tM (by omega) rfl)) wcL_isLine mlL_205 wdL_isLine (by decide) (by omega) (by omega) rfl stL_isLine rfl (Nat.le_of_ble_eq_true rfl) dL_law_727 ?_
          refine li_eq (st2 := [.int 1]) rfl ?_
          refine li_if_neT (tgt := 735) F dL_law_730 (by decide) (by decide) ?_
          refine li_iinc (q := 8) (v := (nI (b + 1))) (ls2 := [(8, .int (nI (b + 1))), (0, .ref (g.2.2.2.2.1 4)), (1, ml_rf g 0), (2, .int t), (3, .int tot), (4, .int (nI L.length)), (5, .int rank), (6, .ref ia), (7, .ref sq), (9, .int (nI bas))]) F dL_law_735 rfl (nI_i1 b) (by decide) rfl ?_
          refine li_goto (tgt := 499) F dL_law_738 (by decide) ?_
          exact li_pick [1, 2, 3, 4, 5, 6, 7, 8, 0] rfl (li_wid (by omega) (by omega) (ih (b + 1) (k + 500) (n + 5000) M9 X9 (i + 2) f1 (by omega) (by omega) (by omega) hI9 h9 hA8 hf1 hT8_ hS8))
        by_cases hw : x.2.2.1 = 0
        · refine li_if_eqT (tgt := 714) F dL_law_706 (by decide) (by rw [hw]; rfl) ?_
          refine li_ldcS (i8 := 4) F rfl (by decide) dL_law_714 ?_
          exact tailc 4 [94] (by decide) rfl (by rw [if_pos hw])
        · refine li_if_eqF (tgt := 714) F dL_law_706 (by decide) (fun z => hw ((nI_eq (by omega) (by decide)).mp z)) ?_
          refine li_ldcS (i8 := 3) F rfl (by decide) dL_law_709 ?_
          refine li_goto (tgt := 716) F dL_law_711 (by decide) ?_
          exact tailc 3 [118] (by decide) rfl (by rw [if_neg hw])
      have hfa2 : bas ≠ (if x.2.2.1 = 0 then 0 else 4) := by rw [hbas]; unfold fa at hfa; exact fun z => by simp [z] at hfa
      by_cases hb0 : bas = 0
      · have hw : x.2.2.1 ≠ 0 := fun z => hfa2 (by rw [if_pos z]; exact hb0)
        refine li_iload (q := 0) F dL_law_577 rfl ?_
        refine li_if_neF (tgt := 591) F dL_law_579 (by decide) (by rw [hb0]; rfl) ?_
        refine li_aload_n (q := 2) F dL_law_582 rfl rfl ?_
        refine li_iload (q := 9) F dL_law_583 rfl ?_
        refine li_callV (lv2 := 2) (mc2 := 1) (ms2 := 6) (av := [.int (nI b)]) (st := []) (r8 := (nI x.2.2.1)) (M := M) (M8 := M) (X := X1) (kb := 0) (ci := 10) (T := TX6) (N := 9) F (pc0 g) li_noT rfl (fun _ => fX6_isGoingDown_c (nI b) M _ hst (eg)) wcX6_isGoingDown mlL_189 wdX6_isGoingDown (by decide) (by omega) (by omega) rfl seX6_isGoingDown imX6_isGoingDown rfl (Nat.le_of_ble_eq_true rfl) dL_law_585 ?_
        refine li_eq (st2 := [.int (nI x.2.2.1)]) rfl ?_
        refine li_if_eqF (tgt := 606) F dL_law_588 (by decide) (fun z => hw ((nI_eq (by omega) (by decide)).mp z)) ?_
        refine li_iload (q := 0) F dL_law_591 rfl ?_
        refine li_iconst (v := 4) F dL_law_593 (by decide) ?_
        refine li_icmp_neT (tgt := 608) F dL_law_594 (by decide) (by rw [hb0]; decide) ?_
        exact li_wid (by omega) (by omega) tail8
      · refine li_iload (q := 0) F dL_law_577 rfl ?_
        refine li_if_neT (tgt := 591) F dL_law_579 (by decide) (fun z => hb0 ((nI_eq (by omega) (by decide)).mp z)) ?_
        refine li_iload (q := 0) F dL_law_591 rfl ?_
        refine li_iconst (v := 4) F dL_law_593 (by decide) ?_
        by_cases hb4 : bas = 4
        · have hw : x.2.2.1 = 0 := Decidable.byContradiction (fun z => hfa2 (by rw [if_neg z]; exact hb4))
          refine li_icmp_neF (tgt := 608) F dL_law_594 (by decide) (by rw [hb4]; rfl) ?_
          refine li_aload_n (q := 2) F dL_law_597 rfl rfl ?_
          refine li_iload (q := 9) F dL_law_598 rfl ?_
          refine li_callV (lv2 := 2) (mc2 := 1) (ms2 := 6) (av := [.int (nI b)]) (st := []) (r8 := (nI x.2.2.1)) (M := M) (M8 := M) (X := X1) (kb := 0) (ci := 10) (T := TX6) (N := 9) F (pc0 g) li_noT rfl (fun _ => fX6_isGoingDown_c (nI b) M _ hst (eg)) wcX6_isGoingDown mlL_189 wdX6_isGoingDown (by decide) (by omega) (by omega) rfl seX6_isGoingDown imX6_isGoingDown rfl (Nat.le_of_ble_eq_true rfl) dL_law_600 ?_
          refine li_eq (st2 := [.int (nI x.2.2.1)]) rfl ?_
          refine li_if_eqT (tgt := 608) F dL_law_603 (by decide) (by rw [hw]; rfl) ?_
          exact li_wid (by omega) (by omega) tail8
        · refine li_icmp_neT (tgt := 608) F dL_law_594 (by decide) (fun z => hb4 ((nI_eq (by omega) (by decide)).mp z)) ?_
          exact li_wid (by omega) (by omega) tail8
    rcases (show x.1 = 0 ∨ x.1 = 1 ∨ x.1 = 2 by omega) with h0 | h0 | h0
    · refine li_aload_n (q := 2) F dL_law_544 rfl rfl ?_
      refine li_iload (q := 9) F dL_law_545 rfl ?_
      refine li_callV (lv2 := 2) (mc2 := 1) (ms2 := 6) (av := [.int (nI b)]) (st := []) (r8 := (ml_cs x.1)) (M := M) (M8 := M) (X := X1) (kb := 0) (ci := 10) (T := TX6) (N := 9) F (pc0 g) li_noT rfl (fun _ => fX6_colour_c (nI b) M _ hst (ec)) wcX6_colour mlL_186 wdX6_colour (by decide) (by omega) (by omega) rfl seX6_colour imX6_colour rfl (Nat.le_of_ble_eq_true rfl) dL_law_547 ?_
      refine li_eq (st2 := [.int (ml_cs x.1)]) rfl ?_
      refine li_bipush (v := 114) F dL_law_550 (by decide) ?_
      refine li_icmp_eqT (tgt := 577) F dL_law_552 (by decide) (by rw [h0]; rfl) ?_
      exact li_wid (by omega) (by omega) tail7
    · refine li_aload_n (q := 2) F dL_law_544 rfl rfl ?_
      refine li_iload (q := 9) F dL_law_545 rfl ?_
      refine li_callV (lv2 := 2) (mc2 := 1) (ms2 := 6) (av := [.int (nI b)]) (st := []) (r8 := (ml_cs x.1)) (M := M) (M8 := M) (X := X1) (kb := 0) (ci := 10) (T := TX6) (N := 9) F (pc0 g) li_noT rfl (fun _ => fX6_colour_c (nI b) M _ hst (ec)) wcX6_colour mlL_186 wdX6_colour (by decide) (by omega) (by omega) rfl seX6_colour imX6_colour rfl (Nat.le_of_ble_eq_true rfl) dL_law_547 ?_
      refine li_eq (st2 := [.int (ml_cs x.1)]) rfl ?_
      refine li_bipush (v := 114) F dL_law_550 (by decide) ?_
      refine li_icmp_eqF (tgt := 577) F dL_law_552 (by decide) (by rw [h0]; decide) ?_
      refine li_aload_n (q := 2) F dL_law_555 rfl rfl ?_
      refine li_iload (q := 9) F dL_law_556 rfl ?_
      refine li_callV (lv2 := 2) (mc2 := 1) (ms2 := 6) (av := [.int (nI b)]) (st := []) (r8 := (ml_cs x.1)) (M := M) (M8 := M) (X := X1) (kb := 0) (ci := 10) (T := TX6) (N := 9) F (pc0 g) li_noT rfl (fun _ => fX6_colour_c (nI b) M _ hst (ec)) wcX6_colour mlL_186 wdX6_colour (by decide) (by omega) (by omega) rfl seX6_colour imX6_colour rfl (Nat.le_of_ble_eq_true rfl) dL_law_558 ?_
      refine li_eq (st2 := [.int (ml_cs x.1)]) rfl ?_
      refine li_bipush (v := 103) F dL_law_561 (by decide) ?_
      refine li_icmp_eqT (tgt := 577) F dL_law_563 (by decide) (by rw [h0]; rfl) ?_
      exact li_wid (by omega) (by omega) tail7
    · refine li_aload_n (q := 2) F dL_law_544 rfl rfl ?_
      refine li_iload (q := 9) F dL_law_545 rfl ?_
      refine li_callV (lv2 := 2) (mc2 := 1) (ms2 := 6) (av := [.int (nI b)]) (st := []) (r8 := (ml_cs x.1)) (M := M) (M8 := M) (X := X1) (kb := 0) (ci := 10) (T := TX6) (N := 9) F (pc0 g) li_noT rfl (fun _ => fX6_colour_c (nI b) M _ hst (ec)) wcX6_colour mlL_186 wdX6_colour (by decide) (by omega) (by omega) rfl seX6_colour imX6_colour rfl (Nat.le_of_ble_eq_true rfl) dL_law_547 ?_
      refine li_eq (st2 := [.int (ml_cs x.1)]) rfl ?_
      refine li_bipush (v := 114) F dL_law_550 (by decide) ?_
      refine li_icmp_eqF (tgt := 577) F dL_law_552 (by decide) (by rw [h0]; decide) ?_
      refine li_aload_n (q := 2) F dL_law_555 rfl rfl ?_
      refine li_iload (q := 9) F dL_law_556 rfl ?_
      refine li_callV (lv2 := 2) (mc2 := 1) (ms2 := 6) (av := [.int (nI b)]) (st := []) (r8 := (ml_cs x.1)) (M := M) (M8 := M) (X := X1) (kb := 0) (ci := 10) (T := TX6) (N := 9) F (pc0 g) li_noT rfl (fun _ => fX6_colour_c (nI b) M _ hst (ec)) wcX6_colour mlL_186 wdX6_colour (by decide) (by omega) (by omega) rfl seX6_colour imX6_colour rfl (Nat.le_of_ble_eq_true rfl) dL_law_558 ?_
      refine li_eq (st2 := [.int (ml_cs x.1)]) rfl ?_
      refine li_bipush (v := 103) F dL_law_561 (by decide) ?_
      refine li_icmp_eqF (tgt := 577) F dL_law_563 (by decide) (by rw [h0]; decide) ?_
      refine li_aload_n (q := 2) F dL_law_566 rfl rfl ?_
      refine li_iload (q := 9) F dL_law_567 rfl ?_
      refine li_callV (lv2 := 2) (mc2 := 1) (ms2 := 6) (av := [.int (nI b)]) (st := []) (r8 := (ml_cs x.1)) (M := M) (M8 := M) (X := X1) (kb := 0) (ci := 10) (T := TX6) (N := 9) F (pc0 g) li_noT rfl (fun _ => fX6_colour_c (nI b) M _ hst (ec)) wcX6_colour mlL_186 wdX6_colour (by decide) (by omega) (by omega) rfl seX6_colour imX6_colour rfl (Nat.le_of_ble_eq_true rfl) dL_law_569 ?_
      refine li_eq (st2 := [.int (ml_cs x.1)]) rfl ?_
      refine li_bipush (v := 98) F dL_law_572 (by decide) ?_
      refine li_icmp_neF (tgt := 606) F dL_law_574 (by decide) (by rw [h0]; rfl) ?_
      exact li_wid (by omega) (by omega) tail7
