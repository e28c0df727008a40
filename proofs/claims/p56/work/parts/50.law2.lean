/-! The law: its gates. -/
theorem mlL_159 : Cond.methodLink RL 159 yL_litres ∈ ml_all := ml_tb 1183 (by decide +kernel) rfl
theorem wcL_litres : ml_wc yL_litres cL_litres 4 (some .int) := ⟨ml_tb 1185 (by decide +kernel) rfl, ml_tb 0 (by decide +kernel) rfl, by decide⟩
theorem wdL_litres : ml_wd yL_litres 4 := ⟨by decide +kernel, by decide +kernel, by decide +kernel⟩
theorem stL_litres : Cond.static yL_litres ∈ ml_all := ml_tb 1184 (by decide +kernel) rfl
theorem mlL_169 : Cond.methodLink RL 169 yX6_equalizingAmount ∈ ml_all := ml_tb 388 (by decide +kernel) rfl
theorem wcX6_equalizingAmount : ml_wc yX6_equalizingAmount cX6_equalizingAmount 2 (some .int) := ⟨ml_tb 391 (by decide +kernel) rfl, ml_tb 1 (by decide +kernel) rfl, by decide⟩
theorem wdX6_equalizingAmount : ml_wd yX6_equalizingAmount 1 := ⟨by decide +kernel, by decide +kernel, by decide +kernel⟩
theorem imX6_equalizingAmount : Cond.instanceMethod yX6_equalizingAmount ∈ ml_all := ml_tb 389 (by decide +kernel) rfl
theorem seX6_equalizingAmount : Cond.selects yX6_equalizingAmount.cls yX6_equalizingAmount yX6_equalizingAmount ∈ ml_all := ml_tb 390 (by decide +kernel) rfl
theorem mlL_172 : Cond.methodLink RL 172 yX6_equalizingAmountByLitres ∈ ml_all := ml_tb 407 (by decide +kernel) rfl
theorem wcX6_equalizingAmountByLitres : ml_wc yX6_equalizingAmountByLitres cX6_equalizingAmountByLitres 2 (some .int) := ⟨ml_tb 410 (by decide +kernel) rfl, ml_tb 1 (by decide +kernel) rfl, by decide⟩
theorem wdX6_equalizingAmountByLitres : ml_wd yX6_equalizingAmountByLitres 1 := ⟨by decide +kernel, by decide +kernel, by decide +kernel⟩
theorem imX6_equalizingAmountByLitres : Cond.instanceMethod yX6_equalizingAmountByLitres ∈ ml_all := ml_tb 408 (by decide +kernel) rfl
theorem seX6_equalizingAmountByLitres : Cond.selects yX6_equalizingAmountByLitres.cls yX6_equalizingAmountByLitres yX6_equalizingAmountByLitres ∈ ml_all := ml_tb 409 (by decide +kernel) rfl
theorem mlL_175 : Cond.methodLink RL 175 yX6_flow ∈ ml_all := ml_tb 427 (by decide +kernel) rfl
theorem wcX6_flow : ml_wc yX6_flow cX6_flow 2 (some .int) := ⟨ml_tb 430 (by decide +kernel) rfl, ml_tb 1 (by decide +kernel) rfl, by decide⟩
theorem wdX6_flow : ml_wd yX6_flow 1 := ⟨by decide +kernel, by decide +kernel, by decide +kernel⟩
theorem imX6_flow : Cond.instanceMethod yX6_flow ∈ ml_all := ml_tb 428 (by decide +kernel) rfl
theorem seX6_flow : Cond.selects yX6_flow.cls yX6_flow yX6_flow ∈ ml_all := ml_tb 429 (by decide +kernel) rfl
theorem mlL_163 : Cond.methodLink RL 163 yX6_opening ∈ ml_all := ml_tb 419 (by decide +kernel) rfl
theorem wcX6_opening : ml_wc yX6_opening cX6_opening 2 (some .int) := ⟨ml_tb 422 (by decide +kernel) rfl, ml_tb 1 (by decide +kernel) rfl, by decide⟩
theorem wdX6_opening : ml_wd yX6_opening 1 := ⟨by decide +kernel, by decide +kernel, by decide +kernel⟩
theorem imX6_opening : Cond.instanceMethod yX6_opening ∈ ml_all := ml_tb 420 (by decide +kernel) rfl
theorem seX6_opening : Cond.selects yX6_opening.cls yX6_opening yX6_opening ∈ ml_all := ml_tb 421 (by decide +kernel) rfl
theorem mlL_178 : Cond.methodLink RL 178 yL_minutesUntilEqual ∈ ml_all := ml_tb 898 (by decide +kernel) rfl
theorem wdL_minutesUntilEqual : ml_wd yL_minutesUntilEqual 2 := ⟨by decide +kernel, by decide +kernel, by decide +kernel⟩
theorem stL_minutesUntilEqual : Cond.static yL_minutesUntilEqual ∈ ml_all := ml_tb 899 (by decide +kernel) rfl
theorem wcL_minutesUntilEqual : ml_wcW yL_minutesUntilEqual cL_minutesUntilEqual 3 (some .int) [(0, 5, 6, 27), (0, 5, 11, 50)] := ⟨ml_tb 900 (by decide +kernel) rfl, ml_tb 0 (by decide +kernel) rfl, by decide⟩
theorem mlL_166 : Cond.methodLink RL 166 Lib.Math.min.name ∈ ml_all := ml_tb 1221 (by decide +kernel) rfl
theorem nfl_0 {v : Nat → Nat} {o a : Nat} (hq : nq v a < 2 ^ 31) (ho : 5 * o < 2 ^ 31) : (if nI (5 * o) < nI (nq v a) then nI (5 * o) else nI (nq v a)) = nI (nfl v o 0 a) := by
  unfold nfl
  rw [if_pos rfl]
  by_cases h : nq v a ≤ 5 * o
  · rw [if_pos h, if_neg (fun z => by have := (nI_ltI ho hq).mp z; omega)]
  · rw [if_neg h, if_pos ((nI_ltI ho hq).mpr (by omega))]
theorem nfl_g {v : Nat → Nat} {o g a : Nat} (h : g ≠ 0) : nfl v o g a = nq v a := by unfold nfl; rw [if_neg h]
set_option maxRecDepth 100000 in
set_option maxHeartbeats 8000000 in
theorem w_c {E : ml_E} {g : ml_G} {A : Nat → Prop} {Q : State → Prop} (F : li_F E g A cL_law RL 13 100 877187 6469907 (some .boolean)) (hst : g.2.2.2.2.2.stackTraces = false) {v o gg : Nat → Nat} {L : List fb} {nx c : Nat} {t tot n9 rank : Int32} {ia sq : Nat} {X : va_W} {kz nz : Nat} (hkz : kz ≤ 877187) (hnz : nz ≤ 6469907) (K : ∀ (M : ml_M), jI M → jS M v o gg L nx c → cn_J E g A 13 Q kz nz 496 [(0, .ref (g.2.2.2.2.1 4)), (1, ml_rf g 0), (2, .int t), (3, .int tot), (4, .int n9), (5, .int rank), (6, .ref ia), (7, .ref sq), (8, .int (nI 4))] [] (ml_wm g M ++ X)) : ∀ (s b k n : Nat) (M : ml_M), b + s = 4 → k + 300 * s ≤ kz → n + 3000 * s ≤ nz → jI M → jS M v o gg L nx c → cn_J E g A 13 Q k n 271 [(0, .ref (g.2.2.2.2.1 4)), (1, ml_rf g 0), (2, .int t), (3, .int tot), (4, .int n9), (5, .int rank), (6, .ref ia), (7, .ref sq), (8, .int (nI b))] [] (ml_wm g M ++ X) := by
  intro s
  induction s with
  | zero =>
    intro b k n M hb hk hn hI h
    have e : b = 4 := by omega
    subst e
    refine li_iload (q := 8) F dL_law_271 rfl ?_
    refine li_iconst (v := 4) F dL_law_273 (by decide) ?_
    refine li_icmp_geT (tgt := 496) F dL_law_274 (by decide) (by decide) ?_
    exact li_wid (by omega) (by omega) (K M hI h)
  | succ s ih =>
    intro b k n M hb hk hn hI h
    have hb4 : b < 4 := by omega
    have hq4 := nq_le h.1 hb4
    have ho3 := (h.2.1 b hb4).2
    have hfl := nfl_le v (o b) (gg b) b
    have l1 := mul_le_400 (a := b + 1) (lim4 h.1 (show b < 5 by omega))
    have l2 := mul_le_400 (a := b) (lim4 h.1 (show b + 1 < 5 by omega))
    refine li_iload (q := 8) F dL_law_271 rfl ?_
    refine li_iconst (v := 4) F dL_law_273 (by decide) ?_
    refine li_icmp_geF (tgt := 496) F dL_law_274 (by decide) (fun z => by have := (nI_leI (a := 4) (b := b) (by decide) (by omega)).mp z; omega) ?_
    refine li_aload_n (q := 1) F dL_law_277 rfl rfl ?_
    refine li_iload (q := 8) F dL_law_278 rfl ?_
    refine li_callV (lv2 := 2) (mc2 := 1) (ms2 := 6) (av := [.int (nI b)]) (st := []) (r8 := (nI (v b))) (M := M) (M8 := M) (X := X) (kb := 0) (ci := 10) (T := TX6) (N := 9) F (pc0 g) li_noT rfl (fun _ => fX6_volume_c (nI b) M _ hst (q_volume h (show b < 5 by omega))) wcX6_volume mlL_120 wdX6_volume (by decide) (by omega) (by omega) rfl seX6_volume imX6_volume rfl (Nat.le_of_ble_eq_true rfl) dL_law_280 ?_
    refine li_eq (st2 := [.int (nI (v b))]) rfl ?_
    refine li_aload_n (q := 1) F dL_law_283 rfl rfl ?_
    refine li_iload (q := 8) F dL_law_284 rfl ?_
    refine li_callV (lv2 := 2) (mc2 := 1) (ms2 := 6) (av := [.int (nI b)]) (st := [.int (nI (v b))]) (r8 := (nI (ar b))) (M := M) (M8 := M) (X := X) (kb := 0) (ci := 10) (T := TX6) (N := 9) F (pc0 g) li_noT rfl (fun _ => fX6_area_c (nI b) M _ hst (q_area (show b < 5 by omega))) wcX6_area mlL_123 wdX6_area (by decide) (by omega) (by omega) rfl seX6_area imX6_area rfl (Nat.le_of_ble_eq_true rfl) dL_law_286 ?_
    refine li_eq (st2 := [.int (nI (ar b)), .int (nI (v b))]) rfl ?_
    refine li_aload_n (q := 1) F dL_law_289 rfl rfl ?_
    refine li_iload (q := 8) F dL_law_290 rfl ?_
    refine li_iconst (v := 1) F dL_law_292 (by decide) ?_
    refine li_iadd (v := (nI (b + 1))) F dL_law_293 (nI_1 b) ?_
    refine li_callV (lv2 := 2) (mc2 := 1) (ms2 := 6) (av := [.int (nI (b + 1))]) (st := [.int (nI (ar b)), .int (nI (v b))]) (r8 := (nI (v (b + 1)))) (M := M) (M8 := M) (X := X) (kb := 0) (ci := 10) (T := TX6) (N := 9) F (pc0 g) li_noT rfl (fun _ => fX6_volume_c (nI (b + 1)) M _ hst (q_volume h (show b + 1 < 5 by omega))) wcX6_volume mlL_120 wdX6_volume (by decide) (by omega) (by omega) rfl seX6_volume imX6_volume rfl (Nat.le_of_ble_eq_true rfl) dL_law_294 ?_
    refine li_eq (st2 := [.int (nI (v (b + 1))), .int (nI (ar b)), .int (nI (v b))]) rfl ?_
    refine li_aload_n (q := 1) F dL_law_297 rfl rfl ?_
    refine li_iload (q := 8) F dL_law_298 rfl ?_
    refine li_iconst (v := 1) F dL_law_300 (by decide) ?_
    refine li_iadd (v := (nI (b + 1))) F dL_law_301 (nI_1 b) ?_
    refine li_callV (lv2 := 2) (mc2 := 1) (ms2 := 6) (av := [.int (nI (b + 1))]) (st := [.int (nI (v (b + 1))), .int (nI (ar b)), .int (nI (v b))]) (r8 := (nI (ar (b + 1)))) (M := M) (M8 := M) (X := X) (kb := 0) (ci := 10) (T := TX6) (N := 9) F (pc0 g) li_noT rfl (fun _ => fX6_area_c (nI (b + 1)) M _ hst (q_area (show b + 1 < 5 by omega))) wcX6_area mlL_123 wdX6_area (by decide) (by omega) (by omega) rfl seX6_area imX6_area rfl (Nat.le_of_ble_eq_true rfl) dL_law_302 ?_
    refine li_eq (st2 := [.int (nI (ar (b + 1))), .int (nI (v (b + 1))), .int (nI (ar b)), .int (nI (v b))]) rfl ?_
    refine li_callS (lv2 := 1) (mc2 := 0) (ms2 := 0) (av := [.int (nI (v b)), .int (nI (ar b)), .int (nI (v (b + 1))), .int (nI (ar (b + 1)))]) (st := []) (r8 := (nI (nq v b))) (M := M) (M8 := M) (X := X) F li_noT (fun B9 => fL_litres_c (g := li_g0 g B9 _ _ _) (nI (v b)) (nI (ar b)) (nI (v (b + 1))) (nI (ar (b + 1))) M _ hst (q_llitres h hb4)) wcL_litres mlL_159 wdL_litres (by decide) (by omega) (by omega) rfl stL_litres rfl (Nat.le_of_ble_eq_true rfl) dL_law_305 ?_
    refine li_eq (st2 := [.int (nI (nq v b))]) rfl ?_
    refine li_istore (ls2 := [(9, .int (nI (nq v b))), (0, .ref (g.2.2.2.2.1 4)), (1, ml_rf g 0), (2, .int t), (3, .int tot), (4, .int n9), (5, .int rank), (6, .ref ia), (7, .ref sq), (8, .int (nI b))]) F dL_law_308 (by decide) rfl ?_
    refine li_aload_n (q := 2) F dL_law_310 rfl rfl ?_
    refine li_iload (q := 9) F dL_law_311 rfl ?_
    refine li_callV (lv2 := 3) (mc2 := 1) (ms2 := 6) (av := [.int (nI b)]) (st := []) (r8 := (nI (gg b))) (M := M) (M8 := M) (X := X) (kb := 0) (ci := 10) (T := TX6) (N := 9) F (pc0 g) li_noT rfl (fun _ => fX6_isOpen_c (nI b) M _ hst (q_isOpen h hb4)) wcX6_isOpen mlL_133 wdX6_isOpen (by decide) (by omega) (by omega) rfl seX6_isOpen imX6_isOpen rfl (Nat.le_of_ble_eq_true rfl) dL_law_313 ?_
    refine li_eq (st2 := [.int (nI (gg b))]) rfl ?_
    have tail : cn_J E g A 13 Q (k + 1 + 1 + 1 + 1 + 0 + 1 + 1) (n + 6 + 6 + 6 + 6 + 0 + 6 + 6) 337 [(9, .int (nI (nq v b))), (0, .ref (g.2.2.2.2.1 4)), (1, ml_rf g 0), (2, .int t), (3, .int tot), (4, .int n9), (5, .int rank), (6, .ref ia), (7, .ref sq), (8, .int (nI b))] [.int (nI (nfl v (o b) (gg b) b))] (ml_wm g M ++ X) := by
      refine li_istore (ls2 := [(10, .int (nI (nfl v (o b) (gg b) b))), (9, .int (nI (nq v b))), (0, .ref (g.2.2.2.2.1 4)), (1, ml_rf g 0), (2, .int t), (3, .int tot), (4, .int n9), (5, .int rank), (6, .ref ia), (7, .ref sq), (8, .int (nI b))]) F dL_law_337 (by decide) rfl ?_
      refine li_aload_n (q := 3) F dL_law_339 rfl rfl ?_
      refine li_iload (q := 10) F dL_law_340 rfl ?_
      refine li_callV (lv2 := 4) (mc2 := 1) (ms2 := 6) (av := [.int (nI b)]) (st := []) (r8 := (nI (nq v b))) (M := M) (M8 := M) (X := X) (kb := 0) (ci := 10) (T := TX6) (N := 9) F (pc0 g) li_noT rfl (fun _ => fX6_equalizingAmount_c (nI b) M _ hst (q_equal h hb4)) wcX6_equalizingAmount mlL_169 wdX6_equalizingAmount (by decide) (by omega) (by omega) rfl seX6_equalizingAmount imX6_equalizingAmount rfl (Nat.le_of_ble_eq_true rfl) dL_law_342 ?_
      refine li_eq (st2 := [.int (nI (nq v b))]) rfl ?_
      refine li_iload (q := 1) F dL_law_345 rfl ?_
      refine li_icmp_neF (tgt := 410) F dL_law_347 (by decide) rfl ?_
      refine li_aload_n (q := 3) F dL_law_350 rfl rfl ?_
      refine li_iload (q := 10) F dL_law_351 rfl ?_
      refine li_callV (lv2 := 4) (mc2 := 1) (ms2 := 6) (av := [.int (nI b)]) (st := []) (r8 := (nI (nq v b))) (M := M) (M8 := M) (X := X) (kb := 0) (ci := 10) (T := TX6) (N := 9) F (pc0 g) li_noT rfl (fun _ => fX6_equalizingAmountByLitres_c (nI b) M _ hst (q_litres h hb4)) wcX6_equalizingAmountByLitres mlL_172 wdX6_equalizingAmountByLitres (by decide) (by omega) (by omega) rfl seX6_equalizingAmountByLitres imX6_equalizingAmountByLitres rfl (Nat.le_of_ble_eq_true rfl) dL_law_353 ?_
      refine li_eq (st2 := [.int (nI (nq v b))]) rfl ?_
      refine li_iload (q := 1) F dL_law_356 rfl ?_
      refine li_icmp_neF (tgt := 410) F dL_law_358 (by decide) rfl ?_
      refine li_aload_n (q := 3) F dL_law_361 rfl rfl ?_
      refine li_iload (q := 10) F dL_law_362 rfl ?_
      refine li_callV (lv2 := 5) (mc2 := 1) (ms2 := 6) (av := [.int (nI b)]) (st := []) (r8 := (if v (b + 1) * ar b ≤ v b * ar (b + 1) then (nI (nfl v (o b) (gg b) b)) else -(nI (nfl v (o b) (gg b) b)))) (M := M) (M8 := M) (X := X) (kb := 0) (ci := 10) (T := TX6) (N := 9) F (pc0 g) li_noT rfl (fun _ => fX6_flow_c (nI b) M _ hst (q_flow h hb4)) wcX6_flow mlL_175 wdX6_flow (by decide) (by omega) (by omega) rfl seX6_flow imX6_flow rfl (Nat.le_of_ble_eq_true rfl) dL_law_364 ?_
      refine li_eq (st2 := [.int (if v (b + 1) * ar b ≤ v b * ar (b + 1) then (nI (nfl v (o b) (gg b) b)) else -(nI (nfl v (o b) (gg b) b)))]) rfl ?_
      refine li_aload_n (q := 3) F dL_law_367 rfl rfl ?_
      refine li_iload (q := 10) F dL_law_368 rfl ?_
      refine li_iconst (v := 1) F dL_law_370 (by decide) ?_
      refine li_iadd (v := (nI (b + 1))) F dL_law_371 (nI_1 b) ?_
      refine li_iload (q := 10) F dL_law_372 rfl ?_
      refine li_callV (lv2 := 3) (mc2 := 2) (ms2 := 12) (av := [.int (nI (b + 1)), .int (nI b)]) (st := [.int (if v (b + 1) * ar b ≤ v b * ar (b + 1) then (nI (nfl v (o b) (gg b) b)) else -(nI (nfl v (o b) (gg b) b)))]) (r8 := (if v b * ar (b + 1) < v (b + 1) * ar b then 1 else 0)) (M := M) (M8 := M) (X := X) (kb := 0) (ci := 10) (T := TX6) (N := 9) F (pc0 g) li_noT rfl (fun _ => fX6_isHigher_c (nI (b + 1)) (nI b) M _ hst (q_higher h (show b + 1 < 5 by omega) (show b < 5 by omega))) wcX6_isHigher mlL_155 wdX6_isHigher (by decide) (by omega) (by omega) rfl seX6_isHigher imX6_isHigher rfl (Nat.le_of_ble_eq_true rfl) dL_law_374 ?_
      refine li_eq (st2 := [.int (if v b * ar (b + 1) < v (b + 1) * ar b then 1 else 0), .int (if v (b + 1) * ar b ≤ v b * ar (b + 1) then (nI (nfl v (o b) (gg b) b)) else -(nI (nfl v (o b) (gg b) b)))]) rfl ?_
      have tail3 : cn_J E g A 13 Q (k + 1 + 1 + 1 + 1 + 0 + 1 + 1 + 1 + 1 + 1 + 2) (n + 6 + 6 + 6 + 6 + 0 + 6 + 6 + 6 + 6 + 6 + 12) 391 [(10, .int (nI (nfl v (o b) (gg b) b))), (9, .int (nI (nq v b))), (0, .ref (g.2.2.2.2.1 4)), (1, ml_rf g 0), (2, .int t), (3, .int tot), (4, .int n9), (5, .int rank), (6, .ref ia), (7, .ref sq), (8, .int (nI b))] [] (ml_wm g M ++ X) := by
        refine li_aload_n (q := 3) F dL_law_391 rfl rfl ?_
        refine li_iload (q := 10) F dL_law_392 rfl ?_
        refine li_callV (lv2 := 3) (mc2 := 1) (ms2 := 6) (av := [.int (nI b)]) (st := []) (r8 := (nI (o b))) (M := M) (M8 := M) (X := X) (kb := 0) (ci := 10) (T := TX6) (N := 9) F (pc0 g) li_noT rfl (fun _ => fX6_opening_c (nI b) M _ hst (q_opening h hb4)) wcX6_opening mlL_163 wdX6_opening (by decide) (by omega) (by omega) rfl seX6_opening imX6_opening rfl (Nat.le_of_ble_eq_true rfl) dL_law_394 ?_
        refine li_eq (st2 := [.int (nI (o b))]) rfl ?_
        refine li_if_ltF (tgt := 410) F dL_law_397 (by decide) (nI_pos (by omega)) ?_
        refine li_aload_n (q := 3) F dL_law_400 rfl rfl ?_
        refine li_iload (q := 10) F dL_law_401 rfl ?_
        refine li_callV (lv2 := 3) (mc2 := 1) (ms2 := 6) (av := [.int (nI b)]) (st := []) (r8 := (nI (o b))) (M := M) (M8 := M) (X := X) (kb := 0) (ci := 10) (T := TX6) (N := 9) F (pc0 g) li_noT rfl (fun _ => fX6_opening_c (nI b) M _ hst (q_opening h hb4)) wcX6_opening mlL_163 wdX6_opening (by decide) (by omega) (by omega) rfl seX6_opening imX6_opening rfl (Nat.le_of_ble_eq_true rfl) dL_law_403 ?_
        refine li_eq (st2 := [.int (nI (o b))]) rfl ?_
        refine li_iconst (v := 3) F dL_law_406 (by decide) ?_
        refine li_icmp_leT (tgt := 412) F dL_law_407 (by decide) ((nI_leI (b := 3) (by omega) (by decide)).mpr ho3) ?_
        obtain ⟨r, M9, em, hr, hfr⟩ := q_minutes hI h hb4
        have hI9 : jI M9 := hI.of (fun p hp => hfr p (by omega))
        have h9 : jS M9 v o gg L nx c := h.of (fun p _ _ => hfr p (by omega))
        refine li_aload_n (q := 3) F dL_law_412 rfl rfl ?_
        refine li_iload (q := 10) F dL_law_413 rfl ?_
        refine li_callW (lv2 := 7) (mc2 := 2) (ms2 := 12) (av := [ml_rf g 0, .int (nI b)]) (st := []) (r8 := r) (M := M) (M8 := M9) (X := X) F li_noT (fun _ => fL_minutesUntilEqual_c (nI b) M _ hst (em)) wcL_minutesUntilEqual mlL_178 wdL_minutesUntilEqual (by decide) (by omega) (by omega) rfl stL_minutesUntilEqual rfl (Nat.le_of_ble_eq_true rfl) dL_law_415 ?_
        refine li_eq (st2 := [.int r]) rfl ?_
        have tail4 : cn_J E g A 13 Q (k + 1 + 1 + 1 + 1 + 0 + 1 + 1 + 1 + 1 + 1 + 2 + 1 + 1 + 2) (n + 6 + 6 + 6 + 6 + 0 + 6 + 6 + 6 + 6 + 6 + 12 + 6 + 6 + 12) 441 [(10, .int (nI (nfl v (o b) (gg b) b))), (9, .int (nI (nq v b))), (0, .ref (g.2.2.2.2.1 4)), (1, ml_rf g 0), (2, .int t), (3, .int tot), (4, .int n9), (5, .int rank), (6, .ref ia), (7, .ref sq), (8, .int (nI b))] [] (ml_wm g M9 ++ X) := by
          obtain ⟨ka, ha5, hra, ea⟩ := q_rank h9 (r := b) (by omega)
          obtain ⟨kb, hb5, hrb, eb⟩ := q_rank h9 (r := b + 1) (by omega)
          obtain ⟨n1, n2⟩ := q_next h9 ha5 hb5 (by rw [hra, hrb])
          refine li_aload_n (q := 3) F dL_law_441 rfl rfl ?_
          refine li_iload (q := 10) F dL_law_442 rfl ?_
          refine li_callV (lv2 := 4) (mc2 := 1) (ms2 := 6) (av := [.int (nI b)]) (st := []) (r8 := (nI ka)) (M := M9) (M8 := M9) (X := X) (kb := 0) (ci := 10) (T := TX6) (N := 9) F (pc0 g) li_noT rfl (fun _ => fX6_basinByLevel_c (nI b) M9 _ hst (ea)) wcX6_basinByLevel mlL_47 wdX6_basinByLevel (by decide) (by omega) (by omega) rfl seX6_basinByLevel imX6_basinByLevel rfl (Nat.le_of_ble_eq_true rfl) dL_law_444 ?_
          refine li_eq (st2 := [.int (nI ka)]) rfl ?_
          refine li_istore (ls2 := [(11, .int (nI ka)), (10, .int (nI (nfl v (o b) (gg b) b))), (9, .int (nI (nq v b))), (0, .ref (g.2.2.2.2.1 4)), (1, ml_rf g 0), (2, .int t), (3, .int tot), (4, .int n9), (5, .int rank), (6, .ref ia), (7, .ref sq), (8, .int (nI b))]) F dL_law_447 (by decide) rfl ?_
          refine li_aload_n (q := 4) F dL_law_449 rfl rfl ?_
          refine li_iload (q := 11) F dL_law_450 rfl ?_
          refine li_iconst (v := 1) F dL_law_452 (by decide) ?_
          refine li_iadd (v := (nI (b + 1))) F dL_law_453 (nI_1 b) ?_
          refine li_callV (lv2 := 4) (mc2 := 1) (ms2 := 6) (av := [.int (nI (b + 1))]) (st := []) (r8 := (nI kb)) (M := M9) (M8 := M9) (X := X) (kb := 0) (ci := 10) (T := TX6) (N := 9) F (pc0 g) li_noT rfl (fun _ => fX6_basinByLevel_c (nI (b + 1)) M9 _ hst (eb)) wcX6_basinByLevel mlL_47 wdX6_basinByLevel (by decide) (by omega) (by omega) rfl seX6_basinByLevel imX6_basinByLevel rfl (Nat.le_of_ble_eq_true rfl) dL_law_454 ?_
          refine li_eq (st2 := [.int (nI kb)]) rfl ?_
          refine li_istore (ls2 := [(12, .int (nI kb)), (11, .int (nI ka)), (10, .int (nI (nfl v (o b) (gg b) b))), (9, .int (nI (nq v b))), (0, .ref (g.2.2.2.2.1 4)), (1, ml_rf g 0), (2, .int t), (3, .int tot), (4, .int n9), (5, .int rank), (6, .ref ia), (7, .ref sq), (8, .int (nI b))]) F dL_law_457 (by decide) rfl ?_
          refine li_aload_n (q := 5) F dL_law_459 rfl rfl ?_
          refine li_iload (q := 0) F dL_law_460 rfl ?_
          refine li_iload (q := 1) F dL_law_462 rfl ?_
          refine li_callV (lv2 := 3) (mc2 := 2) (ms2 := 12) (av := [.int (nI kb), .int (nI ka)]) (st := []) (r8 := (if v ka * ar kb < v kb * ar ka then 1 else 0)) (M := M9) (M8 := M9) (X := X) (kb := 0) (ci := 10) (T := TX6) (N := 9) F (pc0 g) li_noT rfl (fun _ => fX6_isHigher_c (nI kb) (nI ka) M9 _ hst (q_higher h9 hb5 ha5)) wcX6_isHigher mlL_155 wdX6_isHigher (by decide) (by omega) (by omega) rfl seX6_isHigher imX6_isHigher rfl (Nat.le_of_ble_eq_true rfl) dL_law_464 ?_
          refine li_eq (st2 := [.int (if v ka * ar kb < v kb * ar ka then 1 else 0)]) rfl ?_
          refine li_if_neF (tgt := 488) F dL_law_467 (by decide) (if_neg n1) ?_
          refine li_aload_n (q := 5) F dL_law_470 rfl rfl ?_
          refine li_iload (q := 1) F dL_law_471 rfl ?_
          refine li_iload (q := 0) F dL_law_473 rfl ?_
          refine li_callV (lv2 := 3) (mc2 := 2) (ms2 := 12) (av := [.int (nI ka), .int (nI kb)]) (st := []) (r8 := (if v kb * ar ka < v ka * ar kb then 1 else 0)) (M := M9) (M8 := M9) (X := X) (kb := 0) (ci := 10) (T := TX6) (N := 9) F (pc0 g) li_noT rfl (fun _ => fX6_isHigher_c (nI ka) (nI kb) M9 _ hst (q_higher h9 ha5 hb5)) wcX6_isHigher mlL_155 wdX6_isHigher (by decide) (by omega) (by omega) rfl seX6_isHigher imX6_isHigher rfl (Nat.le_of_ble_eq_true rfl) dL_law_475 ?_
          refine li_eq (st2 := [.int (if v kb * ar ka < v ka * ar kb then 1 else 0)]) rfl ?_
          by_cases hc : v kb * ar ka < v ka * ar kb
          · refine li_if_neT (tgt := 490) F dL_law_478 (by decide) (by rw [if_pos hc]; decide) ?_
            refine li_iinc (q := 12) (v := (nI (b + 1))) (ls2 := [(8, .int (nI (b + 1))), (12, .int (nI kb)), (11, .int (nI ka)), (10, .int (nI (nfl v (o b) (gg b) b))), (9, .int (nI (nq v b))), (0, .ref (g.2.2.2.2.1 4)), (1, ml_rf g 0), (2, .int t), (3, .int tot), (4, .int n9), (5, .int rank), (6, .ref ia), (7, .ref sq)]) F dL_law_490 rfl (nI_i1 b) (by decide) rfl ?_
            refine li_goto (tgt := 271) F dL_law_493 (by decide) ?_
            exact li_pick [5, 6, 7, 8, 9, 10, 11, 12, 0] rfl (li_wid (by omega) (by omega) (ih (b + 1) (k + 300) (n + 3000) M9 (by omega) (by omega) (by omega) hI9 h9))
          · refine li_if_neF (tgt := 490) F dL_law_478 (by decide) (if_neg hc) ?_
            refine li_iload (q := 1) F dL_law_481 rfl ?_
            refine li_iload (q := 0) F dL_law_483 rfl ?_
            refine li_icmp_leT (tgt := 490) F dL_law_485 (by decide) ((nI_leI (by omega) (by omega)).mpr (by have := n2 hc; omega)) ?_
            refine li_iinc (q := 12) (v := (nI (b + 1))) (ls2 := [(8, .int (nI (b + 1))), (12, .int (nI kb)), (11, .int (nI ka)), (10, .int (nI (nfl v (o b) (gg b) b))), (9, .int (nI (nq v b))), (0, .ref (g.2.2.2.2.1 4)), (1, ml_rf g 0), (2, .int t), (3, .int tot), (4, .int n9), (5, .int rank), (6, .ref ia), (7, .ref sq)]) F dL_law_490 rfl (nI_i1 b) (by decide) rfl ?_
            refine li_goto (tgt := 271) F dL_law_493 (by decide) ?_
            exact li_pick [5, 6, 7, 8, 9, 10, 11, 12, 0] rfl (li_wid (by omega) (by omega) (ih (b + 1) (k + 300) (n + 3000) M9 (by omega) (by omega) (by omega) hI9 h9))
        by_cases h0 : nq v b = 0
        · refine li_if_neF (tgt := 425) F dL_law_418 (by decide) (hr.mpr h0) ?_
          refine li_iconst (v := 1) F dL_law_421 (by decide) ?_
          refine li_goto (tgt := 426) F dL_law_422 (by decide) ?_
          refine li_iload (q := 1) F dL_law_426 rfl ?_
          refine li_if_neF (tgt := 435) F dL_law_428 (by decide) (by rw [h0]; rfl) ?_
          refine li_iconst (v := 1) F dL_law_431 (by decide) ?_
          refine li_goto (tgt := 436) F dL_law_432 (by decide) ?_
          refine li_icmp_eqT (tgt := 441) F dL_law_436 (by decide) rfl ?_
          exact tail4
        · refine li_if_neT (tgt := 425) F dL_law_418 (by decide) (fun z => h0 (hr.mp z)) ?_
          refine li_iconst (v := 0) F dL_law_425 (by decide) ?_
          refine li_iload (q := 1) F dL_law_426 rfl ?_
          refine li_if_neT (tgt := 435) F dL_law_428 (by decide) (fun z => h0 ((nI_eq (by omega) (by decide)).mp z)) ?_
          refine li_iconst (v := 0) F dL_law_435 (by decide) ?_
          refine li_icmp_eqT (tgt := 441) F dL_law_436 (by decide) rfl ?_
          exact tail4
      by_cases hc : v b * ar (b + 1) < v (b + 1) * ar b
      · refine li_if_eqF (tgt := 386) F dL_law_377 (by decide) (by rw [if_pos hc]; decide) ?_
        refine li_iload (q := 0) F dL_law_380 rfl ?_
        refine li_ineg (v := (-(nI (nfl v (o b) (gg b) b)))) F dL_law_382 rfl ?_
        refine li_goto (tgt := 388) F dL_law_383 (by decide) ?_
        refine li_icmp_neF (tgt := 410) F dL_law_388 (by decide) (if_neg (by omega)) ?_
        exact li_wid (by omega) (by omega) tail3
      · refine li_if_eqT (tgt := 386) F dL_law_377 (by decide) (if_neg hc) ?_
        refine li_iload (q := 0) F dL_law_386 rfl ?_
        refine li_icmp_neF (tgt := 410) F dL_law_388 (by decide) (if_pos (by omega)) ?_
        exact li_wid (by omega) (by omega) tail3
    by_cases hg : gg b = 0
    · refine li_if_eqT (tgt := 324) F dL_law_316 (by decide) (by rw [hg]; rfl) ?_
      refine li_iload (q := 0) F dL_law_324 rfl ?_
      refine li_iconst (v := 5) F dL_law_326 (by decide) ?_
      refine li_aload_n (q := 2) F dL_law_327 rfl rfl ?_
      refine li_iload (q := 9) F dL_law_328 rfl ?_
      refine li_callV (lv2 := 3) (mc2 := 1) (ms2 := 6) (av := [.int (nI b)]) (st := [.int 5, .int (nI (nq v b))]) (r8 := (nI (o b))) (M := M) (M8 := M) (X := X) (kb := 0) (ci := 10) (T := TX6) (N := 9) F (pc0 g) li_noT rfl (fun _ => fX6_opening_c (nI b) M _ hst (q_opening h hb4)) wcX6_opening mlL_163 wdX6_opening (by decide) (by omega) (by omega) rfl seX6_opening imX6_opening rfl (Nat.le_of_ble_eq_true rfl) dL_law_330 ?_
      refine li_eq (st2 := [.int (nI (o b)), .int 5, .int (nI (nq v b))]) rfl ?_
      refine li_imul (v := (nI (5 * o b))) F dL_law_333 (pk_mul 5 (o b)) ?_
      refine li_min (v := (nI (nfl v (o b) (gg b) b))) F mlL_166 mnst mnin mnco dL_law_334 (Nat.le_of_ble_eq_true rfl) (by omega) (by omega) (by rw [hg]; exact nfl_0 (by omega) (by omega)) ?_
      exact tail
    · refine li_if_eqF (tgt := 324) F dL_law_316 (by decide) (fun z => hg ((nI_eq (by have := (h.2.2.1 b hb4).2; omega) (by decide)).mp z)) ?_
      refine li_iload (q := 0) F dL_law_319 rfl ?_
      refine li_goto (tgt := 337) F dL_law_321 (by decide) ?_
      refine li_eq (st2 := [.int (nI (nfl v (o b) (gg b) b))]) (by rw [nfl_g hg]) ?_
      exact li_wid (by omega) (by omega) tail
