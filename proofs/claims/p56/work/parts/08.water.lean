set_option maxRecDepth 100000 in
def fX6_areaOf (a0 : Int32) (M : ml_M) : Option ml_R :=
  ml_jn (fun (y1 : Int32) => some (.inl y1, M)) (fun B2 => (if a0 = 0 then B2 10 else (if a0 = 4 then B2 10 else B2 6)))
set_option maxHeartbeats 4000000 in
set_option maxRecDepth 100000 in
theorem fX6_areaOf_c (a0 : Int32) (M : ml_M) (res : ml_R) {g : ml_G} (hst : g.2.2.2.2.2.stackTraces = false) (h : fX6_areaOf a0 M = some res) : ml_C yX6_areaOf cX6_areaOf 1 (some .int) 1 0 0 g (fun r _ => some (.int r)) [.int a0] M res := by
  refine ml_of [(0, .int a0)] hst (by decide) (Nat.le_of_ble_eq_true rfl) rfl (fun E F => ?_)
  unfold fX6_areaOf at h
  refine ml_iload_n (q := 0) F dX6_areaOf_0 rfl rfl ?_
  refine ml_jnR (P := fun B => ∀ (y1 : Int32), B y1 = some res → ml_J E g 1 (ml_Z E g (fun r _ => some (.int r)) res 0 0) (0) (0) 16 [(0, .int a0)] (.int y1 :: []) M) h ?_ (fun jn3 h => ?_)
  · intro y1 h
    dsimp only at h
    exact ml_iret (st := []) F (Option.some.inj h) rfl rfl rfl (by decide) (by decide) dX6_areaOf_16
  refine ml_if_eq (tgt := 9) F dX6_areaOf_1 (by decide) h (fun _ h => ?_) (fun _ h => ?_)
  · refine ml_bipush (v := 10) F dX6_areaOf_9 (by decide) ?_
    refine ml_goto (tgt := 16) F dX6_areaOf_11 (by decide) ?_
    exact ml_sub [0] rfl (jn3 _ h)
  · refine ml_iload_n (q := 0) F dX6_areaOf_4 rfl rfl ?_
    refine ml_iconst (v := 4) F dX6_areaOf_5 (by decide) ?_
    refine ml_icmp_ne (tgt := 14) F dX6_areaOf_6 (by decide) h (fun _ h => ?_) (fun _ h => ?_)
    · refine ml_bipush (v := 6) F dX6_areaOf_14 (by decide) ?_
      exact ml_sub [0] rfl (jn3 _ h)
    · refine ml_bipush (v := 10) F dX6_areaOf_9 (by decide) ?_
      refine ml_goto (tgt := 16) F dX6_areaOf_11 (by decide) ?_
      exact ml_sub [0] rfl (jn3 _ h)
set_option maxRecDepth 100000 in
def fX5_difference (i : Nat) (a0 : Int32) (a1 : Int32) (M : ml_M) : Option ml_R :=
  if ml_ok a0 5 then ml_bd (fX6_areaOf a1 M) (fun r1 M2 => if ml_ok a1 5 then ml_bd (fX6_areaOf a0 M2) (fun r3 M4 => some (.inl (((M (ml_fl i + 2) a0.toNatClampNeg) * r1) - ((M2 (ml_fl i + 2) a1.toNatClampNeg) * r3)), M4)) else none) else none
set_option maxHeartbeats 4000000 in
set_option maxRecDepth 100000 in
theorem fX5_difference_c (i : Nat) (a0 : Int32) (a1 : Int32) (M : ml_M) (res : ml_R) (hi : i < 11) {g : ml_G} (hst : g.2.2.2.2.2.stackTraces = false) (h : fX5_difference i a0 a1 M = some res) : ml_C yX5_difference cX5_difference 3 (some .int) 2 0 0 g (fun r _ => some (.int r)) [ml_rf g (ml_fl i + 1), .int a0, .int a1] M res := by
  refine ml_of [(0, ml_rf g (ml_fl i + 1)), (1, .int a0), (2, .int a1)] hst (by decide) (Nat.le_of_ble_eq_true rfl) rfl (fun E F => ?_)
  unfold fX5_difference at h
  refine ml_aload_n (q := 0) F dX5_difference_0 rfl rfl ?_
  refine ml_get (v := ml_rf g (ml_fl i + 2)) F (pf1 g hi) rfl iaX5 0 (by decide) lkX5_9 rfl rfl dX5_difference_1 ?_
  refine ml_iload_n (q := 1) F dX5_difference_4 rfl rfl ?_
  refine ml_iald F (pf2 g hi) h dX5_difference_5 (fun h => ?_)
  refine ml_iload_n (q := 2) F dX5_difference_6 rfl rfl ?_
  refine ml_callN (av := [.int a1]) F h (fun rs h9 => fX6_areaOf_c a1 M rs hst h9) wcX6_areaOf (idx := 41) (by decide +kernel) wdX6_areaOf (by decide) (by decide) (by decide) rfl stX6_areaOf rfl (Nat.le_of_ble_eq_true rfl) dX5_difference_7 (fun r1 M2 h => ?_)
  refine ml_imul F dX5_difference_10 ?_
  refine ml_aload_n (q := 0) F dX5_difference_11 rfl rfl ?_
  refine ml_get (v := ml_rf g (ml_fl i + 2)) F (pf1 g hi) rfl iaX5 0 (by decide) lkX5_9 rfl rfl dX5_difference_12 ?_
  refine ml_iload_n (q := 2) F dX5_difference_15 rfl rfl ?_
  refine ml_iald F (pf2 g hi) h dX5_difference_16 (fun h => ?_)
  refine ml_iload_n (q := 1) F dX5_difference_17 rfl rfl ?_
  refine ml_callN (av := [.int a0]) F h (fun rs h9 => fX6_areaOf_c a0 M2 rs hst h9) wcX6_areaOf (idx := 41) (by decide +kernel) wdX6_areaOf (by decide) (by decide) (by decide) rfl stX6_areaOf rfl (Nat.le_of_ble_eq_true rfl) dX5_difference_18 (fun r3 M4 h => ?_)
  refine ml_imul F dX5_difference_21 ?_
  refine ml_isub F dX5_difference_22 ?_
  exact ml_iret (st := []) F (Option.some.inj h) rfl rfl rfl (by decide) (by decide) dX5_difference_23
set_option maxRecDepth 100000 in
def fX5_amountByDivision (i : Nat) (a0 : Int32) (M : ml_M) : Option ml_R :=
  ml_bd (fX5_difference i a0 (a0 + 1) M) (fun r1 M2 => ml_bd (fX6_areaOf a0 M2) (fun r3 M4 => ml_bd (fX6_areaOf (a0 + 1) M4) (fun r5 M6 => if ¬ ((r3 + r5) = 0) then some (.inl ((if 0 ≤ r1 then r1 else 0 - r1) / (r3 + r5)), M6) else none)))
set_option maxHeartbeats 4000000 in
set_option maxRecDepth 100000 in
theorem fX5_amountByDivision_c (i : Nat) (a0 : Int32) (M : ml_M) (res : ml_R) (hi : i < 11) {g : ml_G} (hst : g.2.2.2.2.2.stackTraces = false) (h : fX5_amountByDivision i a0 M = some res) : ml_C yX5_amountByDivision cX5_amountByDivision 2 (some .int) 3 0 0 g (fun r _ => some (.int r)) [ml_rf g (ml_fl i + 1), .int a0] M res := by
  refine ml_of [(0, ml_rf g (ml_fl i + 1)), (1, .int a0)] hst (by decide) (Nat.le_of_ble_eq_true rfl) rfl (fun E F => ?_)
  unfold fX5_amountByDivision at h
  refine ml_aload_n (q := 0) F dX5_amountByDivision_0 rfl rfl ?_
  refine ml_iload_n (q := 1) F dX5_amountByDivision_1 rfl rfl ?_
  refine ml_iload_n (q := 1) F dX5_amountByDivision_2 rfl rfl ?_
  refine ml_iconst (v := 1) F dX5_amountByDivision_3 (by decide) ?_
  refine ml_iadd F dX5_amountByDivision_4 ?_
  refine ml_callV (av := [.int a0, .int (a0 + 1)]) (T := TX5) (N := 8) F (pf1 g hi) rfl h (fun rs h9 => fX5_difference_c i a0 (a0 + 1) M rs hi hst h9) wcX5_difference mlX5_45 wdX5_difference (by decide) (by decide) (by decide) rfl seX5_difference imX5_difference rfl (Nat.le_of_ble_eq_true rfl) dX5_amountByDivision_5 (fun r1 M2 h => ?_)
  refine ml_abs F mlX5_49 abst mnin abco dX5_amountByDivision_8 (Nat.le_of_ble_eq_true rfl) (by decide) (by decide) ?_
  refine ml_iload_n (q := 1) F dX5_amountByDivision_11 rfl rfl ?_
  refine ml_callN (av := [.int a0]) F h (fun rs h9 => fX6_areaOf_c a0 M2 rs hst h9) wcX6_areaOf (idx := 41) (by decide +kernel) wdX6_areaOf (by decide) (by decide) (by decide) rfl stX6_areaOf rfl (Nat.le_of_ble_eq_true rfl) dX5_amountByDivision_12 (fun r3 M4 h => ?_)
  refine ml_iload_n (q := 1) F dX5_amountByDivision_15 rfl rfl ?_
  refine ml_iconst (v := 1) F dX5_amountByDivision_16 (by decide) ?_
  refine ml_iadd F dX5_amountByDivision_17 ?_
  refine ml_callN (av := [.int (a0 + 1)]) F h (fun rs h9 => fX6_areaOf_c (a0 + 1) M4 rs hst h9) wcX6_areaOf (idx := 41) (by decide +kernel) wdX6_areaOf (by decide) (by decide) (by decide) rfl stX6_areaOf rfl (Nat.le_of_ble_eq_true rfl) dX5_amountByDivision_18 (fun r5 M6 h => ?_)
  refine ml_iadd F dX5_amountByDivision_21 ?_
  obtain ⟨q7, h⟩ := ml_if h
  refine ml_idiv F dX5_amountByDivision_22 q7 ?_
  exact ml_iret (st := []) F (Option.some.inj h) rfl rfl rfl (by decide) (by decide) dX5_amountByDivision_23
set_option maxRecDepth 100000 in
def fX5_copyWater_s0 (i : Nat) (j : Nat) (rec : Nat → Int32 → ml_M → Option ml_R) (x2 : Int32) (M : ml_M) : Option ml_R :=
  (if 5 ≤ x2 then rec 1 0 M else if ml_ok x2 5 then if ml_ok x2 5 then ml_lt (ml_w M (ml_fl i + 2) x2.toNatClampNeg (M (ml_fl j + 2) x2.toNatClampNeg)) (fun M1 => rec 0 (x2 + 1) M1) else none else none)
set_option maxRecDepth 100000 in
def fX5_copyWater_s1 (i : Nat) (j : Nat) (rec : Nat → Int32 → ml_M → Option ml_R) (x2 : Int32) (M : ml_M) : Option ml_R :=
  (if 4 ≤ x2 then ml_lt (ml_w M (ml_fl i + 1) 3 (M (ml_fl j + 1) 3)) (fun M1 => ml_lt (ml_w M1 (ml_fl i + 1) 4 (M1 (ml_fl j + 1) 4)) (fun M2 => ml_lt (ml_w M2 (ml_fl i + 1) 5 (M2 (ml_fl j + 1) 5)) (fun M3 => ml_lt (ml_w M3 (ml_fl i + 1) 6 (M3 (ml_fl j + 1) 6)) (fun M4 => ml_lt (ml_w M4 (ml_fl i + 1) 7 (M4 (ml_fl j + 1) 7)) (fun M5 => some (.inl 0, M5)))))) else if ml_ok x2 4 then if ml_ok x2 4 then ml_lt (ml_w M (ml_fl i + 3) x2.toNatClampNeg (M (ml_fl j + 3) x2.toNatClampNeg)) (fun M6 => if ml_ok x2 4 then if ml_ok x2 4 then ml_lt (ml_w M6 (ml_fl i + 4) x2.toNatClampNeg (vp_nar .boolean (M6 (ml_fl j + 4) x2.toNatClampNeg))) (fun M7 => rec 1 (x2 + 1) M7) else none else none) else none else none)
def fX5_copyWater_l (i : Nat) (j : Nat) : Nat → Nat → Int32 → ml_M → Option ml_R
  | 0, _ => fun _ _ => none
  | n + 1, 0 => fX5_copyWater_s0 i j (fX5_copyWater_l i j n)
  | n + 1, _ => fX5_copyWater_s1 i j (fX5_copyWater_l i j n)
set_option maxHeartbeats 4000000 in
set_option maxRecDepth 100000 in
theorem fX5_copyWater_w (i : Nat) (j : Nat) (hi : i < 11) (hj : j < 11) {E : ml_E} {g : ml_G} {res : ml_R} (F : ml_F E g cX5_copyWater yX5_copyWater.cls 3 1 0 0 none []) : ∀ fuel : Nat, (∀ (x2 : Int32) (M : ml_M), fX5_copyWater_l i j fuel 0 x2 M = some res → ml_J E g 3 (ml_Z E g (fun _ _ => none) res 0 0) 0 0 2 [(0, ml_rf g (ml_fl i + 1)), (1, ml_rf g (ml_fl j + 1)), (2, .int x2)] [] M) ∧ (∀ (x2 : Int32) (M : ml_M), fX5_copyWater_l i j fuel 1 x2 M = some res → ml_J E g 3 (ml_Z E g (fun _ _ => none) res 0 0) 0 0 27 [(0, ml_rf g (ml_fl i + 1)), (1, ml_rf g (ml_fl j + 1)), (2, .int x2)] [] M) := by
  have hst := ml_F_st F
  intro fuel
  induction fuel with
  | zero => exact ⟨fun _ _ h => (nomatch (show (none : Option ml_R) = some res from h)), fun _ _ h => (nomatch (show (none : Option ml_R) = some res from h))⟩
  | succ fuel ih =>
    refine ⟨?_, ?_⟩
    · intro x2 M h
      replace h : fX5_copyWater_s0 i j (fX5_copyWater_l i j fuel) x2 M = some res := h
      unfold fX5_copyWater_s0 at h
      refine ml_iload_n (q := 2) F dX5_copyWater_2 rfl rfl ?_
      refine ml_iconst (v := 5) F dX5_copyWater_3 (by decide) ?_
      refine ml_icmp_ge (tgt := 25) F dX5_copyWater_4 (by decide) h (fun _ h => ?_) (fun _ h => ?_)
      · refine ml_iconst (v := 0) F dX5_copyWater_25 (by decide) ?_
        refine ml_istore_n (ls2 := [(2, .int 0), (0, ml_rf g (ml_fl i + 1)), (1, ml_rf g (ml_fl j + 1))]) F dX5_copyWater_26 rfl (by decide) rfl ?_
        exact ml_sub [1, 2, 0] rfl ((ih.2) _ _ h)
      · refine ml_aload_n (q := 0) F dX5_copyWater_7 rfl rfl ?_
        refine ml_get (v := ml_rf g (ml_fl i + 2)) F (pf1 g hi) rfl iaX5 0 (by decide) lkX5_9 rfl rfl dX5_copyWater_8 ?_
        refine ml_iload_n (q := 2) F dX5_copyWater_11 rfl rfl ?_
        refine ml_aload_n (q := 1) F dX5_copyWater_12 rfl rfl ?_
        refine ml_get (v := ml_rf g (ml_fl j + 2)) F (pf1 g hj) rfl iaX5 0 (by decide) lkX5_9 rfl rfl dX5_copyWater_13 ?_
        refine ml_iload_n (q := 2) F dX5_copyWater_16 rfl rfl ?_
        refine ml_iald F (pf2 g hj) h dX5_copyWater_17 (fun h => ?_)
        refine ml_iast F (pf2 g hi) h dX5_copyWater_18 (fun h => ?_)
        refine ml_ltM h (fun M1 _ h => ?_)
        refine ml_iinc (q := 2) (v := x2 + 1) (ls2 := [(2, .int (x2 + 1)), (0, ml_rf g (ml_fl i + 1)), (1, ml_rf g (ml_fl j + 1))]) F dX5_copyWater_19 rfl rfl (by decide) rfl ?_
        refine ml_goto (tgt := 2) F dX5_copyWater_22 (by decide) ?_
        exact ml_sub [1, 2, 0] rfl ((ih.1) _ _ h)
    · intro x2 M h
      replace h : fX5_copyWater_s1 i j (fX5_copyWater_l i j fuel) x2 M = some res := h
      unfold fX5_copyWater_s1 at h
      refine ml_iload_n (q := 2) F dX5_copyWater_27 rfl rfl ?_
      refine ml_iconst (v := 4) F dX5_copyWater_28 (by decide) ?_
      refine ml_icmp_ge (tgt := 62) F dX5_copyWater_29 (by decide) h (fun _ h => ?_) (fun _ h => ?_)
      · refine ml_aload_n (q := 0) F dX5_copyWater_62 rfl rfl ?_
        refine ml_aload_n (q := 1) F dX5_copyWater_63 rfl rfl ?_
        refine ml_get (v := .int (M (ml_fl j + 1) 3)) F (pf1 g hj) rfl iaX5 3 (by decide) lkX5_22 rfl rfl dX5_copyWater_64 ?_
        refine ml_set F (pf1 g hi) rfl iaX5 tyX5_ok nmX5 3 (by decide) lkX5_22 rfl rfl rfl rfl rfl (Nat.le_of_ble_eq_true rfl) (fun m => by simp [upd]) dX5_copyWater_67 ?_
        refine ml_ltM h (fun M1 _ h => ?_)
        refine ml_aload_n (q := 0) F dX5_copyWater_70 rfl rfl ?_
        refine ml_aload_n (q := 1) F dX5_copyWater_71 rfl rfl ?_
        refine ml_get (v := .int (M1 (ml_fl j + 1) 4)) F (pf1 g hj) rfl iaX5 4 (by decide) lkX5_26 rfl rfl dX5_copyWater_72 ?_
        refine ml_set F (pf1 g hi) rfl iaX5 tyX5_ok nmX5 4 (by decide) lkX5_26 rfl rfl rfl rfl rfl (Nat.le_of_ble_eq_true rfl) (fun m => by simp [upd]) dX5_copyWater_75 ?_
        refine ml_ltM h (fun M2 _ h => ?_)
        refine ml_aload_n (q := 0) F dX5_copyWater_78 rfl rfl ?_
        refine ml_aload_n (q := 1) F dX5_copyWater_79 rfl rfl ?_
        refine ml_get (v := .int (M2 (ml_fl j + 1) 5)) F (pf1 g hj) rfl iaX5 5 (by decide) lkX5_29 rfl rfl dX5_copyWater_80 ?_
        refine ml_set F (pf1 g hi) rfl iaX5 tyX5_ok nmX5 5 (by decide) lkX5_29 rfl rfl rfl rfl rfl (Nat.le_of_ble_eq_true rfl) (fun m => by simp [upd]) dX5_copyWater_83 ?_
        refine ml_ltM h (fun M3 _ h => ?_)
        refine ml_aload_n (q := 0) F dX5_copyWater_86 rfl rfl ?_
        refine ml_aload_n (q := 1) F dX5_copyWater_87 rfl rfl ?_
        refine ml_get (v := .int (M3 (ml_fl j + 1) 6)) F (pf1 g hj) rfl iaX5 6 (by decide) lkX5_32 rfl rfl dX5_copyWater_88 ?_
        refine ml_set F (pf1 g hi) rfl iaX5 tyX5_ok nmX5 6 (by decide) lkX5_32 rfl rfl rfl rfl rfl (Nat.le_of_ble_eq_true rfl) (fun m => by simp [upd]) dX5_copyWater_91 ?_
        refine ml_ltM h (fun M4 _ h => ?_)
        refine ml_aload_n (q := 0) F dX5_copyWater_94 rfl rfl ?_
        refine ml_aload_n (q := 1) F dX5_copyWater_95 rfl rfl ?_
        refine ml_get (v := .int (M4 (ml_fl j + 1) 7)) F (pf1 g hj) rfl iaX5 7 (by decide) lkX5_35 rfl rfl dX5_copyWater_96 ?_
        refine ml_set F (pf1 g hi) rfl iaX5 tyX5_ok nmX5 7 (by decide) lkX5_35 rfl rfl rfl rfl rfl (Nat.le_of_ble_eq_true rfl) (fun m => by simp [upd]) dX5_copyWater_99 ?_
        refine ml_ltM h (fun M5 _ h => ?_)
        exact ml_vret (st := []) F (Option.some.inj h) rfl rfl (by decide) (by decide) dX5_copyWater_102
      · refine ml_aload_n (q := 0) F dX5_copyWater_32 rfl rfl ?_
        refine ml_get (v := ml_rf g (ml_fl i + 3)) F (pf1 g hi) rfl iaX5 1 (by decide) lkX5_15 rfl rfl dX5_copyWater_33 ?_
        refine ml_iload_n (q := 2) F dX5_copyWater_36 rfl rfl ?_
        refine ml_aload_n (q := 1) F dX5_copyWater_37 rfl rfl ?_
        refine ml_get (v := ml_rf g (ml_fl j + 3)) F (pf1 g hj) rfl iaX5 1 (by decide) lkX5_15 rfl rfl dX5_copyWater_38 ?_
        refine ml_iload_n (q := 2) F dX5_copyWater_41 rfl rfl ?_
        refine ml_iald F (pf3 g hj) h dX5_copyWater_42 (fun h => ?_)
        refine ml_iast F (pf3 g hi) h dX5_copyWater_43 (fun h => ?_)
        refine ml_ltM h (fun M6 _ h => ?_)
        refine ml_aload_n (q := 0) F dX5_copyWater_44 rfl rfl ?_
        refine ml_get (v := ml_rf g (ml_fl i + 4)) F (pf1 g hi) rfl iaX5 2 (by decide) lkX5_18 rfl rfl dX5_copyWater_45 ?_
        refine ml_iload_n (q := 2) F dX5_copyWater_48 rfl rfl ?_
        refine ml_aload_n (q := 1) F dX5_copyWater_49 rfl rfl ?_
        refine ml_get (v := ml_rf g (ml_fl j + 4)) F (pf1 g hj) rfl iaX5 2 (by decide) lkX5_18 rfl rfl dX5_copyWater_50 ?_
        refine ml_iload_n (q := 2) F dX5_copyWater_53 rfl rfl ?_
        refine ml_zald F (pf4 g hj) h dX5_copyWater_54 (fun h => ?_)
        refine ml_zast F (pf4 g hi) h dX5_copyWater_55 (fun h => ?_)
        refine ml_ltM h (fun M7 _ h => ?_)
        refine ml_iinc (q := 2) (v := x2 + 1) (ls2 := [(2, .int (x2 + 1)), (0, ml_rf g (ml_fl i + 1)), (1, ml_rf g (ml_fl j + 1))]) F dX5_copyWater_56 rfl rfl (by decide) rfl ?_
        refine ml_goto (tgt := 27) F dX5_copyWater_59 (by decide) ?_
        exact ml_sub [1, 2, 0] rfl ((ih.2) _ _ h)
set_option maxRecDepth 100000 in
def fX5_copyWater (i : Nat) (j : Nat) (M : ml_M) : Option ml_R :=
  fX5_copyWater_l i j ml_fuel 0 0 M
set_option maxHeartbeats 4000000 in
set_option maxRecDepth 100000 in
theorem fX5_copyWater_c (i : Nat) (j : Nat) (M : ml_M) (res : ml_R) (hi : i < 11) (hj : j < 11) {g : ml_G} (hst : g.2.2.2.2.2.stackTraces = false) (h : fX5_copyWater i j M = some res) : ml_C yX5_copyWater cX5_copyWater 3 none 1 0 0 g (fun _ _ => none) [ml_rf g (ml_fl i + 1), ml_rf g (ml_fl j + 1)] M res := by
  refine ml_of [(0, ml_rf g (ml_fl i + 1)), (1, ml_rf g (ml_fl j + 1))] hst (by decide) (Nat.le_of_ble_eq_true rfl) rfl (fun E F => ?_)
  unfold fX5_copyWater at h
  refine ml_iconst (v := 0) F dX5_copyWater_0 (by decide) ?_
  refine ml_istore_n (ls2 := [(2, .int 0), (0, ml_rf g (ml_fl i + 1)), (1, ml_rf g (ml_fl j + 1))]) F dX5_copyWater_1 rfl (by decide) rfl ?_
  exact ml_sub [1, 2, 0] rfl ((fX5_copyWater_w i j hi hj F ml_fuel).1 _ _ h)
set_option maxRecDepth 100000 in
def fX5_openGateCount_s0 (i : Nat) (rec : Int32 → Int32 → ml_M → Option ml_R) (x1 x2 : Int32) (M : ml_M) : Option ml_R :=
  (if 4 ≤ x2 then some (.inl x1, M) else if ml_ok x2 4 then ml_jn (fun (y1 : Int32) => rec (x1 + y1) (x2 + 1) M) (fun B2 => (if (M (ml_fl i + 4) x2.toNatClampNeg) = 0 then B2 0 else B2 1)) else none)
def fX5_openGateCount_l (i : Nat) : Nat → Int32 → Int32 → ml_M → Option ml_R
  | 0 => fun _ _ _ => none
  | n + 1 => fX5_openGateCount_s0 i (fX5_openGateCount_l i n)
set_option maxHeartbeats 4000000 in
set_option maxRecDepth 100000 in
theorem fX5_openGateCount_w (i : Nat) (hi : i < 11) {E : ml_E} {g : ml_G} {res : ml_R} (F : ml_F E g cX5_openGateCount yX5_openGateCount.cls 3 1 0 0 (some .int) []) : ∀ fuel : Nat, ∀ (x1 x2 : Int32) (M : ml_M), fX5_openGateCount_l i fuel x1 x2 M = some res → ml_J E g 3 (ml_Z E g (fun r _ => some (.int r)) res 0 0) 0 0 4 [(0, ml_rf g (ml_fl i + 1)), (1, .int x1), (2, .int x2)] [] M := by
  have hst := ml_F_st F
  intro fuel
  induction fuel with
  | zero => intro _ _ _ h; exact nomatch (show (none : Option ml_R) = some res from h)
  | succ fuel ih =>
    intro x1 x2 M h
    replace h : fX5_openGateCount_s0 i (fX5_openGateCount_l i fuel) x1 x2 M = some res := h
    unfold fX5_openGateCount_s0 at h
    refine ml_iload_n (q := 2) F dX5_openGateCount_4 rfl rfl ?_
    refine ml_iconst (v := 4) F dX5_openGateCount_5 (by decide) ?_
    refine ml_icmp_ge (tgt := 32) F dX5_openGateCount_6 (by decide) h (fun _ h => ?_) (fun _ h => ?_)
    · refine ml_iload_n (q := 1) F dX5_openGateCount_32 rfl rfl ?_
      exact ml_iret (st := []) F (Option.some.inj h) rfl rfl rfl (by decide) (by decide) dX5_openGateCount_33
    · refine ml_iload_n (q := 1) F dX5_openGateCount_9 rfl rfl ?_
      refine ml_aload_n (q := 0) F dX5_openGateCount_10 rfl rfl ?_
      refine ml_get (v := ml_rf g (ml_fl i + 4)) F (pf1 g hi) rfl iaX5 2 (by decide) lkX5_18 rfl rfl dX5_openGateCount_11 ?_
      refine ml_iload_n (q := 2) F dX5_openGateCount_14 rfl rfl ?_
      refine ml_zald F (pf4 g hi) h dX5_openGateCount_15 (fun h => ?_)
      refine ml_jnR (P := fun B => ∀ (y1 : Int32), B y1 = some res → ml_J E g 3 (ml_Z E g (fun r _ => some (.int r)) res 0 0) (0) (0) 24 [(0, ml_rf g (ml_fl i + 1)), (1, .int x1), (2, .int x2)] (.int y1 :: .int x1 :: []) M) h ?_ (fun jn3 h => ?_)
      · intro y1 h
        dsimp only at h
        refine ml_iadd F dX5_openGateCount_24 ?_
        refine ml_istore_n (ls2 := [(1, .int (x1 + y1)), (0, ml_rf g (ml_fl i + 1)), (2, .int x2)]) F dX5_openGateCount_25 rfl (by decide) rfl ?_
        refine ml_iinc (q := 2) (v := x2 + 1) (ls2 := [(2, .int (x2 + 1)), (1, .int (x1 + y1)), (0, ml_rf g (ml_fl i + 1))]) F dX5_openGateCount_26 rfl rfl (by decide) rfl ?_
        refine ml_goto (tgt := 4) F dX5_openGateCount_29 (by decide) ?_
        exact ml_sub [2, 1, 0] rfl (ih _ _ _ h)
      refine ml_if_eq (tgt := 23) F dX5_openGateCount_16 (by decide) h (fun _ h => ?_) (fun _ h => ?_)
      · refine ml_iconst (v := 0) F dX5_openGateCount_23 (by decide) ?_
        exact ml_sub [0, 1, 2] rfl (jn3 _ h)
      · refine ml_iconst (v := 1) F dX5_openGateCount_19 (by decide) ?_
        refine ml_goto (tgt := 24) F dX5_openGateCount_20 (by decide) ?_
        exact ml_sub [0, 1, 2] rfl (jn3 _ h)
set_option maxRecDepth 100000 in
def fX5_openGateCount (i : Nat) (M : ml_M) : Option ml_R :=
  fX5_openGateCount_l i ml_fuel 0 0 M
set_option maxHeartbeats 4000000 in
set_option maxRecDepth 100000 in
theorem fX5_openGateCount_c (i : Nat) (M : ml_M) (res : ml_R) (hi : i < 11) {g : ml_G} (hst : g.2.2.2.2.2.stackTraces = false) (h : fX5_openGateCount i M = some res) : ml_C yX5_openGateCount cX5_openGateCount 3 (some .int) 1 0 0 g (fun r _ => some (.int r)) [ml_rf g (ml_fl i + 1)] M res := by
  refine ml_of [(0, ml_rf g (ml_fl i + 1))] hst (by decide) (Nat.le_of_ble_eq_true rfl) rfl (fun E F => ?_)
  unfold fX5_openGateCount at h
  refine ml_iconst (v := 0) F dX5_openGateCount_0 (by decide) ?_
  refine ml_istore_n (ls2 := [(1, .int 0), (0, ml_rf g (ml_fl i + 1))]) F dX5_openGateCount_1 rfl (by decide) rfl ?_
  refine ml_iconst (v := 0) F dX5_openGateCount_2 (by decide) ?_
  refine ml_istore_n (ls2 := [(2, .int 0), (1, .int 0), (0, ml_rf g (ml_fl i + 1))]) F dX5_openGateCount_3 rfl (by decide) rfl ?_
  exact ml_sub [2, 1, 0] rfl ((fX5_openGateCount_w i hi F ml_fuel) _ _ _ h)
set_option maxRecDepth 100000 in
def fX5_letRain (i : Nat) (M : ml_M) : Option ml_R :=
  ml_lt (400 - (M (ml_fl i + 2) 0)) (fun v1 => ml_lt (if v1 < (M (ml_fl i + 1) 3) then v1 else (M (ml_fl i + 1) 3)) (fun v2 => ml_lt (ml_w M (ml_fl i + 2) 0 ((M (ml_fl i + 2) 0) + v2)) (fun M3 => ml_lt (ml_w M3 (ml_fl i + 1) 5 ((M3 (ml_fl i + 1) 5) + (M3 (ml_fl i + 1) 3))) (fun M4 => ml_lt (ml_w M4 (ml_fl i + 1) 7 ((M4 (ml_fl i + 1) 7) + ((M4 (ml_fl i + 1) 3) - v2))) (fun M5 => some (.inl ((M5 (ml_fl i + 1) 3) - v2), M5))))))
set_option maxHeartbeats 4000000 in
set_option maxRecDepth 100000 in
theorem fX5_letRain_c (i : Nat) (M : ml_M) (res : ml_R) (hi : i < 11) {g : ml_G} (hst : g.2.2.2.2.2.stackTraces = false) (h : fX5_letRain i M = some res) : ml_C yX5_letRain cX5_letRain 3 (some .int) 1 0 0 g (fun r _ => some (.int r)) [ml_rf g (ml_fl i + 1)] M res := by
  refine ml_of [(0, ml_rf g (ml_fl i + 1))] hst (by decide) (Nat.le_of_ble_eq_true rfl) rfl (fun E F => ?_)
  unfold fX5_letRain at h
  refine ml_sipush (v := 400) F dX5_letRain_0 (by decide) ?_
  refine ml_aload_n (q := 0) F dX5_letRain_3 rfl rfl ?_
  refine ml_get (v := ml_rf g (ml_fl i + 2)) F (pf1 g hi) rfl iaX5 0 (by decide) lkX5_9 rfl rfl dX5_letRain_4 ?_
  refine ml_iconst (v := 0) F dX5_letRain_7 (by decide) ?_
  refine ml_ialdK (j := 0) F (pf2 g hi) (by decide) (by decide) dX5_letRain_8 ?_
  refine ml_isub F dX5_letRain_9 ?_
  refine ml_ltI h (fun v1 _ h => ?_)
  refine ml_istore_n (ls2 := [(1, .int v1), (0, ml_rf g (ml_fl i + 1))]) F dX5_letRain_10 rfl (by decide) rfl ?_
  refine ml_aload_n (q := 1) F dX5_letRain_11 rfl rfl ?_
  refine ml_get (v := .int (M (ml_fl i + 1) 3)) F (pf1 g hi) rfl iaX5 3 (by decide) lkX5_22 rfl rfl dX5_letRain_12 ?_
  refine ml_iload_n (q := 0) F dX5_letRain_15 rfl rfl ?_
  refine ml_min F mlX5_61 mnst mnin mnco dX5_letRain_16 (Nat.le_of_ble_eq_true rfl) (by decide) (by decide) ?_
  refine ml_ltI h (fun v2 _ h => ?_)
  refine ml_istore_n (ls2 := [(2, .int v2), (1, .int v1), (0, ml_rf g (ml_fl i + 1))]) F dX5_letRain_19 rfl (by decide) rfl ?_
  refine ml_aload_n (q := 2) F dX5_letRain_20 rfl rfl ?_
  refine ml_get (v := ml_rf g (ml_fl i + 2)) F (pf1 g hi) rfl iaX5 0 (by decide) lkX5_9 rfl rfl dX5_letRain_21 ?_
  refine ml_iconst (v := 0) F dX5_letRain_24 (by decide) ?_
  refine ml_dup2 F dX5_letRain_25 rfl rfl ?_
  refine ml_ialdK (j := 0) F (pf2 g hi) (by decide) (by decide) dX5_letRain_26 ?_
  refine ml_iload_n (q := 0) F dX5_letRain_27 rfl rfl ?_
  refine ml_iadd F dX5_letRain_28 ?_
  refine ml_iastK (j := 0) F (pf2 g hi) (by decide) (by decide) dX5_letRain_29 ?_
  refine ml_ltM h (fun M3 _ h => ?_)
  refine ml_aload_n (q := 2) F dX5_letRain_30 rfl rfl ?_
  refine ml_dup F dX5_letRain_31 rfl ?_
  refine ml_get (v := .int (M3 (ml_fl i + 1) 5)) F (pf1 g hi) rfl iaX5 5 (by decide) lkX5_29 rfl rfl dX5_letRain_32 ?_
  refine ml_aload_n (q := 2) F dX5_letRain_35 rfl rfl ?_
  refine ml_get (v := .int (M3 (ml_fl i + 1) 3)) F (pf1 g hi) rfl iaX5 3 (by decide) lkX5_22 rfl rfl dX5_letRain_36 ?_
  refine ml_iadd F dX5_letRain_39 ?_
  refine ml_set F (pf1 g hi) rfl iaX5 tyX5_ok nmX5 5 (by decide) lkX5_29 rfl rfl rfl rfl rfl (Nat.le_of_ble_eq_true rfl) (fun m => by simp [upd]) dX5_letRain_40 ?_
  refine ml_ltM h (fun M4 _ h => ?_)
  refine ml_aload_n (q := 2) F dX5_letRain_43 rfl rfl ?_
  refine ml_dup F dX5_letRain_44 rfl ?_
  refine ml_get (v := .int (M4 (ml_fl i + 1) 7)) F (pf1 g hi) rfl iaX5 7 (by decide) lkX5_35 rfl rfl dX5_letRain_45 ?_
  refine ml_aload_n (q := 2) F dX5_letRain_48 rfl rfl ?_
  refine ml_get (v := .int (M4 (ml_fl i + 1) 3)) F (pf1 g hi) rfl iaX5 3 (by decide) lkX5_22 rfl rfl dX5_letRain_49 ?_
  refine ml_iload_n (q := 0) F dX5_letRain_52 rfl rfl ?_
  refine ml_isub F dX5_letRain_53 ?_
  refine ml_iadd F dX5_letRain_54 ?_
  refine ml_set F (pf1 g hi) rfl iaX5 tyX5_ok nmX5 7 (by decide) lkX5_35 rfl rfl rfl rfl rfl (Nat.le_of_ble_eq_true rfl) (fun m => by simp [upd]) dX5_letRain_55 ?_
  refine ml_ltM h (fun M5 _ h => ?_)
  refine ml_aload_n (q := 2) F dX5_letRain_58 rfl rfl ?_
  refine ml_get (v := .int (M5 (ml_fl i + 1) 3)) F (pf1 g hi) rfl iaX5 3 (by decide) lkX5_22 rfl rfl dX5_letRain_59 ?_
  refine ml_iload_n (q := 0) F dX5_letRain_62 rfl rfl ?_
  refine ml_isub F dX5_letRain_63 ?_
  exact ml_iret (st := []) F (Option.some.inj h) rfl rfl rfl (by decide) (by decide) dX5_letRain_64
set_option maxRecDepth 100000 in
def fX5_letDrain (i : Nat) (M : ml_M) : Option ml_R :=
  ml_lt (if (M (ml_fl i + 2) 4) < (M (ml_fl i + 1) 4) then (M (ml_fl i + 2) 4) else (M (ml_fl i + 1) 4)) (fun v1 => ml_lt (ml_w M (ml_fl i + 2) 4 ((M (ml_fl i + 2) 4) - v1)) (fun M2 => ml_lt (ml_w M2 (ml_fl i + 1) 6 ((M2 (ml_fl i + 1) 6) + v1)) (fun M3 => some (.inl 0, M3))))
set_option maxHeartbeats 4000000 in
set_option maxRecDepth 100000 in
theorem fX5_letDrain_c (i : Nat) (M : ml_M) (res : ml_R) (hi : i < 11) {g : ml_G} (hst : g.2.2.2.2.2.stackTraces = false) (h : fX5_letDrain i M = some res) : ml_C yX5_letDrain cX5_letDrain 2 none 1 0 0 g (fun _ _ => none) [ml_rf g (ml_fl i + 1)] M res := by
  refine ml_of [(0, ml_rf g (ml_fl i + 1))] hst (by decide) (Nat.le_of_ble_eq_true rfl) rfl (fun E F => ?_)
  unfold fX5_letDrain at h
  refine ml_aload_n (q := 0) F dX5_letDrain_0 rfl rfl ?_
  refine ml_get (v := .int (M (ml_fl i + 1) 4)) F (pf1 g hi) rfl iaX5 4 (by decide) lkX5_26 rfl rfl dX5_letDrain_1 ?_
  refine ml_aload_n (q := 0) F dX5_letDrain_4 rfl rfl ?_
  refine ml_get (v := ml_rf g (ml_fl i + 2)) F (pf1 g hi) rfl iaX5 0 (by decide) lkX5_9 rfl rfl dX5_letDrain_5 ?_
  refine ml_iconst (v := 4) F dX5_letDrain_8 (by decide) ?_
  refine ml_ialdK (j := 4) F (pf2 g hi) (by decide) (by decide) dX5_letDrain_9 ?_
  refine ml_min F mlX5_61 mnst mnin mnco dX5_letDrain_10 (Nat.le_of_ble_eq_true rfl) (by decide) (by decide) ?_
  refine ml_ltI h (fun v1 _ h => ?_)
  refine ml_istore_n (ls2 := [(1, .int v1), (0, ml_rf g (ml_fl i + 1))]) F dX5_letDrain_13 rfl (by decide) rfl ?_
  refine ml_aload_n (q := 1) F dX5_letDrain_14 rfl rfl ?_
  refine ml_get (v := ml_rf g (ml_fl i + 2)) F (pf1 g hi) rfl iaX5 0 (by decide) lkX5_9 rfl rfl dX5_letDrain_15 ?_
  refine ml_iconst (v := 4) F dX5_letDrain_18 (by decide) ?_
  refine ml_dup2 F dX5_letDrain_19 rfl rfl ?_
  refine ml_ialdK (j := 4) F (pf2 g hi) (by decide) (by decide) dX5_letDrain_20 ?_
  refine ml_iload_n (q := 0) F dX5_letDrain_21 rfl rfl ?_
  refine ml_isub F dX5_letDrain_22 ?_
  refine ml_iastK (j := 4) F (pf2 g hi) (by decide) (by decide) dX5_letDrain_23 ?_
  refine ml_ltM h (fun M2 _ h => ?_)
  refine ml_aload_n (q := 1) F dX5_letDrain_24 rfl rfl ?_
  refine ml_dup F dX5_letDrain_25 rfl ?_
  refine ml_get (v := .int (M2 (ml_fl i + 1) 6)) F (pf1 g hi) rfl iaX5 6 (by decide) lkX5_32 rfl rfl dX5_letDrain_26 ?_
  refine ml_iload_n (q := 0) F dX5_letDrain_29 rfl rfl ?_
  refine ml_iadd F dX5_letDrain_30 ?_
  refine ml_set F (pf1 g hi) rfl iaX5 tyX5_ok nmX5 6 (by decide) lkX5_32 rfl rfl rfl rfl rfl (Nat.le_of_ble_eq_true rfl) (fun m => by simp [upd]) dX5_letDrain_31 ?_
  refine ml_ltM h (fun M3 _ h => ?_)
  exact ml_vret (st := []) F (Option.some.inj h) rfl rfl (by decide) (by decide) dX5_letDrain_34
set_option maxRecDepth 100000 in
def fX5_flowDown (i : Nat) (a0 : Int32) (M : ml_M) : Option ml_R :=
  ml_bd (fX5_amountByDivision i a0 M) (fun r1 M2 => if ml_ok a0 4 then ml_jn (fun (y3 : Int32) => ml_bd (fX5_difference i a0 (a0 + 1) M2) (fun r6 M7 => ml_jn (fun (y8 : Int32) => some (.inl y8, M7)) (fun B9 => (if r6 ≤ 0 then B9 (-y3) else B9 y3)))) (fun B4 => (if (M2 (ml_fl i + 4) a0.toNatClampNeg) = 0 then if ml_ok a0 4 then ml_lt (if (5 * (M2 (ml_fl i + 3) a0.toNatClampNeg)) < r1 then (5 * (M2 (ml_fl i + 3) a0.toNatClampNeg)) else r1) (fun v11 => B4 v11) else none else B4 r1)) else none)
set_option maxHeartbeats 4000000 in
set_option maxRecDepth 100000 in
theorem fX5_flowDown_c (i : Nat) (a0 : Int32) (M : ml_M) (res : ml_R) (hi : i < 11) {g : ml_G} (hst : g.2.2.2.2.2.stackTraces = false) (h : fX5_flowDown i a0 M = some res) : ml_C yX5_flowDown cX5_flowDown 3 (some .int) 4 0 0 g (fun r _ => some (.int r)) [ml_rf g (ml_fl i + 1), .int a0] M res := by
  refine ml_of [(0, ml_rf g (ml_fl i + 1)), (1, .int a0)] hst (by decide) (Nat.le_of_ble_eq_true rfl) rfl (fun E F => ?_)
  unfold fX5_flowDown at h
  refine ml_aload_n (q := 0) F dX5_flowDown_0 rfl rfl ?_
  refine ml_iload_n (q := 1) F dX5_flowDown_1 rfl rfl ?_
  refine ml_callV (av := [.int a0]) (T := TX5) (N := 8) F (pf1 g hi) rfl h (fun rs h9 => fX5_amountByDivision_c i a0 M rs hi hst h9) wcX5_amountByDivision mlX5_58 wdX5_amountByDivision (by decide) (by decide) (by decide) rfl seX5_amountByDivision imX5_amountByDivision rfl (Nat.le_of_ble_eq_true rfl) dX5_flowDown_2 (fun r1 M2 h => ?_)
  refine ml_istore_n (ls2 := [(2, .int r1), (0, ml_rf g (ml_fl i + 1)), (1, .int a0)]) F dX5_flowDown_5 rfl (by decide) rfl ?_
  refine ml_aload_n (q := 1) F dX5_flowDown_6 rfl rfl ?_
  refine ml_get (v := ml_rf g (ml_fl i + 4)) F (pf1 g hi) rfl iaX5 2 (by decide) lkX5_18 rfl rfl dX5_flowDown_7 ?_
  refine ml_iload_n (q := 2) F dX5_flowDown_10 rfl rfl ?_
  refine ml_zald F (pf4 g hi) h dX5_flowDown_11 (fun h => ?_)
  refine ml_jnR (P := fun B => ∀ (y3 : Int32), B y3 = some res → ml_J E g 3 (ml_Z E g (fun r _ => some (.int r)) res 0 0) (0 + 0) (0 + 0) 28 [(0, ml_rf g (ml_fl i + 1)), (1, .int a0), (2, .int y3)] ([]) M2) h ?_ (fun jn5 h => ?_)
  · intro y3 h
    dsimp only at h
    refine ml_aload_n (q := 0) F dX5_flowDown_28 rfl rfl ?_
    refine ml_iload_n (q := 1) F dX5_flowDown_29 rfl rfl ?_
    refine ml_iload_n (q := 1) F dX5_flowDown_30 rfl rfl ?_
    refine ml_iconst (v := 1) F dX5_flowDown_31 (by decide) ?_
    refine ml_iadd F dX5_flowDown_32 ?_
    refine ml_callV (av := [.int a0, .int (a0 + 1)]) (T := TX5) (N := 8) F (pf1 g hi) rfl h (fun rs h9 => fX5_difference_c i a0 (a0 + 1) M2 rs hi hst h9) wcX5_difference mlX5_45 wdX5_difference (by decide) (by decide) (by decide) rfl seX5_difference imX5_difference rfl (Nat.le_of_ble_eq_true rfl) dX5_flowDown_33 (fun r6 M7 h => ?_)
    refine ml_jnR (P := fun B => ∀ (y8 : Int32), B y8 = some res → ml_J E g 3 (ml_Z E g (fun r _ => some (.int r)) res 0 0) (0 + 0 + 0) (0 + 0 + 0) 45 [(0, ml_rf g (ml_fl i + 1)), (1, .int a0), (2, .int y3)] (.int y8 :: []) M7) h ?_ (fun jn10 h => ?_)
    · intro y8 h
      dsimp only at h
      exact ml_iret (st := []) F (Option.some.inj h) rfl rfl rfl (by decide) (by decide) dX5_flowDown_45
    refine ml_if_le (tgt := 43) F dX5_flowDown_36 (by decide) h (fun _ h => ?_) (fun _ h => ?_)
    · refine ml_iload_n (q := 2) F dX5_flowDown_43 rfl rfl ?_
      refine ml_ineg F dX5_flowDown_44 ?_
      exact ml_sub [0, 1, 2] rfl (jn10 _ h)
    · refine ml_iload_n (q := 2) F dX5_flowDown_39 rfl rfl ?_
      refine ml_goto (tgt := 45) F dX5_flowDown_40 (by decide) ?_
      exact ml_sub [0, 1, 2] rfl (jn10 _ h)
  refine ml_if_ne (tgt := 28) F dX5_flowDown_12 (by decide) h (fun _ h => ?_) (fun _ h => ?_)
  · exact ml_sub [1, 2, 0] rfl (jn5 _ h)
  · refine ml_iload_n (q := 0) F dX5_flowDown_15 rfl rfl ?_
    refine ml_iconst (v := 5) F dX5_flowDown_16 (by decide) ?_
    refine ml_aload_n (q := 1) F dX5_flowDown_17 rfl rfl ?_
    refine ml_get (v := ml_rf g (ml_fl i + 3)) F (pf1 g hi) rfl iaX5 1 (by decide) lkX5_15 rfl rfl dX5_flowDown_18 ?_
    refine ml_iload_n (q := 2) F dX5_flowDown_21 rfl rfl ?_
    refine ml_iald F (pf3 g hi) h dX5_flowDown_22 (fun h => ?_)
    refine ml_imul F dX5_flowDown_23 ?_
    refine ml_min F mlX5_61 mnst mnin mnco dX5_flowDown_24 (Nat.le_of_ble_eq_true rfl) (by decide) (by decide) ?_
    refine ml_ltI h (fun v11 _ h => ?_)
    refine ml_istore_n (ls2 := [(2, .int v11), (0, ml_rf g (ml_fl i + 1)), (1, .int a0)]) F dX5_flowDown_27 rfl (by decide) rfl ?_
    exact ml_sub [1, 2, 0] rfl (jn5 _ h)
set_option maxRecDepth 100000 in
def fX5_moveDown (i : Nat) (a0 : Int32) (a1 : Int32) (M : ml_M) : Option ml_R :=
  if ml_ok a0 5 then if ml_ok a0 5 then ml_lt (ml_w M (ml_fl i + 2) a0.toNatClampNeg ((M (ml_fl i + 2) a0.toNatClampNeg) - a1)) (fun M1 => if ml_ok (a0 + 1) 5 then if ml_ok (a0 + 1) 5 then ml_lt (ml_w M1 (ml_fl i + 2) (a0 + 1).toNatClampNeg ((M1 (ml_fl i + 2) (a0 + 1).toNatClampNeg) + a1)) (fun M2 => some (.inl 0, M2)) else none else none) else none else none
set_option maxHeartbeats 4000000 in
set_option maxRecDepth 100000 in
theorem fX5_moveDown_c (i : Nat) (a0 : Int32) (a1 : Int32) (M : ml_M) (res : ml_R) (hi : i < 11) {g : ml_G} (hst : g.2.2.2.2.2.stackTraces = false) (h : fX5_moveDown i a0 a1 M = some res) : ml_C yX5_moveDown cX5_moveDown 3 none 1 0 0 g (fun _ _ => none) [ml_rf g (ml_fl i + 1), .int a0, .int a1] M res := by
  refine ml_of [(0, ml_rf g (ml_fl i + 1)), (1, .int a0), (2, .int a1)] hst (by decide) (Nat.le_of_ble_eq_true rfl) rfl (fun E F => ?_)
  unfold fX5_moveDown at h
  refine ml_aload_n (q := 0) F dX5_moveDown_0 rfl rfl ?_
  refine ml_get (v := ml_rf g (ml_fl i + 2)) F (pf1 g hi) rfl iaX5 0 (by decide) lkX5_9 rfl rfl dX5_moveDown_1 ?_
  refine ml_iload_n (q := 1) F dX5_moveDown_4 rfl rfl ?_
  refine ml_dup2 F dX5_moveDown_5 rfl rfl ?_
  refine ml_iald F (pf2 g hi) h dX5_moveDown_6 (fun h => ?_)
  refine ml_iload_n (q := 2) F dX5_moveDown_7 rfl rfl ?_
  refine ml_isub F dX5_moveDown_8 ?_
  refine ml_iast F (pf2 g hi) h dX5_moveDown_9 (fun h => ?_)
  refine ml_ltM h (fun M1 _ h => ?_)
  refine ml_aload_n (q := 0) F dX5_moveDown_10 rfl rfl ?_
  refine ml_get (v := ml_rf g (ml_fl i + 2)) F (pf1 g hi) rfl iaX5 0 (by decide) lkX5_9 rfl rfl dX5_moveDown_11 ?_
  refine ml_iload_n (q := 1) F dX5_moveDown_14 rfl rfl ?_
  refine ml_iconst (v := 1) F dX5_moveDown_15 (by decide) ?_
  refine ml_iadd F dX5_moveDown_16 ?_
  refine ml_dup2 F dX5_moveDown_17 rfl rfl ?_
  refine ml_iald F (pf2 g hi) h dX5_moveDown_18 (fun h => ?_)
  refine ml_iload_n (q := 2) F dX5_moveDown_19 rfl rfl ?_
  refine ml_iadd F dX5_moveDown_20 ?_
  refine ml_iast F (pf2 g hi) h dX5_moveDown_21 (fun h => ?_)
  refine ml_ltM h (fun M2 _ h => ?_)
  exact ml_vret (st := []) F (Option.some.inj h) rfl rfl (by decide) (by decide) dX5_moveDown_22
set_option maxRecDepth 100000 in
def fX5_reaches (i : Nat) (a0 : Int32) (a1 : Int32) (M : ml_M) : Option ml_R :=
  if ml_ok a0 5 then ml_bd (fX6_areaOf a0 M) (fun r1 M2 => ml_jn (fun (y3 : Int32) => if narrow .boolean (.int y3) = .int y3 then some (.inl y3, M2) else none) (fun B4 => (if (M (ml_fl i + 2) a0.toNatClampNeg) < (a1 * r1) then B4 0 else B4 1))) else none
set_option maxHeartbeats 4000000 in
set_option maxRecDepth 100000 in
theorem fX5_reaches_c (i : Nat) (a0 : Int32) (a1 : Int32) (M : ml_M) (res : ml_R) (hi : i < 11) {g : ml_G} (hst : g.2.2.2.2.2.stackTraces = false) (h : fX5_reaches i a0 a1 M = some res) : ml_C yX5_reaches cX5_reaches 3 (some .boolean) 2 0 0 g (fun r _ => some (.int r)) [ml_rf g (ml_fl i + 1), .int a0, .int a1] M res := by
  refine ml_of [(0, ml_rf g (ml_fl i + 1)), (1, .int a0), (2, .int a1)] hst (by decide) (Nat.le_of_ble_eq_true rfl) rfl (fun E F => ?_)
  unfold fX5_reaches at h
  refine ml_aload_n (q := 0) F dX5_reaches_0 rfl rfl ?_
  refine ml_get (v := ml_rf g (ml_fl i + 2)) F (pf1 g hi) rfl iaX5 0 (by decide) lkX5_9 rfl rfl dX5_reaches_1 ?_
  refine ml_iload_n (q := 1) F dX5_reaches_4 rfl rfl ?_
  refine ml_iald F (pf2 g hi) h dX5_reaches_5 (fun h => ?_)
  refine ml_iload_n (q := 2) F dX5_reaches_6 rfl rfl ?_
  refine ml_iload_n (q := 1) F dX5_reaches_7 rfl rfl ?_
  refine ml_callN (av := [.int a0]) F h (fun rs h9 => fX6_areaOf_c a0 M rs hst h9) wcX6_areaOf (idx := 41) (by decide +kernel) wdX6_areaOf (by decide) (by decide) (by decide) rfl stX6_areaOf rfl (Nat.le_of_ble_eq_true rfl) dX5_reaches_8 (fun r1 M2 h => ?_)
  refine ml_imul F dX5_reaches_11 ?_
  refine ml_jnR (P := fun B => ∀ (y3 : Int32), B y3 = some res → ml_J E g 3 (ml_Z E g (fun r _ => some (.int r)) res 0 0) (0 + 0) (0 + 0) 20 [(0, ml_rf g (ml_fl i + 1)), (1, .int a0), (2, .int a1)] (.int y3 :: []) M2) h ?_ (fun jn5 h => ?_)
  · intro y3 h
    dsimp only at h
    obtain ⟨q6, h⟩ := ml_if h
    exact ml_iret (st := []) F (Option.some.inj h) rfl rfl q6 (by decide) (by decide) dX5_reaches_20
  refine ml_icmp_lt (tgt := 19) F dX5_reaches_12 (by decide) h (fun _ h => ?_) (fun _ h => ?_)
  · refine ml_iconst (v := 0) F dX5_reaches_19 (by decide) ?_
    exact ml_sub [0, 1, 2] rfl (jn5 _ h)
  · refine ml_iconst (v := 1) F dX5_reaches_15 (by decide) ?_
    refine ml_goto (tgt := 20) F dX5_reaches_16 (by decide) ?_
    exact ml_sub [0, 1, 2] rfl (jn5 _ h)
set_option maxRecDepth 100000 in
def fX5_roundedLevel (i : Nat) (a0 : Int32) (M : ml_M) : Option ml_R :=
  if ml_ok a0 5 then ml_bd (fX6_areaOf a0 M) (fun r1 M2 => if ¬ (r1 = 0) then some (.inl ((M (ml_fl i + 2) a0.toNatClampNeg) / r1), M2) else none) else none
set_option maxHeartbeats 4000000 in
set_option maxRecDepth 100000 in
theorem fX5_roundedLevel_c (i : Nat) (a0 : Int32) (M : ml_M) (res : ml_R) (hi : i < 11) {g : ml_G} (hst : g.2.2.2.2.2.stackTraces = false) (h : fX5_roundedLevel i a0 M = some res) : ml_C yX5_roundedLevel cX5_roundedLevel 2 (some .int) 2 0 0 g (fun r _ => some (.int r)) [ml_rf g (ml_fl i + 1), .int a0] M res := by
  refine ml_of [(0, ml_rf g (ml_fl i + 1)), (1, .int a0)] hst (by decide) (Nat.le_of_ble_eq_true rfl) rfl (fun E F => ?_)
  unfold fX5_roundedLevel at h
  refine ml_aload_n (q := 0) F dX5_roundedLevel_0 rfl rfl ?_
  refine ml_get (v := ml_rf g (ml_fl i + 2)) F (pf1 g hi) rfl iaX5 0 (by decide) lkX5_9 rfl rfl dX5_roundedLevel_1 ?_
  refine ml_iload_n (q := 1) F dX5_roundedLevel_4 rfl rfl ?_
  refine ml_iald F (pf2 g hi) h dX5_roundedLevel_5 (fun h => ?_)
  refine ml_iload_n (q := 1) F dX5_roundedLevel_6 rfl rfl ?_
  refine ml_callN (av := [.int a0]) F h (fun rs h9 => fX6_areaOf_c a0 M rs hst h9) wcX6_areaOf (idx := 41) (by decide +kernel) wdX6_areaOf (by decide) (by decide) (by decide) rfl stX6_areaOf rfl (Nat.le_of_ble_eq_true rfl) dX5_roundedLevel_7 (fun r1 M2 h => ?_)
  obtain ⟨q3, h⟩ := ml_if h
  refine ml_idiv F dX5_roundedLevel_10 q3 ?_
  exact ml_iret (st := []) F (Option.some.inj h) rfl rfl rfl (by decide) (by decide) dX5_roundedLevel_11
set_option maxRecDepth 100000 in
def fX5_staysBelow (i : Nat) (a0 : Int32) (a1 : Int32) (a2 : Int32) (M : ml_M) : Option ml_R :=
  if ml_ok a1 5 then ml_bd (fX6_areaOf a0 M) (fun r1 M2 => if ml_ok a0 5 then ml_bd (fX6_areaOf a1 M2) (fun r3 M4 => ml_jn (fun (y5 : Int32) => if narrow .boolean (.int y5) = .int y5 then some (.inl y5, M4) else none) (fun B6 => (if (((M2 (ml_fl i + 2) a0.toNatClampNeg) - a2) * r3) < (((M (ml_fl i + 2) a1.toNatClampNeg) + a2) * r1) then B6 0 else B6 1))) else none) else none
set_option maxHeartbeats 4000000 in
set_option maxRecDepth 100000 in
theorem fX5_staysBelow_c (i : Nat) (a0 : Int32) (a1 : Int32) (a2 : Int32) (M : ml_M) (res : ml_R) (hi : i < 11) {g : ml_G} (hst : g.2.2.2.2.2.stackTraces = false) (h : fX5_staysBelow i a0 a1 a2 M = some res) : ml_C yX5_staysBelow cX5_staysBelow 4 (some .boolean) 2 0 0 g (fun r _ => some (.int r)) [ml_rf g (ml_fl i + 1), .int a0, .int a1, .int a2] M res := by
  refine ml_of [(0, ml_rf g (ml_fl i + 1)), (1, .int a0), (2, .int a1), (3, .int a2)] hst (by decide) (Nat.le_of_ble_eq_true rfl) rfl (fun E F => ?_)
  unfold fX5_staysBelow at h
  refine ml_aload_n (q := 0) F dX5_staysBelow_0 rfl rfl ?_
  refine ml_get (v := ml_rf g (ml_fl i + 2)) F (pf1 g hi) rfl iaX5 0 (by decide) lkX5_9 rfl rfl dX5_staysBelow_1 ?_
  refine ml_iload_n (q := 2) F dX5_staysBelow_4 rfl rfl ?_
  refine ml_iald F (pf2 g hi) h dX5_staysBelow_5 (fun h => ?_)
  refine ml_iload_n (q := 3) F dX5_staysBelow_6 rfl rfl ?_
  refine ml_iadd F dX5_staysBelow_7 ?_
  refine ml_iload_n (q := 1) F dX5_staysBelow_8 rfl rfl ?_
  refine ml_callN (av := [.int a0]) F h (fun rs h9 => fX6_areaOf_c a0 M rs hst h9) wcX6_areaOf (idx := 41) (by decide +kernel) wdX6_areaOf (by decide) (by decide) (by decide) rfl stX6_areaOf rfl (Nat.le_of_ble_eq_true rfl) dX5_staysBelow_9 (fun r1 M2 h => ?_)
  refine ml_imul F dX5_staysBelow_12 ?_
  refine ml_aload_n (q := 0) F dX5_staysBelow_13 rfl rfl ?_
  refine ml_get (v := ml_rf g (ml_fl i + 2)) F (pf1 g hi) rfl iaX5 0 (by decide) lkX5_9 rfl rfl dX5_staysBelow_14 ?_
  refine ml_iload_n (q := 1) F dX5_staysBelow_17 rfl rfl ?_
  refine ml_iald F (pf2 g hi) h dX5_staysBelow_18 (fun h => ?_)
  refine ml_iload_n (q := 3) F dX5_staysBelow_19 rfl rfl ?_
  refine ml_isub F dX5_staysBelow_20 ?_
  refine ml_iload_n (q := 2) F dX5_staysBelow_21 rfl rfl ?_
  refine ml_callN (av := [.int a1]) F h (fun rs h9 => fX6_areaOf_c a1 M2 rs hst h9) wcX6_areaOf (idx := 41) (by decide +kernel) wdX6_areaOf (by decide) (by decide) (by decide) rfl stX6_areaOf rfl (Nat.le_of_ble_eq_true rfl) dX5_staysBelow_22 (fun r3 M4 h => ?_)
  refine ml_imul F dX5_staysBelow_25 ?_
  refine ml_jnR (P := fun B => ∀ (y5 : Int32), B y5 = some res → ml_J E g 4 (ml_Z E g (fun r _ => some (.int r)) res 0 0) (0 + 0 + 0) (0 + 0 + 0) 34 [(0, ml_rf g (ml_fl i + 1)), (1, .int a0), (2, .int a1), (3, .int a2)] (.int y5 :: []) M4) h ?_ (fun jn7 h => ?_)
  · intro y5 h
    dsimp only at h
    obtain ⟨q8, h⟩ := ml_if h
    exact ml_iret (st := []) F (Option.some.inj h) rfl rfl q8 (by decide) (by decide) dX5_staysBelow_34
  refine ml_icmp_gt (tgt := 33) F dX5_staysBelow_26 (by decide) h (fun _ h => ?_) (fun _ h => ?_)
  · refine ml_iconst (v := 0) F dX5_staysBelow_33 (by decide) ?_
    exact ml_sub [0, 1, 2, 3] rfl (jn7 _ h)
  · refine ml_iconst (v := 1) F dX5_staysBelow_29 (by decide) ?_
    refine ml_goto (tgt := 34) F dX5_staysBelow_30 (by decide) ?_
    exact ml_sub [0, 1, 2, 3] rfl (jn7 _ h)
set_option maxRecDepth 100000 in
def fX5_amountByLitres_s0 (i : Nat) (a0 : Int32) (rec : Int32 → Int32 → Int32 → Int32 → Int32 → ml_M → Option ml_R) (x1 x2 x3 x4 x5 : Int32) (M : ml_M) : Option ml_R :=
  if ml_ok x3 5 then ml_jn (fun (M1 : ml_M) => some (.inl x5, M1)) (fun B2 => (if (M (ml_fl i + 2) x3.toNatClampNeg) ≤ x5 then B2 M else ml_bd (fX5_staysBelow i x3 x4 (x5 + 1) M) (fun r4 M5 => (if r4 = 0 then B2 M5 else rec x1 x2 x3 x4 (x5 + 1) M5)))) else none
def fX5_amountByLitres_l (i : Nat) (a0 : Int32) : Nat → Int32 → Int32 → Int32 → Int32 → Int32 → ml_M → Option ml_R
  | 0 => fun _ _ _ _ _ _ => none
  | n + 1 => fX5_amountByLitres_s0 i a0 (fX5_amountByLitres_l i a0 n)
set_option maxHeartbeats 4000000 in
set_option maxRecDepth 100000 in
theorem fX5_amountByLitres_w (i : Nat) (a0 : Int32) (hi : i < 11) {E : ml_E} {g : ml_G} {res : ml_R} (F : ml_F E g cX5_amountByLitres yX5_amountByLitres.cls 6 3 0 0 (some .int) []) : ∀ fuel : Nat, ∀ (x1 x2 x3 x4 x5 : Int32) (M : ml_M), fX5_amountByLitres_l i a0 fuel x1 x2 x3 x4 x5 M = some res → ml_J E g 6 (ml_Z E g (fun r _ => some (.int r)) res 0 0) 0 0 45 [(0, ml_rf g (ml_fl i + 1)), (1, .int x1), (2, .int x2), (3, .int x3), (4, .int x4), (5, .int x5)] [] M := by
  have hst := ml_F_st F
  intro fuel
  induction fuel with
  | zero => intro _ _ _ _ _ _ h; exact nomatch (show (none : Option ml_R) = some res from h)
  | succ fuel ih =>
    intro x1 x2 x3 x4 x5 M h
    replace h : fX5_amountByLitres_s0 i a0 (fX5_amountByLitres_l i a0 fuel) x1 x2 x3 x4 x5 M = some res := h
    unfold fX5_amountByLitres_s0 at h
    refine ml_iload (q := 5) F dX5_amountByLitres_45 rfl ?_
    refine ml_aload_n (q := 0) F dX5_amountByLitres_47 rfl rfl ?_
    refine ml_get (v := ml_rf g (ml_fl i + 2)) F (pf1 g hi) rfl iaX5 0 (by decide) lkX5_9 rfl rfl dX5_amountByLitres_48 ?_
    refine ml_iload_n (q := 3) F dX5_amountByLitres_51 rfl rfl ?_
    refine ml_iald F (pf2 g hi) h dX5_amountByLitres_52 (fun h => ?_)
    refine ml_jnR (P := fun B => ∀ (M1 : ml_M), B M1 = some res → ml_J E g 6 (ml_Z E g (fun r _ => some (.int r)) res 0 0) (0) (0) 76 [(0, ml_rf g (ml_fl i + 1)), (1, .int x1), (2, .int x2), (3, .int x3), (4, .int x4), (5, .int x5)] ([]) M1) h ?_ (fun jn3 h => ?_)
    · intro M1 h
      dsimp only at h
      refine ml_iload (q := 5) F dX5_amountByLitres_76 rfl ?_
      exact ml_iret (st := []) F (Option.some.inj h) rfl rfl rfl (by decide) (by decide) dX5_amountByLitres_78
    refine ml_icmp_ge (tgt := 76) F dX5_amountByLitres_53 (by decide) h (fun _ h => ?_) (fun _ h => ?_)
    · exact ml_sub [0, 1, 2, 3, 4, 5] rfl (jn3 _ h)
    · refine ml_aload_n (q := 0) F dX5_amountByLitres_56 rfl rfl ?_
      refine ml_iload_n (q := 3) F dX5_amountByLitres_57 rfl rfl ?_
      refine ml_iload (q := 4) F dX5_amountByLitres_58 rfl ?_
      refine ml_iload (q := 5) F dX5_amountByLitres_60 rfl ?_
      refine ml_iconst (v := 1) F dX5_amountByLitres_62 (by decide) ?_
      refine ml_iadd F dX5_amountByLitres_63 ?_
      refine ml_callV (av := [.int x3, .int x4, .int (x5 + 1)]) (T := TX5) (N := 8) F (pf1 g hi) rfl h (fun rs h9 => fX5_staysBelow_c i x3 x4 (x5 + 1) M rs hi hst h9) wcX5_staysBelow mlX5_54 wdX5_staysBelow (by decide) (by decide) (by decide) rfl seX5_staysBelow imX5_staysBelow rfl (Nat.le_of_ble_eq_true rfl) dX5_amountByLitres_64 (fun r4 M5 h => ?_)
      refine ml_if_eq (tgt := 76) F dX5_amountByLitres_67 (by decide) h (fun _ h => ?_) (fun _ h => ?_)
      · exact ml_sub [0, 1, 2, 3, 4, 5] rfl (jn3 _ h)
      · refine ml_iinc (q := 5) (v := x5 + 1) (ls2 := [(5, .int (x5 + 1)), (0, ml_rf g (ml_fl i + 1)), (1, .int x1), (2, .int x2), (3, .int x3), (4, .int x4)]) F dX5_amountByLitres_70 rfl rfl (by decide) rfl ?_
        refine ml_goto (tgt := 45) F dX5_amountByLitres_73 (by decide) ?_
        exact ml_sub [1, 2, 3, 4, 5, 0] rfl (ih _ _ _ _ _ _ h)
set_option maxRecDepth 100000 in
def fX5_amountByLitres (i : Nat) (a0 : Int32) (M : ml_M) : Option ml_R :=
  ml_bd (fX5_difference i a0 (a0 + 1) M) (fun r1 M2 => ml_jn (fun (y3 : Int32) => ml_jn (fun (y6 : Int32) => ml_jn (fun (y9 : Int32) => fX5_amountByLitres_l i a0 ml_fuel a0 y3 y6 y9 0 M2) (fun B10 => (if y3 = 0 then B10 a0 else B10 (a0 + 1)))) (fun B7 => (if y3 = 0 then B7 (a0 + 1) else B7 a0))) (fun B4 => (if r1 ≤ 0 then B4 0 else B4 1)))
set_option maxHeartbeats 4000000 in
set_option maxRecDepth 100000 in
theorem fX5_amountByLitres_c (i : Nat) (a0 : Int32) (M : ml_M) (res : ml_R) (hi : i < 11) {g : ml_G} (hst : g.2.2.2.2.2.stackTraces = false) (h : fX5_amountByLitres i a0 M = some res) : ml_C yX5_amountByLitres cX5_amountByLitres 6 (some .int) 3 0 0 g (fun r _ => some (.int r)) [ml_rf g (ml_fl i + 1), .int a0] M res := by
  refine ml_of [(0, ml_rf g (ml_fl i + 1)), (1, .int a0)] hst (by decide) (Nat.le_of_ble_eq_true rfl) rfl (fun E F => ?_)
  unfold fX5_amountByLitres at h
  refine ml_aload_n (q := 0) F dX5_amountByLitres_0 rfl rfl ?_
  refine ml_iload_n (q := 1) F dX5_amountByLitres_1 rfl rfl ?_
  refine ml_iload_n (q := 1) F dX5_amountByLitres_2 rfl rfl ?_
  refine ml_iconst (v := 1) F dX5_amountByLitres_3 (by decide) ?_
  refine ml_iadd F dX5_amountByLitres_4 ?_
  refine ml_callV (av := [.int a0, .int (a0 + 1)]) (T := TX5) (N := 8) F (pf1 g hi) rfl h (fun rs h9 => fX5_difference_c i a0 (a0 + 1) M rs hi hst h9) wcX5_difference mlX5_45 wdX5_difference (by decide) (by decide) (by decide) rfl seX5_difference imX5_difference rfl (Nat.le_of_ble_eq_true rfl) dX5_amountByLitres_5 (fun r1 M2 h => ?_)
  refine ml_jnR (P := fun B => ∀ (y3 : Int32), B y3 = some res → ml_J E g 6 (ml_Z E g (fun r _ => some (.int r)) res 0 0) (0 + 0) (0 + 0) 16 [(0, ml_rf g (ml_fl i + 1)), (1, .int a0)] (.int y3 :: []) M2) h ?_ (fun jn5 h => ?_)
  · intro y3 h
    dsimp only at h
    refine ml_istore_n (ls2 := [(2, .int y3), (0, ml_rf g (ml_fl i + 1)), (1, .int a0)]) F dX5_amountByLitres_16 rfl (by decide) rfl ?_
    refine ml_iload_n (q := 0) F dX5_amountByLitres_17 rfl rfl ?_
    refine ml_jnR (P := fun B => ∀ (y6 : Int32), B y6 = some res → ml_J E g 6 (ml_Z E g (fun r _ => some (.int r)) res 0 0) (0 + 0) (0 + 0) 28 [(0, ml_rf g (ml_fl i + 1)), (1, .int a0), (2, .int y3)] (.int y6 :: []) M2) h ?_ (fun jn8 h => ?_)
    · intro y6 h
      dsimp only at h
      refine ml_istore_n (ls2 := [(3, .int y6), (0, ml_rf g (ml_fl i + 1)), (1, .int a0), (2, .int y3)]) F dX5_amountByLitres_28 rfl (by decide) rfl ?_
      refine ml_iload_n (q := 3) F dX5_amountByLitres_29 rfl rfl ?_
      refine ml_jnR (P := fun B => ∀ (y9 : Int32), B y9 = some res → ml_J E g 6 (ml_Z E g (fun r _ => some (.int r)) res 0 0) (0 + 0) (0 + 0) 40 [(0, ml_rf g (ml_fl i + 1)), (1, .int a0), (2, .int y3), (3, .int y6)] (.int y9 :: []) M2) h ?_ (fun jn11 h => ?_)
      · intro y9 h
        dsimp only at h
        refine ml_istore (ls2 := [(4, .int y9), (0, ml_rf g (ml_fl i + 1)), (1, .int a0), (2, .int y3), (3, .int y6)]) F dX5_amountByLitres_40 (by decide) rfl ?_
        refine ml_iconst (v := 0) F dX5_amountByLitres_42 (by decide) ?_
        refine ml_istore (ls2 := [(5, .int 0), (4, .int y9), (0, ml_rf g (ml_fl i + 1)), (1, .int a0), (2, .int y3), (3, .int y6)]) F dX5_amountByLitres_43 (by decide) rfl ?_
        exact ml_sub [2, 3, 4, 5, 1, 0] rfl ((fX5_amountByLitres_w i a0 hi F ml_fuel) _ _ _ _ _ _ h)
      refine ml_if_eq (tgt := 39) F dX5_amountByLitres_30 (by decide) h (fun _ h => ?_) (fun _ h => ?_)
      · refine ml_iload_n (q := 2) F dX5_amountByLitres_39 rfl rfl ?_
        exact ml_sub [1, 2, 3, 0] rfl (jn11 _ h)
      · refine ml_iload_n (q := 2) F dX5_amountByLitres_33 rfl rfl ?_
        refine ml_iconst (v := 1) F dX5_amountByLitres_34 (by decide) ?_
        refine ml_iadd F dX5_amountByLitres_35 ?_
        refine ml_goto (tgt := 40) F dX5_amountByLitres_36 (by decide) ?_
        exact ml_sub [1, 2, 3, 0] rfl (jn11 _ h)
    refine ml_if_eq (tgt := 25) F dX5_amountByLitres_18 (by decide) h (fun _ h => ?_) (fun _ h => ?_)
    · refine ml_iload_n (q := 2) F dX5_amountByLitres_25 rfl rfl ?_
      refine ml_iconst (v := 1) F dX5_amountByLitres_26 (by decide) ?_
      refine ml_iadd F dX5_amountByLitres_27 ?_
      exact ml_sub [1, 2, 0] rfl (jn8 _ h)
    · refine ml_iload_n (q := 2) F dX5_amountByLitres_21 rfl rfl ?_
      refine ml_goto (tgt := 28) F dX5_amountByLitres_22 (by decide) ?_
      exact ml_sub [1, 2, 0] rfl (jn8 _ h)
  refine ml_if_le (tgt := 15) F dX5_amountByLitres_8 (by decide) h (fun _ h => ?_) (fun _ h => ?_)
  · refine ml_iconst (v := 0) F dX5_amountByLitres_15 (by decide) ?_
    exact ml_sub [0, 1] rfl (jn5 _ h)
  · refine ml_iconst (v := 1) F dX5_amountByLitres_11 (by decide) ?_
    refine ml_goto (tgt := 16) F dX5_amountByLitres_12 (by decide) ?_
    exact ml_sub [0, 1] rfl (jn5 _ h)
set_option maxRecDepth 100000 in
def fX5_sumOfVolumes_s0 (i : Nat) (rec : Int32 → Int32 → ml_M → Option ml_R) (x1 x2 : Int32) (M : ml_M) : Option ml_R :=
  (if 5 ≤ x2 then some (.inl x1, M) else if ml_ok x2 5 then ml_lt (x1 + (M (ml_fl i + 2) x2.toNatClampNeg)) (fun v1 => rec v1 (x2 + 1) M) else none)
def fX5_sumOfVolumes_l (i : Nat) : Nat → Int32 → Int32 → ml_M → Option ml_R
  | 0 => fun _ _ _ => none
  | n + 1 => fX5_sumOfVolumes_s0 i (fX5_sumOfVolumes_l i n)
set_option maxHeartbeats 4000000 in
set_option maxRecDepth 100000 in
theorem fX5_sumOfVolumes_w (i : Nat) (hi : i < 11) {E : ml_E} {g : ml_G} {res : ml_R} (F : ml_F E g cX5_sumOfVolumes yX5_sumOfVolumes.cls 3 1 0 0 (some .int) []) : ∀ fuel : Nat, ∀ (x1 x2 : Int32) (M : ml_M), fX5_sumOfVolumes_l i fuel x1 x2 M = some res → ml_J E g 3 (ml_Z E g (fun r _ => some (.int r)) res 0 0) 0 0 4 [(0, ml_rf g (ml_fl i + 1)), (1, .int x1), (2, .int x2)] [] M := by
  have hst := ml_F_st F
  intro fuel
  induction fuel with
  | zero => intro _ _ _ h; exact nomatch (show (none : Option ml_R) = some res from h)
  | succ fuel ih =>
    intro x1 x2 M h
    replace h : fX5_sumOfVolumes_s0 i (fX5_sumOfVolumes_l i fuel) x1 x2 M = some res := h
    unfold fX5_sumOfVolumes_s0 at h
    refine ml_iload_n (q := 2) F dX5_sumOfVolumes_4 rfl rfl ?_
    refine ml_iconst (v := 5) F dX5_sumOfVolumes_5 (by decide) ?_
    refine ml_icmp_ge (tgt := 24) F dX5_sumOfVolumes_6 (by decide) h (fun _ h => ?_) (fun _ h => ?_)
    · refine ml_iload_n (q := 1) F dX5_sumOfVolumes_24 rfl rfl ?_
      exact ml_iret (st := []) F (Option.some.inj h) rfl rfl rfl (by decide) (by decide) dX5_sumOfVolumes_25
    · refine ml_iload_n (q := 1) F dX5_sumOfVolumes_9 rfl rfl ?_
      refine ml_aload_n (q := 0) F dX5_sumOfVolumes_10 rfl rfl ?_
      refine ml_get (v := ml_rf g (ml_fl i + 2)) F (pf1 g hi) rfl iaX5 0 (by decide) lkX5_9 rfl rfl dX5_sumOfVolumes_11 ?_
      refine ml_iload_n (q := 2) F dX5_sumOfVolumes_14 rfl rfl ?_
      refine ml_iald F (pf2 g hi) h dX5_sumOfVolumes_15 (fun h => ?_)
      refine ml_iadd F dX5_sumOfVolumes_16 ?_
      refine ml_ltI h (fun v1 _ h => ?_)
      refine ml_istore_n (ls2 := [(1, .int v1), (0, ml_rf g (ml_fl i + 1)), (2, .int x2)]) F dX5_sumOfVolumes_17 rfl (by decide) rfl ?_
      refine ml_iinc (q := 2) (v := x2 + 1) (ls2 := [(2, .int (x2 + 1)), (1, .int v1), (0, ml_rf g (ml_fl i + 1))]) F dX5_sumOfVolumes_18 rfl rfl (by decide) rfl ?_
      refine ml_goto (tgt := 4) F dX5_sumOfVolumes_21 (by decide) ?_
      exact ml_sub [2, 1, 0] rfl (ih _ _ _ h)
set_option maxRecDepth 100000 in
def fX5_sumOfVolumes (i : Nat) (M : ml_M) : Option ml_R :=
  fX5_sumOfVolumes_l i ml_fuel 0 0 M
set_option maxHeartbeats 4000000 in
set_option maxRecDepth 100000 in
theorem fX5_sumOfVolumes_c (i : Nat) (M : ml_M) (res : ml_R) (hi : i < 11) {g : ml_G} (hst : g.2.2.2.2.2.stackTraces = false) (h : fX5_sumOfVolumes i M = some res) : ml_C yX5_sumOfVolumes cX5_sumOfVolumes 3 (some .int) 1 0 0 g (fun r _ => some (.int r)) [ml_rf g (ml_fl i + 1)] M res := by
  refine ml_of [(0, ml_rf g (ml_fl i + 1))] hst (by decide) (Nat.le_of_ble_eq_true rfl) rfl (fun E F => ?_)
  unfold fX5_sumOfVolumes at h
  refine ml_iconst (v := 0) F dX5_sumOfVolumes_0 (by decide) ?_
  refine ml_istore_n (ls2 := [(1, .int 0), (0, ml_rf g (ml_fl i + 1))]) F dX5_sumOfVolumes_1 rfl (by decide) rfl ?_
  refine ml_iconst (v := 0) F dX5_sumOfVolumes_2 (by decide) ?_
  refine ml_istore_n (ls2 := [(2, .int 0), (1, .int 0), (0, ml_rf g (ml_fl i + 1))]) F dX5_sumOfVolumes_3 rfl (by decide) rfl ?_
  exact ml_sub [2, 1, 0] rfl ((fX5_sumOfVolumes_w i hi F ml_fuel) _ _ _ h)
set_option maxRecDepth 100000 in
def fX5_sumByAccounts_s0 (i : Nat) (rec : Int32 → Int32 → ml_M → Option ml_R) (x1 x2 : Int32) (M : ml_M) : Option ml_R :=
  (if 5 ≤ x2 then some (.inl x1, M) else if ml_ok x2 5 then ml_lt (x1 + (ml_sv x2.toNatClampNeg)) (fun v1 => rec v1 (x2 + 1) M) else none)
def fX5_sumByAccounts_l (i : Nat) : Nat → Int32 → Int32 → ml_M → Option ml_R
  | 0 => fun _ _ _ => none
  | n + 1 => fX5_sumByAccounts_s0 i (fX5_sumByAccounts_l i n)
set_option maxHeartbeats 4000000 in
set_option maxRecDepth 100000 in
theorem fX5_sumByAccounts_w (i : Nat) (hi : i < 11) {E : ml_E} {g : ml_G} {res : ml_R} (F : ml_F E g cX5_sumByAccounts yX5_sumByAccounts.cls 3 1 0 0 (some .int) []) : ∀ fuel : Nat, ∀ (x1 x2 : Int32) (M : ml_M), fX5_sumByAccounts_l i fuel x1 x2 M = some res → ml_J E g 3 (ml_Z E g (fun r _ => some (.int r)) res 0 0) 0 0 17 [(0, ml_rf g (ml_fl i + 1)), (1, .int x1), (2, .int x2)] [] M := by
  have hst := ml_F_st F
  intro fuel
  induction fuel with
  | zero => intro _ _ _ h; exact nomatch (show (none : Option ml_R) = some res from h)
  | succ fuel ih =>
    intro x1 x2 M h
    replace h : fX5_sumByAccounts_s0 i (fX5_sumByAccounts_l i fuel) x1 x2 M = some res := h
    unfold fX5_sumByAccounts_s0 at h
    refine ml_iload_n (q := 2) F dX5_sumByAccounts_17 rfl rfl ?_
    refine ml_iconst (v := 5) F dX5_sumByAccounts_18 (by decide) ?_
    refine ml_icmp_ge (tgt := 36) F dX5_sumByAccounts_19 (by decide) h (fun _ h => ?_) (fun _ h => ?_)
    · refine ml_iload_n (q := 1) F dX5_sumByAccounts_36 rfl rfl ?_
      exact ml_iret (st := []) F (Option.some.inj h) rfl rfl rfl (by decide) (by decide) dX5_sumByAccounts_37
    · refine ml_iload_n (q := 1) F dX5_sumByAccounts_22 rfl rfl ?_
      refine ml_gsvN F (by decide +kernel) dX5_sumByAccounts_23 ?_
      refine ml_iload_n (q := 2) F dX5_sumByAccounts_26 rfl rfl ?_
      refine ml_svld F h dX5_sumByAccounts_27 (fun h => ?_)
      refine ml_iadd F dX5_sumByAccounts_28 ?_
      refine ml_ltI h (fun v1 _ h => ?_)
      refine ml_istore_n (ls2 := [(1, .int v1), (0, ml_rf g (ml_fl i + 1)), (2, .int x2)]) F dX5_sumByAccounts_29 rfl (by decide) rfl ?_
      refine ml_iinc (q := 2) (v := x2 + 1) (ls2 := [(2, .int (x2 + 1)), (1, .int v1), (0, ml_rf g (ml_fl i + 1))]) F dX5_sumByAccounts_30 rfl rfl (by decide) rfl ?_
      refine ml_goto (tgt := 17) F dX5_sumByAccounts_33 (by decide) ?_
      exact ml_sub [2, 1, 0] rfl (ih _ _ _ h)
set_option maxRecDepth 100000 in
def fX5_sumByAccounts (i : Nat) (M : ml_M) : Option ml_R :=
  ml_lt (((M (ml_fl i + 1) 5) - (M (ml_fl i + 1) 6)) - (M (ml_fl i + 1) 7)) (fun v1 => fX5_sumByAccounts_l i ml_fuel v1 0 M)
set_option maxHeartbeats 4000000 in
set_option maxRecDepth 100000 in
theorem fX5_sumByAccounts_c (i : Nat) (M : ml_M) (res : ml_R) (hi : i < 11) {g : ml_G} (hst : g.2.2.2.2.2.stackTraces = false) (h : fX5_sumByAccounts i M = some res) : ml_C yX5_sumByAccounts cX5_sumByAccounts 3 (some .int) 1 0 0 g (fun r _ => some (.int r)) [ml_rf g (ml_fl i + 1)] M res := by
  refine ml_of [(0, ml_rf g (ml_fl i + 1))] hst (by decide) (Nat.le_of_ble_eq_true rfl) rfl (fun E F => ?_)
  unfold fX5_sumByAccounts at h
  refine ml_aload_n (q := 0) F dX5_sumByAccounts_0 rfl rfl ?_
  refine ml_get (v := .int (M (ml_fl i + 1) 5)) F (pf1 g hi) rfl iaX5 5 (by decide) lkX5_29 rfl rfl dX5_sumByAccounts_1 ?_
  refine ml_aload_n (q := 0) F dX5_sumByAccounts_4 rfl rfl ?_
  refine ml_get (v := .int (M (ml_fl i + 1) 6)) F (pf1 g hi) rfl iaX5 6 (by decide) lkX5_32 rfl rfl dX5_sumByAccounts_5 ?_
  refine ml_isub F dX5_sumByAccounts_8 ?_
  refine ml_aload_n (q := 0) F dX5_sumByAccounts_9 rfl rfl ?_
  refine ml_get (v := .int (M (ml_fl i + 1) 7)) F (pf1 g hi) rfl iaX5 7 (by decide) lkX5_35 rfl rfl dX5_sumByAccounts_10 ?_
  refine ml_isub F dX5_sumByAccounts_13 ?_
  refine ml_ltI h (fun v1 _ h => ?_)
  refine ml_istore_n (ls2 := [(1, .int v1), (0, ml_rf g (ml_fl i + 1))]) F dX5_sumByAccounts_14 rfl (by decide) rfl ?_
  refine ml_iconst (v := 0) F dX5_sumByAccounts_15 (by decide) ?_
  refine ml_istore_n (ls2 := [(2, .int 0), (1, .int v1), (0, ml_rf g (ml_fl i + 1))]) F dX5_sumByAccounts_16 rfl (by decide) rfl ?_
  exact ml_sub [2, 1, 0] rfl ((fX5_sumByAccounts_w i hi F ml_fuel) _ _ _ h)
set_option maxRecDepth 100000 in
def fX5_rankOfBasin_s0 (i : Nat) (a0 : Int32) (rec : Int32 → Int32 → Int32 → ml_M → Option ml_R) (x1 x2 x3 : Int32) (M : ml_M) : Option ml_R :=
  (if 5 ≤ x3 then some (.inl x2, M) else ml_bd (fX5_difference i x3 x1 M) (fun r1 M2 => ml_jn (fun (y3 : Int32) => rec x1 y3 (x3 + 1) M2) (fun B4 => (if 0 < r1 then B4 (x2 + 1) else (if r1 = 0 then (if x1 ≤ x3 then B4 x2 else B4 (x2 + 1)) else B4 x2)))))
def fX5_rankOfBasin_l (i : Nat) (a0 : Int32) : Nat → Int32 → Int32 → Int32 → ml_M → Option ml_R
  | 0 => fun _ _ _ _ => none
  | n + 1 => fX5_rankOfBasin_s0 i a0 (fX5_rankOfBasin_l i a0 n)
set_option maxHeartbeats 4000000 in
set_option maxRecDepth 100000 in
theorem fX5_rankOfBasin_w (i : Nat) (a0 : Int32) (hi : i < 11) {E : ml_E} {g : ml_G} {res : ml_R} (F : ml_F E g cX5_rankOfBasin yX5_rankOfBasin.cls 5 3 0 0 (some .int) []) : ∀ fuel : Nat, ∀ (x1 x2 x3 : Int32) (M : ml_M), fX5_rankOfBasin_l i a0 fuel x1 x2 x3 M = some res → ml_J E g 5 (ml_Z E g (fun r _ => some (.int r)) res 0 0) 0 0 4 [(0, ml_rf g (ml_fl i + 1)), (1, .int x1), (2, .int x2), (3, .int x3)] [] M := by
  have hst := ml_F_st F
  intro fuel
  induction fuel with
  | zero => intro _ _ _ _ h; exact nomatch (show (none : Option ml_R) = some res from h)
  | succ fuel ih =>
    intro x1 x2 x3 M h
    replace h : fX5_rankOfBasin_s0 i a0 (fX5_rankOfBasin_l i a0 fuel) x1 x2 x3 M = some res := h
    unfold fX5_rankOfBasin_s0 at h
    refine ml_iload_n (q := 3) F dX5_rankOfBasin_4 rfl rfl ?_
    refine ml_iconst (v := 5) F dX5_rankOfBasin_5 (by decide) ?_
    refine ml_icmp_ge (tgt := 41) F dX5_rankOfBasin_6 (by decide) h (fun _ h => ?_) (fun _ h => ?_)
    · refine ml_iload_n (q := 2) F dX5_rankOfBasin_41 rfl rfl ?_
      exact ml_iret (st := []) F (Option.some.inj h) rfl rfl rfl (by decide) (by decide) dX5_rankOfBasin_42
    · refine ml_aload_n (q := 0) F dX5_rankOfBasin_9 rfl rfl ?_
      refine ml_iload_n (q := 3) F dX5_rankOfBasin_10 rfl rfl ?_
      refine ml_iload_n (q := 1) F dX5_rankOfBasin_11 rfl rfl ?_
      refine ml_callV (av := [.int x3, .int x1]) (T := TX5) (N := 8) F (pf1 g hi) rfl h (fun rs h9 => fX5_difference_c i x3 x1 M rs hi hst h9) wcX5_difference mlX5_45 wdX5_difference (by decide) (by decide) (by decide) rfl seX5_difference imX5_difference rfl (Nat.le_of_ble_eq_true rfl) dX5_rankOfBasin_12 (fun r1 M2 h => ?_)
      refine ml_istore (ls2 := [(4, .int r1), (0, ml_rf g (ml_fl i + 1)), (1, .int x1), (2, .int x2), (3, .int x3)]) F dX5_rankOfBasin_15 (by decide) rfl ?_
      refine ml_iload (q := 0) F dX5_rankOfBasin_17 rfl ?_
      refine ml_jnR (P := fun B => ∀ (y3 : Int32), B y3 = some res → ml_J E g 5 (ml_Z E g (fun r _ => some (.int r)) res 0 0) (0 + 0) (0 + 0) 35 [(0, ml_rf g (ml_fl i + 1)), (1, .int x1), (2, .int y3), (3, .int x3), (4, .int r1)] ([]) M2) h ?_ (fun jn5 h => ?_)
      · intro y3 h
        dsimp only at h
        refine ml_iinc (q := 3) (v := x3 + 1) (ls2 := [(3, .int (x3 + 1)), (0, ml_rf g (ml_fl i + 1)), (1, .int x1), (2, .int y3), (4, .int r1)]) F dX5_rankOfBasin_35 rfl rfl (by decide) rfl ?_
        refine ml_goto (tgt := 4) F dX5_rankOfBasin_38 (by decide) ?_
        exact ml_sub [1, 2, 3, 0] rfl (ih _ _ _ _ h)
      refine ml_if_gt (tgt := 32) F dX5_rankOfBasin_19 (by decide) h (fun _ h => ?_) (fun _ h => ?_)
      · refine ml_iinc (q := 3) (v := x2 + 1) (ls2 := [(2, .int (x2 + 1)), (4, .int r1), (0, ml_rf g (ml_fl i + 1)), (1, .int x1), (3, .int x3)]) F dX5_rankOfBasin_32 rfl rfl (by decide) rfl ?_
        exact ml_sub [2, 3, 0, 4, 1] rfl (jn5 _ h)
      · refine ml_iload (q := 0) F dX5_rankOfBasin_22 rfl ?_
        refine ml_if_ne (tgt := 35) F dX5_rankOfBasin_24 (by decide) h (fun _ h => ?_) (fun _ h => ?_)
        · exact ml_sub [1, 2, 3, 4, 0] rfl (jn5 _ h)
        · refine ml_iload_n (q := 4) F dX5_rankOfBasin_27 rfl rfl ?_
          refine ml_iload_n (q := 2) F dX5_rankOfBasin_28 rfl rfl ?_
          refine ml_icmp_ge (tgt := 35) F dX5_rankOfBasin_29 (by decide) h (fun _ h => ?_) (fun _ h => ?_)
          · exact ml_sub [1, 2, 3, 4, 0] rfl (jn5 _ h)
          · refine ml_iinc (q := 3) (v := x2 + 1) (ls2 := [(2, .int (x2 + 1)), (4, .int r1), (0, ml_rf g (ml_fl i + 1)), (1, .int x1), (3, .int x3)]) F dX5_rankOfBasin_32 rfl rfl (by decide) rfl ?_
            exact ml_sub [2, 3, 0, 4, 1] rfl (jn5 _ h)
set_option maxRecDepth 100000 in
def fX5_rankOfBasin (i : Nat) (a0 : Int32) (M : ml_M) : Option ml_R :=
  fX5_rankOfBasin_l i a0 ml_fuel a0 0 0 M
set_option maxHeartbeats 4000000 in
set_option maxRecDepth 100000 in
theorem fX5_rankOfBasin_c (i : Nat) (a0 : Int32) (M : ml_M) (res : ml_R) (hi : i < 11) {g : ml_G} (hst : g.2.2.2.2.2.stackTraces = false) (h : fX5_rankOfBasin i a0 M = some res) : ml_C yX5_rankOfBasin cX5_rankOfBasin 5 (some .int) 3 0 0 g (fun r _ => some (.int r)) [ml_rf g (ml_fl i + 1), .int a0] M res := by
  refine ml_of [(0, ml_rf g (ml_fl i + 1)), (1, .int a0)] hst (by decide) (Nat.le_of_ble_eq_true rfl) rfl (fun E F => ?_)
  unfold fX5_rankOfBasin at h
  refine ml_iconst (v := 0) F dX5_rankOfBasin_0 (by decide) ?_
  refine ml_istore_n (ls2 := [(2, .int 0), (0, ml_rf g (ml_fl i + 1)), (1, .int a0)]) F dX5_rankOfBasin_1 rfl (by decide) rfl ?_
  refine ml_iconst (v := 0) F dX5_rankOfBasin_2 (by decide) ?_
  refine ml_istore_n (ls2 := [(3, .int 0), (2, .int 0), (0, ml_rf g (ml_fl i + 1)), (1, .int a0)]) F dX5_rankOfBasin_3 rfl (by decide) rfl ?_
  exact ml_sub [2, 3, 1, 0] rfl ((fX5_rankOfBasin_w i a0 hi F ml_fuel) _ _ _ _ h)
set_option maxRecDepth 100000 in
def fX5_amountsAgree_s0 (i : Nat) (rec : Int32 → ml_M → Option ml_R) (x1 : Int32) (M : ml_M) : Option ml_R :=
  (if 4 ≤ x1 then some (.inl 1, M) else ml_bd (fX5_amountByDivision i x1 M) (fun r1 M2 => ml_bd (fX5_amountByLitres i x1 M2) (fun r3 M4 => (if r1 = r3 then rec (x1 + 1) M4 else some (.inl 0, M4)))))
def fX5_amountsAgree_l (i : Nat) : Nat → Int32 → ml_M → Option ml_R
  | 0 => fun _ _ => none
  | n + 1 => fX5_amountsAgree_s0 i (fX5_amountsAgree_l i n)
set_option maxHeartbeats 4000000 in
set_option maxRecDepth 100000 in
theorem fX5_amountsAgree_w (i : Nat) (hi : i < 11) {E : ml_E} {g : ml_G} {res : ml_R} (F : ml_F E g cX5_amountsAgree yX5_amountsAgree.cls 2 4 0 0 (some .boolean) []) : ∀ fuel : Nat, ∀ (x1 : Int32) (M : ml_M), fX5_amountsAgree_l i fuel x1 M = some res → ml_J E g 2 (ml_Z E g (fun r _ => some (.int r)) res 0 0) 0 0 2 [(0, ml_rf g (ml_fl i + 1)), (1, .int x1)] [] M := by
  have hst := ml_F_st F
  intro fuel
  induction fuel with
  | zero => intro _ _ h; exact nomatch (show (none : Option ml_R) = some res from h)
  | succ fuel ih =>
    intro x1 M h
    replace h : fX5_amountsAgree_s0 i (fX5_amountsAgree_l i fuel) x1 M = some res := h
    unfold fX5_amountsAgree_s0 at h
    refine ml_iload_n (q := 1) F dX5_amountsAgree_2 rfl rfl ?_
    refine ml_iconst (v := 4) F dX5_amountsAgree_3 (by decide) ?_
    refine ml_icmp_ge (tgt := 28) F dX5_amountsAgree_4 (by decide) h (fun _ h => ?_) (fun _ h => ?_)
    · refine ml_iconst (v := 1) F dX5_amountsAgree_28 (by decide) ?_
      exact ml_iret (st := []) F (Option.some.inj h) rfl rfl (by decide) (by decide) (by decide) dX5_amountsAgree_29
    · refine ml_aload_n (q := 0) F dX5_amountsAgree_7 rfl rfl ?_
      refine ml_iload_n (q := 1) F dX5_amountsAgree_8 rfl rfl ?_
      refine ml_callV (av := [.int x1]) (T := TX5) (N := 8) F (pf1 g hi) rfl h (fun rs h9 => fX5_amountByDivision_c i x1 M rs hi hst h9) wcX5_amountByDivision mlX5_58 wdX5_amountByDivision (by decide) (by decide) (by decide) rfl seX5_amountByDivision imX5_amountByDivision rfl (Nat.le_of_ble_eq_true rfl) dX5_amountsAgree_9 (fun r1 M2 h => ?_)
      refine ml_aload_n (q := 0) F dX5_amountsAgree_12 rfl rfl ?_
      refine ml_iload_n (q := 1) F dX5_amountsAgree_13 rfl rfl ?_
      refine ml_callV (av := [.int x1]) (T := TX5) (N := 8) F (pf1 g hi) rfl h (fun rs h9 => fX5_amountByLitres_c i x1 M2 rs hi hst h9) wcX5_amountByLitres mlX5_64 wdX5_amountByLitres (by decide) (by decide) (by decide) rfl seX5_amountByLitres imX5_amountByLitres rfl (Nat.le_of_ble_eq_true rfl) dX5_amountsAgree_14 (fun r3 M4 h => ?_)
      refine ml_icmp_eq (tgt := 22) F dX5_amountsAgree_17 (by decide) h (fun _ h => ?_) (fun _ h => ?_)
      · refine ml_iinc (q := 1) (v := x1 + 1) (ls2 := [(1, .int (x1 + 1)), (0, ml_rf g (ml_fl i + 1))]) F dX5_amountsAgree_22 rfl rfl (by decide) rfl ?_
        refine ml_goto (tgt := 2) F dX5_amountsAgree_25 (by decide) ?_
        exact ml_sub [1, 0] rfl (ih _ _ h)
      · refine ml_iconst (v := 0) F dX5_amountsAgree_20 (by decide) ?_
        exact ml_iret (st := []) F (Option.some.inj h) rfl rfl (by decide) (by decide) (by decide) dX5_amountsAgree_21
set_option maxRecDepth 100000 in
def fX5_amountsAgree (i : Nat) (M : ml_M) : Option ml_R :=
  fX5_amountsAgree_l i ml_fuel 0 M
set_option maxHeartbeats 4000000 in
set_option maxRecDepth 100000 in
theorem fX5_amountsAgree_c (i : Nat) (M : ml_M) (res : ml_R) (hi : i < 11) {g : ml_G} (hst : g.2.2.2.2.2.stackTraces = false) (h : fX5_amountsAgree i M = some res) : ml_C yX5_amountsAgree cX5_amountsAgree 2 (some .boolean) 4 0 0 g (fun r _ => some (.int r)) [ml_rf g (ml_fl i + 1)] M res := by
  refine ml_of [(0, ml_rf g (ml_fl i + 1))] hst (by decide) (Nat.le_of_ble_eq_true rfl) rfl (fun E F => ?_)
  unfold fX5_amountsAgree at h
  refine ml_iconst (v := 0) F dX5_amountsAgree_0 (by decide) ?_
  refine ml_istore_n (ls2 := [(1, .int 0), (0, ml_rf g (ml_fl i + 1))]) F dX5_amountsAgree_1 rfl (by decide) rfl ?_
  exact ml_sub [1, 0] rfl ((fX5_amountsAgree_w i hi F ml_fuel) _ _ h)
set_option maxRecDepth 100000 in
def fX5_isWithinLimits_s0 (i : Nat) (rec : Int32 → ml_M → Option ml_R) (x1 : Int32) (M : ml_M) : Option ml_R :=
  (if 5 ≤ x1 then some (.inl 1, M) else if ml_ok x1 5 then ml_bd (fX6_areaOf x1 M) (fun r1 M2 => (if (M (ml_fl i + 2) x1.toNatClampNeg) ≤ (40 * r1) then rec (x1 + 1) M2 else some (.inl 0, M2))) else none)
def fX5_isWithinLimits_l (i : Nat) : Nat → Int32 → ml_M → Option ml_R
  | 0 => fun _ _ => none
  | n + 1 => fX5_isWithinLimits_s0 i (fX5_isWithinLimits_l i n)
set_option maxHeartbeats 4000000 in
set_option maxRecDepth 100000 in
theorem fX5_isWithinLimits_w (i : Nat) (hi : i < 11) {E : ml_E} {g : ml_G} {res : ml_R} (F : ml_F E g cX5_isWithinLimits yX5_isWithinLimits.cls 2 2 0 0 (some .boolean) []) : ∀ fuel : Nat, ∀ (x1 : Int32) (M : ml_M), fX5_isWithinLimits_l i fuel x1 M = some res → ml_J E g 2 (ml_Z E g (fun r _ => some (.int r)) res 0 0) 0 0 2 [(0, ml_rf g (ml_fl i + 1)), (1, .int x1)] [] M := by
  have hst := ml_F_st F
  intro fuel
  induction fuel with
  | zero => intro _ _ h; exact nomatch (show (none : Option ml_R) = some res from h)
  | succ fuel ih =>
    intro x1 M h
    replace h : fX5_isWithinLimits_s0 i (fX5_isWithinLimits_l i fuel) x1 M = some res := h
    unfold fX5_isWithinLimits_s0 at h
    refine ml_iload_n (q := 1) F dX5_isWithinLimits_2 rfl rfl ?_
    refine ml_iconst (v := 5) F dX5_isWithinLimits_3 (by decide) ?_
    refine ml_icmp_ge (tgt := 31) F dX5_isWithinLimits_4 (by decide) h (fun _ h => ?_) (fun _ h => ?_)
    · refine ml_iconst (v := 1) F dX5_isWithinLimits_31 (by decide) ?_
      exact ml_iret (st := []) F (Option.some.inj h) rfl rfl (by decide) (by decide) (by decide) dX5_isWithinLimits_32
    · refine ml_aload_n (q := 0) F dX5_isWithinLimits_7 rfl rfl ?_
      refine ml_get (v := ml_rf g (ml_fl i + 2)) F (pf1 g hi) rfl iaX5 0 (by decide) lkX5_9 rfl rfl dX5_isWithinLimits_8 ?_
      refine ml_iload_n (q := 1) F dX5_isWithinLimits_11 rfl rfl ?_
      refine ml_iald F (pf2 g hi) h dX5_isWithinLimits_12 (fun h => ?_)
      refine ml_bipush (v := 40) F dX5_isWithinLimits_13 (by decide) ?_
      refine ml_iload_n (q := 1) F dX5_isWithinLimits_15 rfl rfl ?_
      refine ml_callN (av := [.int x1]) F h (fun rs h9 => fX6_areaOf_c x1 M rs hst h9) wcX6_areaOf (idx := 41) (by decide +kernel) wdX6_areaOf (by decide) (by decide) (by decide) rfl stX6_areaOf rfl (Nat.le_of_ble_eq_true rfl) dX5_isWithinLimits_16 (fun r1 M2 h => ?_)
      refine ml_imul F dX5_isWithinLimits_19 ?_
      refine ml_icmp_le (tgt := 25) F dX5_isWithinLimits_20 (by decide) h (fun _ h => ?_) (fun _ h => ?_)
      · refine ml_iinc (q := 1) (v := x1 + 1) (ls2 := [(1, .int (x1 + 1)), (0, ml_rf g (ml_fl i + 1))]) F dX5_isWithinLimits_25 rfl rfl (by decide) rfl ?_
        refine ml_goto (tgt := 2) F dX5_isWithinLimits_28 (by decide) ?_
        exact ml_sub [1, 0] rfl (ih _ _ h)
      · refine ml_iconst (v := 0) F dX5_isWithinLimits_23 (by decide) ?_
        exact ml_iret (st := []) F (Option.some.inj h) rfl rfl (by decide) (by decide) (by decide) dX5_isWithinLimits_24
set_option maxRecDepth 100000 in
def fX5_isWithinLimits (i : Nat) (M : ml_M) : Option ml_R :=
  fX5_isWithinLimits_l i ml_fuel 0 M
set_option maxHeartbeats 4000000 in
set_option maxRecDepth 100000 in
theorem fX5_isWithinLimits_c (i : Nat) (M : ml_M) (res : ml_R) (hi : i < 11) {g : ml_G} (hst : g.2.2.2.2.2.stackTraces = false) (h : fX5_isWithinLimits i M = some res) : ml_C yX5_isWithinLimits cX5_isWithinLimits 2 (some .boolean) 2 0 0 g (fun r _ => some (.int r)) [ml_rf g (ml_fl i + 1)] M res := by
  refine ml_of [(0, ml_rf g (ml_fl i + 1))] hst (by decide) (Nat.le_of_ble_eq_true rfl) rfl (fun E F => ?_)
  unfold fX5_isWithinLimits at h
  refine ml_iconst (v := 0) F dX5_isWithinLimits_0 (by decide) ?_
  refine ml_istore_n (ls2 := [(1, .int 0), (0, ml_rf g (ml_fl i + 1))]) F dX5_isWithinLimits_1 rfl (by decide) rfl ?_
  exact ml_sub [1, 0] rfl ((fX5_isWithinLimits_w i hi F ml_fuel) _ _ h)
