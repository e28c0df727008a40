set_option maxRecDepth 100000 in
def fX6_colourNumber_s0 (a0 : Int32) (rec : Int32 → Int32 → ml_M → Option ml_R) (x0 x1 : Int32) (M : ml_M) : Option ml_R :=
  (if 3 ≤ x1 then some (.inl (-1), M) else if ml_ok x1 3 then (if (ml_cs x1.toNatClampNeg) = x0 then some (.inl x1, M) else rec x0 (x1 + 1) M) else none)
def fX6_colourNumber_l (a0 : Int32) : Nat → Int32 → Int32 → ml_M → Option ml_R
  | 0 => fun _ _ _ => none
  | n + 1 => fX6_colourNumber_s0 a0 (fX6_colourNumber_l a0 n)
set_option maxHeartbeats 4000000 in
set_option maxRecDepth 100000 in
theorem fX6_colourNumber_w (a0 : Int32) {E : ml_E} {g : ml_G} {res : ml_R} (F : ml_F E g cX6_colourNumber yX6_colourNumber.cls 2 1 0 0 (some .int) []) : ∀ fuel : Nat, ∀ (x0 x1 : Int32) (M : ml_M), fX6_colourNumber_l a0 fuel x0 x1 M = some res → ml_J E g 2 (ml_Z E g (fun r _ => some (.int r)) res 0 0) 0 0 2 [(0, .int x0), (1, .int x1)] [] M := by
  have hst := ml_F_st F
  intro fuel
  induction fuel with
  | zero => intro _ _ _ h; exact nomatch (show (none : Option ml_R) = some res from h)
  | succ fuel ih =>
    intro x0 x1 M h
    replace h : fX6_colourNumber_s0 a0 (fX6_colourNumber_l a0 fuel) x0 x1 M = some res := h
    unfold fX6_colourNumber_s0 at h
    refine ml_iload_n (q := 1) F dX6_colourNumber_2 rfl rfl ?_
    refine ml_iconst (v := 3) F dX6_colourNumber_3 (by decide) ?_
    refine ml_icmp_ge (tgt := 24) F dX6_colourNumber_4 (by decide) h (fun _ h => ?_) (fun _ h => ?_)
    · refine ml_iconst (v := (-1)) F dX6_colourNumber_24 (by decide) ?_
      exact ml_iret (st := []) F (Option.some.inj h) rfl rfl rfl (by decide) (by decide) dX6_colourNumber_25
    · refine ml_gcs F lkX6_335 dX6_colourNumber_7 ?_
      refine ml_iload_n (q := 1) F dX6_colourNumber_10 rfl rfl ?_
      refine ml_csld F h dX6_colourNumber_11 (fun h => ?_)
      refine ml_iload_n (q := 0) F dX6_colourNumber_12 rfl rfl ?_
      refine ml_icmp_ne (tgt := 18) F dX6_colourNumber_13 (by decide) h (fun _ h => ?_) (fun _ h => ?_)
      · refine ml_iinc (q := 1) (v := x1 + 1) (ls2 := [(1, .int (x1 + 1)), (0, .int x0)]) F dX6_colourNumber_18 rfl rfl (by decide) rfl ?_
        refine ml_goto (tgt := 2) F dX6_colourNumber_21 (by decide) ?_
        exact ml_sub [1, 0] rfl (ih _ _ _ h)
      · refine ml_iload_n (q := 1) F dX6_colourNumber_16 rfl rfl ?_
        exact ml_iret (st := []) F (Option.some.inj h) rfl rfl rfl (by decide) (by decide) dX6_colourNumber_17
set_option maxRecDepth 100000 in
def fX6_colourNumber (a0 : Int32) (M : ml_M) : Option ml_R :=
  fX6_colourNumber_l a0 ml_fuel a0 0 M
set_option maxHeartbeats 4000000 in
set_option maxRecDepth 100000 in
theorem fX6_colourNumber_c (a0 : Int32) (M : ml_M) (res : ml_R) {g : ml_G} (hst : g.2.2.2.2.2.stackTraces = false) (h : fX6_colourNumber a0 M = some res) : ml_C yX6_colourNumber cX6_colourNumber 2 (some .int) 1 0 0 g (fun r _ => some (.int r)) [.int a0] M res := by
  refine ml_of [(0, .int a0)] hst (by decide) (Nat.le_of_ble_eq_true rfl) rfl (fun E F => ?_)
  unfold fX6_colourNumber at h
  refine ml_iconst (v := 0) F dX6_colourNumber_0 (by decide) ?_
  refine ml_istore_n (ls2 := [(1, .int 0), (0, .int a0)]) F dX6_colourNumber_1 rfl (by decide) rfl ?_
  exact ml_sub [1, 0] rfl ((fX6_colourNumber_w a0 F ml_fuel) _ _ _ h)
set_option maxRecDepth 100000 in
def fX2_faultOfBoat (i : Nat) (a0 : Int32) (a1 : Int32) (M : ml_M) : Option ml_R :=
  ml_bd (fX6_colourNumber a0 M) (fun r1 M2 => (if r1 = (-1) then some (.inl 2, M2) else (if a1 < 1 then some (.inl 2, M2) else (if a1 ≤ 9 then ml_jn (fun (y3 : Int32) => some (.inl y3, M2)) (fun B4 => (if (M2 (ml_fl i + 5) 0) < 8 then B4 0 else B4 3)) else some (.inl 2, M2)))))
set_option maxHeartbeats 4000000 in
set_option maxRecDepth 100000 in
theorem fX2_faultOfBoat_c (i : Nat) (a0 : Int32) (a1 : Int32) (M : ml_M) (res : ml_R) (hi : i < 11) {g : ml_G} (hst : g.2.2.2.2.2.stackTraces = false) (h : fX2_faultOfBoat i a0 a1 M = some res) : ml_C yX2_faultOfBoat cX2_faultOfBoat 3 (some .int) 2 0 0 g (fun r _ => some (.int r)) [ml_rf g (ml_fl i), .int a0, .int a1] M res := by
  refine ml_of [(0, ml_rf g (ml_fl i)), (1, .int a0), (2, .int a1)] hst (by decide) (Nat.le_of_ble_eq_true rfl) rfl (fun E F => ?_)
  unfold fX2_faultOfBoat at h
  refine ml_iload_n (q := 1) F dX2_faultOfBoat_0 rfl rfl ?_
  refine ml_callN (av := [.int a0]) F h (fun rs h9 => fX6_colourNumber_c a0 M rs hst h9) wcX6_colourNumber (idx := 62) (by decide +kernel) wdX6_colourNumber (by decide) (by decide) (by decide) rfl stX6_colourNumber rfl (Nat.le_of_ble_eq_true rfl) dX2_faultOfBoat_1 (fun r1 M2 h => ?_)
  refine ml_iconst (v := (-1)) F dX2_faultOfBoat_4 (by decide) ?_
  refine ml_icmp_eq (tgt := 19) F dX2_faultOfBoat_5 (by decide) h (fun _ h => ?_) (fun _ h => ?_)
  · refine ml_iconst (v := 2) F dX2_faultOfBoat_19 (by decide) ?_
    exact ml_iret (st := []) F (Option.some.inj h) rfl rfl rfl (by decide) (by decide) dX2_faultOfBoat_20
  · refine ml_iload_n (q := 2) F dX2_faultOfBoat_8 rfl rfl ?_
    refine ml_iconst (v := 1) F dX2_faultOfBoat_9 (by decide) ?_
    refine ml_icmp_lt (tgt := 19) F dX2_faultOfBoat_10 (by decide) h (fun _ h => ?_) (fun _ h => ?_)
    · refine ml_iconst (v := 2) F dX2_faultOfBoat_19 (by decide) ?_
      exact ml_iret (st := []) F (Option.some.inj h) rfl rfl rfl (by decide) (by decide) dX2_faultOfBoat_20
    · refine ml_iload_n (q := 2) F dX2_faultOfBoat_13 rfl rfl ?_
      refine ml_bipush (v := 9) F dX2_faultOfBoat_14 (by decide) ?_
      refine ml_icmp_le (tgt := 21) F dX2_faultOfBoat_16 (by decide) h (fun _ h => ?_) (fun _ h => ?_)
      · refine ml_aload_n (q := 0) F dX2_faultOfBoat_21 rfl rfl ?_
        refine ml_get (v := ml_rf g (ml_fl i + 5)) F (pf0 g hi) rfl iaX2 1 (by decide) lkX2_21 rfl rfl dX2_faultOfBoat_22 ?_
        refine ml_get (v := .int (M2 (ml_fl i + 5) 0)) F (pf5 g hi) rfl iaX1 0 (by decide) lkX2_65 rfl rfl dX2_faultOfBoat_25 ?_
        refine ml_bipush (v := 8) F dX2_faultOfBoat_28 (by decide) ?_
        refine ml_jnR (P := fun B => ∀ (y3 : Int32), B y3 = some res → ml_J E g 3 (ml_Z E g (fun r _ => some (.int r)) res 0 0) (0 + 0) (0 + 0) 38 [(0, ml_rf g (ml_fl i)), (1, .int a0), (2, .int a1)] (.int y3 :: []) M2) h ?_ (fun jn5 h => ?_)
        · intro y3 h
          dsimp only at h
          exact ml_iret (st := []) F (Option.some.inj h) rfl rfl rfl (by decide) (by decide) dX2_faultOfBoat_38
        refine ml_icmp_lt (tgt := 37) F dX2_faultOfBoat_30 (by decide) h (fun _ h => ?_) (fun _ h => ?_)
        · refine ml_iconst (v := 0) F dX2_faultOfBoat_37 (by decide) ?_
          exact ml_sub [0, 1, 2] rfl (jn5 _ h)
        · refine ml_iconst (v := 3) F dX2_faultOfBoat_33 (by decide) ?_
          refine ml_goto (tgt := 38) F dX2_faultOfBoat_34 (by decide) ?_
          exact ml_sub [0, 1, 2] rfl (jn5 _ h)
      · refine ml_iconst (v := 2) F dX2_faultOfBoat_19 (by decide) ?_
        exact ml_iret (st := []) F (Option.some.inj h) rfl rfl rfl (by decide) (by decide) dX2_faultOfBoat_20
set_option maxRecDepth 100000 in
def fX6_isGate (a0 : Int32) (M : ml_M) : Option ml_R :=
  ml_jn (fun (y1 : Int32) => if narrow .boolean (.int y1) = .int y1 then some (.inl y1, M) else none) (fun B2 => (if a0 < 0 then B2 0 else (if 4 ≤ a0 then B2 0 else B2 1)))
set_option maxHeartbeats 4000000 in
set_option maxRecDepth 100000 in
theorem fX6_isGate_c (a0 : Int32) (M : ml_M) (res : ml_R) {g : ml_G} (hst : g.2.2.2.2.2.stackTraces = false) (h : fX6_isGate a0 M = some res) : ml_C yX6_isGate cX6_isGate 1 (some .boolean) 1 0 0 g (fun r _ => some (.int r)) [.int a0] M res := by
  refine ml_of [(0, .int a0)] hst (by decide) (Nat.le_of_ble_eq_true rfl) rfl (fun E F => ?_)
  unfold fX6_isGate at h
  refine ml_iload_n (q := 0) F dX6_isGate_0 rfl rfl ?_
  refine ml_jnR (P := fun B => ∀ (y1 : Int32), B y1 = some res → ml_J E g 1 (ml_Z E g (fun r _ => some (.int r)) res 0 0) (0) (0) 14 [(0, .int a0)] (.int y1 :: []) M) h ?_ (fun jn3 h => ?_)
  · intro y1 h
    dsimp only at h
    obtain ⟨q4, h⟩ := ml_if h
    exact ml_iret (st := []) F (Option.some.inj h) rfl rfl q4 (by decide) (by decide) dX6_isGate_14
  refine ml_if_lt (tgt := 13) F dX6_isGate_1 (by decide) h (fun _ h => ?_) (fun _ h => ?_)
  · refine ml_iconst (v := 0) F dX6_isGate_13 (by decide) ?_
    exact ml_sub [0] rfl (jn3 _ h)
  · refine ml_iload_n (q := 0) F dX6_isGate_4 rfl rfl ?_
    refine ml_iconst (v := 4) F dX6_isGate_5 (by decide) ?_
    refine ml_icmp_ge (tgt := 13) F dX6_isGate_6 (by decide) h (fun _ h => ?_) (fun _ h => ?_)
    · refine ml_iconst (v := 0) F dX6_isGate_13 (by decide) ?_
      exact ml_sub [0] rfl (jn3 _ h)
    · refine ml_iconst (v := 1) F dX6_isGate_9 (by decide) ?_
      refine ml_goto (tgt := 14) F dX6_isGate_10 (by decide) ?_
      exact ml_sub [0] rfl (jn3 _ h)
set_option maxRecDepth 100000 in
def fX2_faultOfValve (i : Nat) (a0 : Int32) (a1 : Int32) (M : ml_M) : Option ml_R :=
  ml_bd (fX6_isGate a0 M) (fun r1 M2 => (if r1 = 0 then some (.inl 1, M2) else ml_jn (fun (y3 : Int32) => some (.inl y3, M2)) (fun B4 => (if a1 < 0 then B4 2 else (if a1 ≤ 3 then B4 0 else B4 2)))))
set_option maxHeartbeats 4000000 in
set_option maxRecDepth 100000 in
theorem fX2_faultOfValve_c (i : Nat) (a0 : Int32) (a1 : Int32) (M : ml_M) (res : ml_R) (hi : i < 11) {g : ml_G} (hst : g.2.2.2.2.2.stackTraces = false) (h : fX2_faultOfValve i a0 a1 M = some res) : ml_C yX2_faultOfValve cX2_faultOfValve 3 (some .int) 2 0 0 g (fun r _ => some (.int r)) [ml_rf g (ml_fl i), .int a0, .int a1] M res := by
  refine ml_of [(0, ml_rf g (ml_fl i)), (1, .int a0), (2, .int a1)] hst (by decide) (Nat.le_of_ble_eq_true rfl) rfl (fun E F => ?_)
  unfold fX2_faultOfValve at h
  refine ml_iload_n (q := 1) F dX2_faultOfValve_0 rfl rfl ?_
  refine ml_callN (av := [.int a0]) F h (fun rs h9 => fX6_isGate_c a0 M rs hst h9) wcX6_isGate (idx := 68) (by decide +kernel) wdX6_isGate (by decide) (by decide) (by decide) rfl stX6_isGate rfl (Nat.le_of_ble_eq_true rfl) dX2_faultOfValve_1 (fun r1 M2 h => ?_)
  refine ml_if_ne (tgt := 9) F dX2_faultOfValve_4 (by decide) h (fun _ h => ?_) (fun _ h => ?_)
  · refine ml_iload_n (q := 2) F dX2_faultOfValve_9 rfl rfl ?_
    refine ml_jnR (P := fun B => ∀ (y3 : Int32), B y3 = some res → ml_J E g 3 (ml_Z E g (fun r _ => some (.int r)) res 0 0) (0 + 0) (0 + 0) 23 [(0, ml_rf g (ml_fl i)), (1, .int a0), (2, .int a1)] (.int y3 :: []) M2) h ?_ (fun jn5 h => ?_)
    · intro y3 h
      dsimp only at h
      exact ml_iret (st := []) F (Option.some.inj h) rfl rfl rfl (by decide) (by decide) dX2_faultOfValve_23
    refine ml_if_lt (tgt := 18) F dX2_faultOfValve_10 (by decide) h (fun _ h => ?_) (fun _ h => ?_)
    · refine ml_iconst (v := 2) F dX2_faultOfValve_18 (by decide) ?_
      refine ml_goto (tgt := 23) F dX2_faultOfValve_19 (by decide) ?_
      exact ml_sub [0, 1, 2] rfl (jn5 _ h)
    · refine ml_iload_n (q := 2) F dX2_faultOfValve_13 rfl rfl ?_
      refine ml_iconst (v := 3) F dX2_faultOfValve_14 (by decide) ?_
      refine ml_icmp_le (tgt := 22) F dX2_faultOfValve_15 (by decide) h (fun _ h => ?_) (fun _ h => ?_)
      · refine ml_iconst (v := 0) F dX2_faultOfValve_22 (by decide) ?_
        exact ml_sub [0, 1, 2] rfl (jn5 _ h)
      · refine ml_iconst (v := 2) F dX2_faultOfValve_18 (by decide) ?_
        refine ml_goto (tgt := 23) F dX2_faultOfValve_19 (by decide) ?_
        exact ml_sub [0, 1, 2] rfl (jn5 _ h)
  · refine ml_iconst (v := 1) F dX2_faultOfValve_7 (by decide) ?_
    exact ml_iret (st := []) F (Option.some.inj h) rfl rfl rfl (by decide) (by decide) dX2_faultOfValve_8
set_option maxRecDepth 100000 in
def fX2_faultOfOpening (i : Nat) (a0 : Int32) (M : ml_M) : Option ml_R :=
  ml_bd (fX6_isGate a0 M) (fun r1 M2 => (if r1 = 0 then some (.inl 1, M2) else if ml_ok a0 4 then (if (M2 (ml_fl i + 4) a0.toNatClampNeg) = 0 then ml_bd (fX5_amountByDivision i a0 M2) (fun r3 M4 => ml_jn (fun (y5 : Int32) => some (.inl y5, M4)) (fun B6 => (if r3 = 0 then B6 0 else B6 4))) else some (.inl 3, M2)) else none))
set_option maxHeartbeats 4000000 in
set_option maxRecDepth 100000 in
theorem fX2_faultOfOpening_c (i : Nat) (a0 : Int32) (M : ml_M) (res : ml_R) (hi : i < 11) {g : ml_G} (hst : g.2.2.2.2.2.stackTraces = false) (h : fX2_faultOfOpening i a0 M = some res) : ml_C yX2_faultOfOpening cX2_faultOfOpening 2 (some .int) 4 0 0 g (fun r _ => some (.int r)) [ml_rf g (ml_fl i), .int a0] M res := by
  refine ml_of [(0, ml_rf g (ml_fl i)), (1, .int a0)] hst (by decide) (Nat.le_of_ble_eq_true rfl) rfl (fun E F => ?_)
  unfold fX2_faultOfOpening at h
  refine ml_iload_n (q := 1) F dX2_faultOfOpening_0 rfl rfl ?_
  refine ml_callN (av := [.int a0]) F h (fun rs h9 => fX6_isGate_c a0 M rs hst h9) wcX6_isGate (idx := 68) (by decide +kernel) wdX6_isGate (by decide) (by decide) (by decide) rfl stX6_isGate rfl (Nat.le_of_ble_eq_true rfl) dX2_faultOfOpening_1 (fun r1 M2 h => ?_)
  refine ml_if_ne (tgt := 9) F dX2_faultOfOpening_4 (by decide) h (fun _ h => ?_) (fun _ h => ?_)
  · refine ml_aload_n (q := 0) F dX2_faultOfOpening_9 rfl rfl ?_
    refine ml_get (v := ml_rf g (ml_fl i + 1)) F (pf0 g hi) rfl iaX2 0 (by decide) lkX2_12 rfl rfl dX2_faultOfOpening_10 ?_
    refine ml_get (v := ml_rf g (ml_fl i + 4)) F (pf1 g hi) rfl iaX5 2 (by decide) lkX2_72 rfl rfl dX2_faultOfOpening_13 ?_
    refine ml_iload_n (q := 1) F dX2_faultOfOpening_16 rfl rfl ?_
    refine ml_zald F (pf4 g hi) h dX2_faultOfOpening_17 (fun h => ?_)
    refine ml_if_eq (tgt := 23) F dX2_faultOfOpening_18 (by decide) h (fun _ h => ?_) (fun _ h => ?_)
    · refine ml_aload_n (q := 0) F dX2_faultOfOpening_23 rfl rfl ?_
      refine ml_get (v := ml_rf g (ml_fl i + 1)) F (pf0 g hi) rfl iaX2 0 (by decide) lkX2_12 rfl rfl dX2_faultOfOpening_24 ?_
      refine ml_iload_n (q := 1) F dX2_faultOfOpening_27 rfl rfl ?_
      refine ml_callV (av := [.int a0]) (T := TX5) (N := 8) F (pf1 g hi) rfl h (fun rs h9 => fX5_amountByDivision_c i a0 M2 rs hi hst h9) wcX5_amountByDivision mlX2_76 wdX5_amountByDivision (by decide) (by decide) (by decide) rfl seX5_amountByDivision imX5_amountByDivision rfl (Nat.le_of_ble_eq_true rfl) dX2_faultOfOpening_28 (fun r3 M4 h => ?_)
      refine ml_jnR (P := fun B => ∀ (y5 : Int32), B y5 = some res → ml_J E g 2 (ml_Z E g (fun r _ => some (.int r)) res 0 0) (0 + 0 + 0) (0 + 0 + 0) 39 [(0, ml_rf g (ml_fl i)), (1, .int a0)] (.int y5 :: []) M4) h ?_ (fun jn7 h => ?_)
      · intro y5 h
        dsimp only at h
        exact ml_iret (st := []) F (Option.some.inj h) rfl rfl rfl (by decide) (by decide) dX2_faultOfOpening_39
      refine ml_if_eq (tgt := 38) F dX2_faultOfOpening_31 (by decide) h (fun _ h => ?_) (fun _ h => ?_)
      · refine ml_iconst (v := 0) F dX2_faultOfOpening_38 (by decide) ?_
        exact ml_sub [0, 1] rfl (jn7 _ h)
      · refine ml_iconst (v := 4) F dX2_faultOfOpening_34 (by decide) ?_
        refine ml_goto (tgt := 39) F dX2_faultOfOpening_35 (by decide) ?_
        exact ml_sub [0, 1] rfl (jn7 _ h)
    · refine ml_iconst (v := 3) F dX2_faultOfOpening_21 (by decide) ?_
      exact ml_iret (st := []) F (Option.some.inj h) rfl rfl rfl (by decide) (by decide) dX2_faultOfOpening_22
  · refine ml_iconst (v := 1) F dX2_faultOfOpening_7 (by decide) ?_
    exact ml_iret (st := []) F (Option.some.inj h) rfl rfl rfl (by decide) (by decide) dX2_faultOfOpening_8
set_option maxRecDepth 100000 in
def fX2_faultOfShutting (i : Nat) (a0 : Int32) (M : ml_M) : Option ml_R :=
  ml_bd (fX6_isGate a0 M) (fun r1 M2 => (if r1 = 0 then some (.inl 1, M2) else if ml_ok a0 4 then ml_jn (fun (y3 : Int32) => some (.inl y3, M2)) (fun B4 => (if (M2 (ml_fl i + 4) a0.toNatClampNeg) = 0 then B4 3 else B4 0)) else none))
set_option maxHeartbeats 4000000 in
set_option maxRecDepth 100000 in
theorem fX2_faultOfShutting_c (i : Nat) (a0 : Int32) (M : ml_M) (res : ml_R) (hi : i < 11) {g : ml_G} (hst : g.2.2.2.2.2.stackTraces = false) (h : fX2_faultOfShutting i a0 M = some res) : ml_C yX2_faultOfShutting cX2_faultOfShutting 2 (some .int) 2 0 0 g (fun r _ => some (.int r)) [ml_rf g (ml_fl i), .int a0] M res := by
  refine ml_of [(0, ml_rf g (ml_fl i)), (1, .int a0)] hst (by decide) (Nat.le_of_ble_eq_true rfl) rfl (fun E F => ?_)
  unfold fX2_faultOfShutting at h
  refine ml_iload_n (q := 1) F dX2_faultOfShutting_0 rfl rfl ?_
  refine ml_callN (av := [.int a0]) F h (fun rs h9 => fX6_isGate_c a0 M rs hst h9) wcX6_isGate (idx := 68) (by decide +kernel) wdX6_isGate (by decide) (by decide) (by decide) rfl stX6_isGate rfl (Nat.le_of_ble_eq_true rfl) dX2_faultOfShutting_1 (fun r1 M2 h => ?_)
  refine ml_if_ne (tgt := 9) F dX2_faultOfShutting_4 (by decide) h (fun _ h => ?_) (fun _ h => ?_)
  · refine ml_aload_n (q := 0) F dX2_faultOfShutting_9 rfl rfl ?_
    refine ml_get (v := ml_rf g (ml_fl i + 1)) F (pf0 g hi) rfl iaX2 0 (by decide) lkX2_12 rfl rfl dX2_faultOfShutting_10 ?_
    refine ml_get (v := ml_rf g (ml_fl i + 4)) F (pf1 g hi) rfl iaX5 2 (by decide) lkX2_72 rfl rfl dX2_faultOfShutting_13 ?_
    refine ml_iload_n (q := 1) F dX2_faultOfShutting_16 rfl rfl ?_
    refine ml_zald F (pf4 g hi) h dX2_faultOfShutting_17 (fun h => ?_)
    refine ml_jnR (P := fun B => ∀ (y3 : Int32), B y3 = some res → ml_J E g 2 (ml_Z E g (fun r _ => some (.int r)) res 0 0) (0 + 0) (0 + 0) 26 [(0, ml_rf g (ml_fl i)), (1, .int a0)] (.int y3 :: []) M2) h ?_ (fun jn5 h => ?_)
    · intro y3 h
      dsimp only at h
      exact ml_iret (st := []) F (Option.some.inj h) rfl rfl rfl (by decide) (by decide) dX2_faultOfShutting_26
    refine ml_if_eq (tgt := 25) F dX2_faultOfShutting_18 (by decide) h (fun _ h => ?_) (fun _ h => ?_)
    · refine ml_iconst (v := 3) F dX2_faultOfShutting_25 (by decide) ?_
      exact ml_sub [0, 1] rfl (jn5 _ h)
    · refine ml_iconst (v := 0) F dX2_faultOfShutting_21 (by decide) ?_
      refine ml_goto (tgt := 26) F dX2_faultOfShutting_22 (by decide) ?_
      exact ml_sub [0, 1] rfl (jn5 _ h)
  · refine ml_iconst (v := 1) F dX2_faultOfShutting_7 (by decide) ?_
    exact ml_iret (st := []) F (Option.some.inj h) rfl rfl rfl (by decide) (by decide) dX2_faultOfShutting_8
set_option maxRecDepth 100000 in
def fX2_faultOf (i : Nat) (a0 : Int32) (a1 : Int32) (a2 : Int32) (M : ml_M) : Option ml_R :=
  (if a0 = 98 then ml_bd (fX2_faultOfBoat i a1 a2 M) (fun r2 M3 => some (.inl r2, M3)) else (if a0 = 100 then ml_jn (fun (y5 : Int32) => some (.inl y5, M)) (fun B6 => (if a1 < 0 then B6 2 else (if a1 ≤ 9 then B6 0 else B6 2))) else (if a0 = 111 then ml_bd (fX2_faultOfOpening i a1 M) (fun r9 M10 => some (.inl r9, M10)) else (if a0 = 114 then ml_jn (fun (y12 : Int32) => some (.inl y12, M)) (fun B13 => (if a1 < 0 then B13 2 else (if a1 ≤ 9 then B13 0 else B13 2))) else (if a0 = 115 then ml_bd (fX2_faultOfShutting i a1 M) (fun r16 M17 => some (.inl r16, M17)) else (if a0 = 118 then ml_bd (fX2_faultOfValve i a1 a2 M) (fun r19 M20 => some (.inl r19, M20)) else (ml_jn (fun (y21 : Int32) => some (.inl y21, M)) (fun B22 => (if a1 < 1 then B22 2 else (if a1 ≤ 200 then B22 0 else B22 2))))))))))
set_option maxHeartbeats 4000000 in
set_option maxRecDepth 100000 in
theorem fX2_faultOf_c (i : Nat) (a0 : Int32) (a1 : Int32) (a2 : Int32) (M : ml_M) (res : ml_R) (hi : i < 11) {g : ml_G} (hst : g.2.2.2.2.2.stackTraces = false) (h : fX2_faultOf i a0 a1 a2 M = some res) : ml_C yX2_faultOf cX2_faultOf 4 (some .int) 5 0 0 g (fun r _ => some (.int r)) [ml_rf g (ml_fl i), .int a0, .int a1, .int a2] M res := by
  refine ml_of [(0, ml_rf g (ml_fl i)), (1, .int a0), (2, .int a1), (3, .int a2)] hst (by decide) (Nat.le_of_ble_eq_true rfl) rfl (fun E F => ?_)
  unfold fX2_faultOf at h
  refine ml_iload_n (q := 1) F dX2_faultOf_0 rfl rfl ?_
  refine ml_ifc h (fun c1 h => ?_) (fun c1 h => ?_)
  · refine ml_lookup (tgt := 60) F dX2_faultOf_1 (by decide) (by rw [c1]; try rfl) (by decide) ?_
    refine ml_aload_n (q := 0) F dX2_faultOf_60 rfl rfl ?_
    refine ml_iload_n (q := 2) F dX2_faultOf_61 rfl rfl ?_
    refine ml_iload_n (q := 3) F dX2_faultOf_62 rfl rfl ?_
    refine ml_callV (av := [.int a1, .int a2]) (T := TX2) (N := 4) F (pf0 g hi) rfl h (fun rs h9 => fX2_faultOfBoat_c i a1 a2 M rs hi hst h9) wcX2_faultOfBoat mlX2_48 wdX2_faultOfBoat (by decide) (by decide) (by decide) rfl seX2_faultOfBoat imX2_faultOfBoat rfl (Nat.le_of_ble_eq_true rfl) dX2_faultOf_63 (fun r2 M3 h => ?_)
    exact ml_iret (st := []) F (Option.some.inj h) rfl rfl rfl (by decide) (by decide) dX2_faultOf_66
  refine ml_ifc h (fun c4 h => ?_) (fun c4 h => ?_)
  · refine ml_lookup (tgt := 86) F dX2_faultOf_1 (by decide) (by rw [c4]; try rfl) (by decide) ?_
    refine ml_iload_n (q := 2) F dX2_faultOf_86 rfl rfl ?_
    refine ml_jnR (P := fun B => ∀ (y5 : Int32), B y5 = some res → ml_J E g 4 (ml_Z E g (fun r _ => some (.int r)) res 0 0) (0) (0) 101 [(0, ml_rf g (ml_fl i)), (1, .int a0), (2, .int a1), (3, .int a2)] (.int y5 :: []) M) h ?_ (fun jn7 h => ?_)
    · intro y5 h
      dsimp only at h
      exact ml_iret (st := []) F (Option.some.inj h) rfl rfl rfl (by decide) (by decide) dX2_faultOf_101
    refine ml_if_lt (tgt := 96) F dX2_faultOf_87 (by decide) h (fun _ h => ?_) (fun _ h => ?_)
    · refine ml_iconst (v := 2) F dX2_faultOf_96 (by decide) ?_
      refine ml_goto (tgt := 101) F dX2_faultOf_97 (by decide) ?_
      exact ml_sub [0, 1, 2, 3] rfl (jn7 _ h)
    · refine ml_iload_n (q := 2) F dX2_faultOf_90 rfl rfl ?_
      refine ml_bipush (v := 9) F dX2_faultOf_91 (by decide) ?_
      refine ml_icmp_le (tgt := 100) F dX2_faultOf_93 (by decide) h (fun _ h => ?_) (fun _ h => ?_)
      · refine ml_iconst (v := 0) F dX2_faultOf_100 (by decide) ?_
        exact ml_sub [0, 1, 2, 3] rfl (jn7 _ h)
      · refine ml_iconst (v := 2) F dX2_faultOf_96 (by decide) ?_
        refine ml_goto (tgt := 101) F dX2_faultOf_97 (by decide) ?_
        exact ml_sub [0, 1, 2, 3] rfl (jn7 _ h)
  refine ml_ifc h (fun c8 h => ?_) (fun c8 h => ?_)
  · refine ml_lookup (tgt := 74) F dX2_faultOf_1 (by decide) (by rw [c8]; try rfl) (by decide) ?_
    refine ml_aload_n (q := 0) F dX2_faultOf_74 rfl rfl ?_
    refine ml_iload_n (q := 2) F dX2_faultOf_75 rfl rfl ?_
    refine ml_callV (av := [.int a1]) (T := TX2) (N := 4) F (pf0 g hi) rfl h (fun rs h9 => fX2_faultOfOpening_c i a1 M rs hi hst h9) wcX2_faultOfOpening mlX2_55 wdX2_faultOfOpening (by decide) (by decide) (by decide) rfl seX2_faultOfOpening imX2_faultOfOpening rfl (Nat.le_of_ble_eq_true rfl) dX2_faultOf_76 (fun r9 M10 h => ?_)
    exact ml_iret (st := []) F (Option.some.inj h) rfl rfl rfl (by decide) (by decide) dX2_faultOf_79
  refine ml_ifc h (fun c11 h => ?_) (fun c11 h => ?_)
  · refine ml_lookup (tgt := 86) F dX2_faultOf_1 (by decide) (by rw [c11]; try rfl) (by decide) ?_
    refine ml_iload_n (q := 2) F dX2_faultOf_86 rfl rfl ?_
    refine ml_jnR (P := fun B => ∀ (y12 : Int32), B y12 = some res → ml_J E g 4 (ml_Z E g (fun r _ => some (.int r)) res 0 0) (0) (0) 101 [(0, ml_rf g (ml_fl i)), (1, .int a0), (2, .int a1), (3, .int a2)] (.int y12 :: []) M) h ?_ (fun jn14 h => ?_)
    · intro y12 h
      dsimp only at h
      exact ml_iret (st := []) F (Option.some.inj h) rfl rfl rfl (by decide) (by decide) dX2_faultOf_101
    refine ml_if_lt (tgt := 96) F dX2_faultOf_87 (by decide) h (fun _ h => ?_) (fun _ h => ?_)
    · refine ml_iconst (v := 2) F dX2_faultOf_96 (by decide) ?_
      refine ml_goto (tgt := 101) F dX2_faultOf_97 (by decide) ?_
      exact ml_sub [0, 1, 2, 3] rfl (jn14 _ h)
    · refine ml_iload_n (q := 2) F dX2_faultOf_90 rfl rfl ?_
      refine ml_bipush (v := 9) F dX2_faultOf_91 (by decide) ?_
      refine ml_icmp_le (tgt := 100) F dX2_faultOf_93 (by decide) h (fun _ h => ?_) (fun _ h => ?_)
      · refine ml_iconst (v := 0) F dX2_faultOf_100 (by decide) ?_
        exact ml_sub [0, 1, 2, 3] rfl (jn14 _ h)
      · refine ml_iconst (v := 2) F dX2_faultOf_96 (by decide) ?_
        refine ml_goto (tgt := 101) F dX2_faultOf_97 (by decide) ?_
        exact ml_sub [0, 1, 2, 3] rfl (jn14 _ h)
  refine ml_ifc h (fun c15 h => ?_) (fun c15 h => ?_)
  · refine ml_lookup (tgt := 80) F dX2_faultOf_1 (by decide) (by rw [c15]; try rfl) (by decide) ?_
    refine ml_aload_n (q := 0) F dX2_faultOf_80 rfl rfl ?_
    refine ml_iload_n (q := 2) F dX2_faultOf_81 rfl rfl ?_
    refine ml_callV (av := [.int a1]) (T := TX2) (N := 4) F (pf0 g hi) rfl h (fun rs h9 => fX2_faultOfShutting_c i a1 M rs hi hst h9) wcX2_faultOfShutting mlX2_59 wdX2_faultOfShutting (by decide) (by decide) (by decide) rfl seX2_faultOfShutting imX2_faultOfShutting rfl (Nat.le_of_ble_eq_true rfl) dX2_faultOf_82 (fun r16 M17 h => ?_)
    exact ml_iret (st := []) F (Option.some.inj h) rfl rfl rfl (by decide) (by decide) dX2_faultOf_85
  refine ml_ifc h (fun c18 h => ?_) (fun c18 h => ?_)
  · refine ml_lookup (tgt := 67) F dX2_faultOf_1 (by decide) (by rw [c18]; try rfl) (by decide) ?_
    refine ml_aload_n (q := 0) F dX2_faultOf_67 rfl rfl ?_
    refine ml_iload_n (q := 2) F dX2_faultOf_68 rfl rfl ?_
    refine ml_iload_n (q := 3) F dX2_faultOf_69 rfl rfl ?_
    refine ml_callV (av := [.int a1, .int a2]) (T := TX2) (N := 4) F (pf0 g hi) rfl h (fun rs h9 => fX2_faultOfValve_c i a1 a2 M rs hi hst h9) wcX2_faultOfValve mlX2_52 wdX2_faultOfValve (by decide) (by decide) (by decide) rfl seX2_faultOfValve imX2_faultOfValve rfl (Nat.le_of_ble_eq_true rfl) dX2_faultOf_70 (fun r19 M20 h => ?_)
    exact ml_iret (st := []) F (Option.some.inj h) rfl rfl rfl (by decide) (by decide) dX2_faultOf_73
  refine ml_lookup (tgt := 102) F dX2_faultOf_1 (by decide) (by simp only [Op.lookupswitch.offset_cons, Op.lookupswitch.offset_nil, if_neg (show ¬ ((98 : Int) = _) from ml_ne_i (k := 98) c1), if_neg (show ¬ ((100 : Int) = _) from ml_ne_i (k := 100) c4), if_neg (show ¬ ((111 : Int) = _) from ml_ne_i (k := 111) c8), if_neg (show ¬ ((114 : Int) = _) from ml_ne_i (k := 114) c11), if_neg (show ¬ ((115 : Int) = _) from ml_ne_i (k := 115) c15), if_neg (show ¬ ((118 : Int) = _) from ml_ne_i (k := 118) c18)]; try rfl) (by decide) ?_
  refine ml_iload_n (q := 2) F dX2_faultOf_102 rfl rfl ?_
  refine ml_iconst (v := 1) F dX2_faultOf_103 (by decide) ?_
  refine ml_jnR (P := fun B => ∀ (y21 : Int32), B y21 = some res → ml_J E g 4 (ml_Z E g (fun r _ => some (.int r)) res 0 0) (0) (0) 119 [(0, ml_rf g (ml_fl i)), (1, .int a0), (2, .int a1), (3, .int a2)] (.int y21 :: []) M) h ?_ (fun jn23 h => ?_)
  · intro y21 h
    dsimp only at h
    exact ml_iret (st := []) F (Option.some.inj h) rfl rfl rfl (by decide) (by decide) dX2_faultOf_119
  refine ml_icmp_lt (tgt := 114) F dX2_faultOf_104 (by decide) h (fun _ h => ?_) (fun _ h => ?_)
  · refine ml_iconst (v := 2) F dX2_faultOf_114 (by decide) ?_
    refine ml_goto (tgt := 119) F dX2_faultOf_115 (by decide) ?_
    exact ml_sub [0, 1, 2, 3] rfl (jn23 _ h)
  · refine ml_iload_n (q := 2) F dX2_faultOf_107 rfl rfl ?_
    refine ml_sipush (v := 200) F dX2_faultOf_108 (by decide) ?_
    refine ml_icmp_le (tgt := 118) F dX2_faultOf_111 (by decide) h (fun _ h => ?_) (fun _ h => ?_)
    · refine ml_iconst (v := 0) F dX2_faultOf_118 (by decide) ?_
      exact ml_sub [0, 1, 2, 3] rfl (jn23 _ h)
    · refine ml_iconst (v := 2) F dX2_faultOf_114 (by decide) ?_
      refine ml_goto (tgt := 119) F dX2_faultOf_115 (by decide) ?_
      exact ml_sub [0, 1, 2, 3] rfl (jn23 _ h)
set_option maxRecDepth 100000 in
def fX6_refuse (a0 : Int32) (M : ml_M) : Option ml_R :=
  (if a0 = 1 then some (.inr 1, M) else (if a0 = 2 then some (.inr 2, M) else (if a0 = 3 then some (.inr 3, M) else (if a0 = 4 then some (.inr 5, M) else some (.inl 0, M)))))
set_option maxHeartbeats 4000000 in
set_option maxRecDepth 100000 in
theorem fX6_refuse_c (a0 : Int32) (M : ml_M) (res : ml_R) {g : ml_G} (hst : g.2.2.2.2.2.stackTraces = false) (h : fX6_refuse a0 M = some res) : ml_C yX6_refuse cX6_refuse 1 none 1 1 6 g (fun _ _ => none) [.int a0] M res := by
  refine ml_of [(0, .int a0)] hst (by decide) (Nat.le_of_ble_eq_true rfl) rfl (fun E F => ?_)
  unfold fX6_refuse at h
  refine ml_iload_n (q := 0) F dX6_refuse_0 rfl rfl ?_
  refine ml_iconst (v := 1) F dX6_refuse_1 (by decide) ?_
  refine ml_icmp_ne (tgt := 16) F dX6_refuse_2 (by decide) h (fun _ h => ?_) (fun _ h => ?_)
  · refine ml_iload_n (q := 0) F dX6_refuse_16 rfl rfl ?_
    refine ml_iconst (v := 2) F dX6_refuse_17 (by decide) ?_
    refine ml_icmp_ne (tgt := 32) F dX6_refuse_18 (by decide) h (fun _ h => ?_) (fun _ h => ?_)
    · refine ml_iload_n (q := 0) F dX6_refuse_32 rfl rfl ?_
      refine ml_iconst (v := 3) F dX6_refuse_33 (by decide) ?_
      refine ml_icmp_ne (tgt := 48) F dX6_refuse_34 (by decide) h (fun _ h => ?_) (fun _ h => ?_)
      · refine ml_iload_n (q := 0) F dX6_refuse_48 rfl rfl ?_
        refine ml_iconst (v := 4) F dX6_refuse_49 (by decide) ?_
        refine ml_icmp_ne (tgt := 64) F dX6_refuse_50 (by decide) h (fun _ h => ?_) (fun _ h => ?_)
        · exact ml_vret (st := []) F (Option.some.inj h) rfl rfl (by decide) (by decide) dX6_refuse_64
        · exact ml_throwW (text := "the equalizing amount is not 0") F (Option.some.inj h) ml_tw5 (by decide +kernel) (Nat.le_of_ble_eq_true rfl) (by decide) (by decide) dX6_refuse_53 dX6_refuse_56 dX6_refuse_57 dX6_refuse_60 dX6_refuse_63
      · exact ml_throwW (text := "the boats or the gate do not allow this now") F (Option.some.inj h) ml_tw3 (by decide +kernel) (Nat.le_of_ble_eq_true rfl) (by decide) (by decide) dX6_refuse_37 dX6_refuse_40 dX6_refuse_41 dX6_refuse_44 dX6_refuse_47
    · exact ml_throwW (text := "no such colour, draught, opening, litres or minutes") F (Option.some.inj h) ml_tw2 (by decide +kernel) (Nat.le_of_ble_eq_true rfl) (by decide) (by decide) dX6_refuse_21 dX6_refuse_24 dX6_refuse_25 dX6_refuse_28 dX6_refuse_31
  · exact ml_throwW (text := "no such valve or gate") F (Option.some.inj h) ml_tw1 (by decide +kernel) (Nat.le_of_ble_eq_true rfl) (by decide) (by decide) dX6_refuse_5 dX6_refuse_8 dX6_refuse_9 dX6_refuse_12 dX6_refuse_15
set_option maxRecDepth 100000 in
def fX1_copyBoat (i : Nat) (j : Nat) (a1 : Int32) (a2 : Int32) (M : ml_M) : Option ml_R :=
  if ml_ok a1 8 then if ml_ok a2 8 then ml_lt (ml_w M (ml_fl i + 6) a2.toNatClampNeg (M (ml_fl j + 6) a1.toNatClampNeg)) (fun M1 => if ml_ok a1 8 then if ml_ok a2 8 then ml_lt (ml_w M1 (ml_fl i + 7) a2.toNatClampNeg (M1 (ml_fl j + 7) a1.toNatClampNeg)) (fun M2 => if ml_ok a1 8 then if ml_ok a2 8 then ml_lt (ml_w M2 (ml_fl i + 8) a2.toNatClampNeg (vp_nar .boolean (M2 (ml_fl j + 8) a1.toNatClampNeg))) (fun M3 => if ml_ok a1 8 then if ml_ok a2 8 then ml_lt (ml_w M3 (ml_fl i + 9) a2.toNatClampNeg (M3 (ml_fl j + 9) a1.toNatClampNeg)) (fun M4 => if ml_ok a1 8 then if ml_ok a2 8 then ml_lt (ml_w M4 (ml_fl i + 10) a2.toNatClampNeg (M4 (ml_fl j + 10) a1.toNatClampNeg)) (fun M5 => some (.inl 0, M5)) else none else none) else none else none) else none else none) else none else none) else none else none
set_option maxHeartbeats 4000000 in
set_option maxRecDepth 100000 in
theorem fX1_copyBoat_c (i : Nat) (j : Nat) (a1 : Int32) (a2 : Int32) (M : ml_M) (res : ml_R) (hi : i < 11) (hj : j < 11) {g : ml_G} (hst : g.2.2.2.2.2.stackTraces = false) (h : fX1_copyBoat i j a1 a2 M = some res) : ml_C yX1_copyBoat cX1_copyBoat 4 none 1 0 0 g (fun _ _ => none) [ml_rf g (ml_fl i + 5), ml_rf g (ml_fl j + 5), .int a1, .int a2] M res := by
  refine ml_of [(0, ml_rf g (ml_fl i + 5)), (1, ml_rf g (ml_fl j + 5)), (2, .int a1), (3, .int a2)] hst (by decide) (Nat.le_of_ble_eq_true rfl) rfl (fun E F => ?_)
  unfold fX1_copyBoat at h
  refine ml_aload_n (q := 0) F dX1_copyBoat_0 rfl rfl ?_
  refine ml_get (v := ml_rf g (ml_fl i + 6)) F (pf5 g hi) rfl iaX1 2 (by decide) lkX1_18 rfl rfl dX1_copyBoat_1 ?_
  refine ml_iload_n (q := 3) F dX1_copyBoat_4 rfl rfl ?_
  refine ml_aload_n (q := 1) F dX1_copyBoat_5 rfl rfl ?_
  refine ml_get (v := ml_rf g (ml_fl j + 6)) F (pf5 g hj) rfl iaX1 2 (by decide) lkX1_18 rfl rfl dX1_copyBoat_6 ?_
  refine ml_iload_n (q := 2) F dX1_copyBoat_9 rfl rfl ?_
  refine ml_iald F (pf6 g hj) h dX1_copyBoat_10 (fun h => ?_)
  refine ml_iast F (pf6 g hi) h dX1_copyBoat_11 (fun h => ?_)
  refine ml_ltM h (fun M1 _ h => ?_)
  refine ml_aload_n (q := 0) F dX1_copyBoat_12 rfl rfl ?_
  refine ml_get (v := ml_rf g (ml_fl i + 7)) F (pf5 g hi) rfl iaX1 3 (by decide) lkX1_22 rfl rfl dX1_copyBoat_13 ?_
  refine ml_iload_n (q := 3) F dX1_copyBoat_16 rfl rfl ?_
  refine ml_aload_n (q := 1) F dX1_copyBoat_17 rfl rfl ?_
  refine ml_get (v := ml_rf g (ml_fl j + 7)) F (pf5 g hj) rfl iaX1 3 (by decide) lkX1_22 rfl rfl dX1_copyBoat_18 ?_
  refine ml_iload_n (q := 2) F dX1_copyBoat_21 rfl rfl ?_
  refine ml_iald F (pf7 g hj) h dX1_copyBoat_22 (fun h => ?_)
  refine ml_iast F (pf7 g hi) h dX1_copyBoat_23 (fun h => ?_)
  refine ml_ltM h (fun M2 _ h => ?_)
  refine ml_aload_n (q := 0) F dX1_copyBoat_24 rfl rfl ?_
  refine ml_get (v := ml_rf g (ml_fl i + 8)) F (pf5 g hi) rfl iaX1 4 (by decide) lkX1_25 rfl rfl dX1_copyBoat_25 ?_
  refine ml_iload_n (q := 3) F dX1_copyBoat_28 rfl rfl ?_
  refine ml_aload_n (q := 1) F dX1_copyBoat_29 rfl rfl ?_
  refine ml_get (v := ml_rf g (ml_fl j + 8)) F (pf5 g hj) rfl iaX1 4 (by decide) lkX1_25 rfl rfl dX1_copyBoat_30 ?_
  refine ml_iload_n (q := 2) F dX1_copyBoat_33 rfl rfl ?_
  refine ml_zald F (pf8 g hj) h dX1_copyBoat_34 (fun h => ?_)
  refine ml_zast F (pf8 g hi) h dX1_copyBoat_35 (fun h => ?_)
  refine ml_ltM h (fun M3 _ h => ?_)
  refine ml_aload_n (q := 0) F dX1_copyBoat_36 rfl rfl ?_
  refine ml_get (v := ml_rf g (ml_fl i + 9)) F (pf5 g hi) rfl iaX1 5 (by decide) lkX1_29 rfl rfl dX1_copyBoat_37 ?_
  refine ml_iload_n (q := 3) F dX1_copyBoat_40 rfl rfl ?_
  refine ml_aload_n (q := 1) F dX1_copyBoat_41 rfl rfl ?_
  refine ml_get (v := ml_rf g (ml_fl j + 9)) F (pf5 g hj) rfl iaX1 5 (by decide) lkX1_29 rfl rfl dX1_copyBoat_42 ?_
  refine ml_iload_n (q := 2) F dX1_copyBoat_45 rfl rfl ?_
  refine ml_iald F (pf9 g hj) h dX1_copyBoat_46 (fun h => ?_)
  refine ml_iast F (pf9 g hi) h dX1_copyBoat_47 (fun h => ?_)
  refine ml_ltM h (fun M4 _ h => ?_)
  refine ml_aload_n (q := 0) F dX1_copyBoat_48 rfl rfl ?_
  refine ml_get (v := ml_rf g (ml_fl i + 10)) F (pf5 g hi) rfl iaX1 6 (by decide) lkX1_32 rfl rfl dX1_copyBoat_49 ?_
  refine ml_iload_n (q := 3) F dX1_copyBoat_52 rfl rfl ?_
  refine ml_aload_n (q := 1) F dX1_copyBoat_53 rfl rfl ?_
  refine ml_get (v := ml_rf g (ml_fl j + 10)) F (pf5 g hj) rfl iaX1 6 (by decide) lkX1_32 rfl rfl dX1_copyBoat_54 ?_
  refine ml_iload_n (q := 2) F dX1_copyBoat_57 rfl rfl ?_
  refine ml_iald F (pf10 g hj) h dX1_copyBoat_58 (fun h => ?_)
  refine ml_iast F (pf10 g hi) h dX1_copyBoat_59 (fun h => ?_)
  refine ml_ltM h (fun M5 _ h => ?_)
  exact ml_vret (st := []) F (Option.some.inj h) rfl rfl (by decide) (by decide) dX1_copyBoat_60
set_option maxRecDepth 100000 in
def fX1_copyFleet_s0 (i : Nat) (j : Nat) (rec : Nat → Int32 → ml_M → Option ml_R) (x2 : Int32) (M : ml_M) : Option ml_R :=
  (if 8 ≤ x2 then rec 1 0 M else ml_bd (fX1_copyBoat i j x2 x2 M) (fun r1 M2 => rec 0 (x2 + 1) M2))
set_option maxRecDepth 100000 in
def fX1_copyFleet_s1 (i : Nat) (j : Nat) (rec : Nat → Int32 → ml_M → Option ml_R) (x2 : Int32) (M : ml_M) : Option ml_R :=
  (if 3 ≤ x2 then some (.inl 0, M) else if ml_ok x2 3 then if ml_ok x2 3 then ml_lt (ml_w M (ml_fl i + 11) x2.toNatClampNeg (M (ml_fl j + 11) x2.toNatClampNeg)) (fun M1 => rec 1 (x2 + 1) M1) else none else none)
def fX1_copyFleet_l (i : Nat) (j : Nat) : Nat → Nat → Int32 → ml_M → Option ml_R
  | 0, _ => fun _ _ => none
  | n + 1, 0 => fX1_copyFleet_s0 i j (fX1_copyFleet_l i j n)
  | n + 1, _ => fX1_copyFleet_s1 i j (fX1_copyFleet_l i j n)
set_option maxHeartbeats 4000000 in
set_option maxRecDepth 100000 in
theorem fX1_copyFleet_w (i : Nat) (j : Nat) (hi : i < 11) (hj : j < 11) {E : ml_E} {g : ml_G} {res : ml_R} (F : ml_F E g cX1_copyFleet yX1_copyFleet.cls 3 2 0 0 none []) : ∀ fuel : Nat, (∀ (x2 : Int32) (M : ml_M), fX1_copyFleet_l i j fuel 0 x2 M = some res → ml_J E g 3 (ml_Z E g (fun _ _ => none) res 0 0) 0 0 18 [(0, ml_rf g (ml_fl i + 5)), (1, ml_rf g (ml_fl j + 5)), (2, .int x2)] [] M) ∧ (∀ (x2 : Int32) (M : ml_M), fX1_copyFleet_l i j fuel 1 x2 M = some res → ml_J E g 3 (ml_Z E g (fun _ _ => none) res 0 0) 0 0 39 [(0, ml_rf g (ml_fl i + 5)), (1, ml_rf g (ml_fl j + 5)), (2, .int x2)] [] M) := by
  have hst := ml_F_st F
  intro fuel
  induction fuel with
  | zero => exact ⟨fun _ _ h => (nomatch (show (none : Option ml_R) = some res from h)), fun _ _ h => (nomatch (show (none : Option ml_R) = some res from h))⟩
  | succ fuel ih =>
    refine ⟨?_, ?_⟩
    · intro x2 M h
      replace h : fX1_copyFleet_s0 i j (fX1_copyFleet_l i j fuel) x2 M = some res := h
      unfold fX1_copyFleet_s0 at h
      refine ml_iload_n (q := 2) F dX1_copyFleet_18 rfl rfl ?_
      refine ml_bipush (v := 8) F dX1_copyFleet_19 (by decide) ?_
      refine ml_icmp_ge (tgt := 37) F dX1_copyFleet_21 (by decide) h (fun _ h => ?_) (fun _ h => ?_)
      · refine ml_iconst (v := 0) F dX1_copyFleet_37 (by decide) ?_
        refine ml_istore_n (ls2 := [(2, .int 0), (0, ml_rf g (ml_fl i + 5)), (1, ml_rf g (ml_fl j + 5))]) F dX1_copyFleet_38 rfl (by decide) rfl ?_
        exact ml_sub [1, 2, 0] rfl ((ih.2) _ _ h)
      · refine ml_aload_n (q := 0) F dX1_copyFleet_24 rfl rfl ?_
        refine ml_aload_n (q := 1) F dX1_copyFleet_25 rfl rfl ?_
        refine ml_iload_n (q := 2) F dX1_copyFleet_26 rfl rfl ?_
        refine ml_iload_n (q := 2) F dX1_copyFleet_27 rfl rfl ?_
        refine ml_callV (av := [ml_rf g (ml_fl j + 5), .int x2, .int x2]) (T := TX1) (N := 8) F (pf5 g hi) rfl h (fun rs h9 => fX1_copyBoat_c i j x2 x2 M rs hi hj hst h9) wcX1_copyBoat mlX1_38 wdX1_copyBoat (by decide) (by decide) (by decide) rfl seX1_copyBoat imX1_copyBoat rfl (Nat.le_of_ble_eq_true rfl) dX1_copyFleet_28 (fun r1 M2 h => ?_)
        refine ml_iinc (q := 2) (v := x2 + 1) (ls2 := [(2, .int (x2 + 1)), (0, ml_rf g (ml_fl i + 5)), (1, ml_rf g (ml_fl j + 5))]) F dX1_copyFleet_31 rfl rfl (by decide) rfl ?_
        refine ml_goto (tgt := 18) F dX1_copyFleet_34 (by decide) ?_
        exact ml_sub [1, 2, 0] rfl ((ih.1) _ _ h)
    · intro x2 M h
      replace h : fX1_copyFleet_s1 i j (fX1_copyFleet_l i j fuel) x2 M = some res := h
      unfold fX1_copyFleet_s1 at h
      refine ml_iload_n (q := 2) F dX1_copyFleet_39 rfl rfl ?_
      refine ml_iconst (v := 3) F dX1_copyFleet_40 (by decide) ?_
      refine ml_icmp_ge (tgt := 62) F dX1_copyFleet_41 (by decide) h (fun _ h => ?_) (fun _ h => ?_)
      · exact ml_vret (st := []) F (Option.some.inj h) rfl rfl (by decide) (by decide) dX1_copyFleet_62
      · refine ml_aload_n (q := 0) F dX1_copyFleet_44 rfl rfl ?_
        refine ml_get (v := ml_rf g (ml_fl i + 11)) F (pf5 g hi) rfl iaX1 7 (by decide) lkX1_35 rfl rfl dX1_copyFleet_45 ?_
        refine ml_iload_n (q := 2) F dX1_copyFleet_48 rfl rfl ?_
        refine ml_aload_n (q := 1) F dX1_copyFleet_49 rfl rfl ?_
        refine ml_get (v := ml_rf g (ml_fl j + 11)) F (pf5 g hj) rfl iaX1 7 (by decide) lkX1_35 rfl rfl dX1_copyFleet_50 ?_
        refine ml_iload_n (q := 2) F dX1_copyFleet_53 rfl rfl ?_
        refine ml_iald F (pf11 g hj) h dX1_copyFleet_54 (fun h => ?_)
        refine ml_iast F (pf11 g hi) h dX1_copyFleet_55 (fun h => ?_)
        refine ml_ltM h (fun M1 _ h => ?_)
        refine ml_iinc (q := 2) (v := x2 + 1) (ls2 := [(2, .int (x2 + 1)), (0, ml_rf g (ml_fl i + 5)), (1, ml_rf g (ml_fl j + 5))]) F dX1_copyFleet_56 rfl rfl (by decide) rfl ?_
        refine ml_goto (tgt := 39) F dX1_copyFleet_59 (by decide) ?_
        exact ml_sub [1, 2, 0] rfl ((ih.2) _ _ h)
set_option maxRecDepth 100000 in
def fX1_copyFleet (i : Nat) (j : Nat) (M : ml_M) : Option ml_R :=
  ml_lt (ml_w M (ml_fl i + 5) 0 (M (ml_fl j + 5) 0)) (fun M1 => ml_lt (ml_w M1 (ml_fl i + 5) 1 (M1 (ml_fl j + 5) 1)) (fun M2 => fX1_copyFleet_l i j ml_fuel 0 0 M2))
set_option maxHeartbeats 4000000 in
set_option maxRecDepth 100000 in
theorem fX1_copyFleet_c (i : Nat) (j : Nat) (M : ml_M) (res : ml_R) (hi : i < 11) (hj : j < 11) {g : ml_G} (hst : g.2.2.2.2.2.stackTraces = false) (h : fX1_copyFleet i j M = some res) : ml_C yX1_copyFleet cX1_copyFleet 3 none 2 0 0 g (fun _ _ => none) [ml_rf g (ml_fl i + 5), ml_rf g (ml_fl j + 5)] M res := by
  refine ml_of [(0, ml_rf g (ml_fl i + 5)), (1, ml_rf g (ml_fl j + 5))] hst (by decide) (Nat.le_of_ble_eq_true rfl) rfl (fun E F => ?_)
  unfold fX1_copyFleet at h
  refine ml_aload_n (q := 0) F dX1_copyFleet_0 rfl rfl ?_
  refine ml_aload_n (q := 1) F dX1_copyFleet_1 rfl rfl ?_
  refine ml_get (v := .int (M (ml_fl j + 5) 0)) F (pf5 g hj) rfl iaX1 0 (by decide) lkX1_9 rfl rfl dX1_copyFleet_2 ?_
  refine ml_set F (pf5 g hi) rfl iaX1 tyX1_ok nmX1 0 (by decide) lkX1_9 rfl rfl rfl rfl rfl (Nat.le_of_ble_eq_true rfl) (fun m => by simp [upd]) dX1_copyFleet_5 ?_
  refine ml_ltM h (fun M1 _ h => ?_)
  refine ml_aload_n (q := 0) F dX1_copyFleet_8 rfl rfl ?_
  refine ml_aload_n (q := 1) F dX1_copyFleet_9 rfl rfl ?_
  refine ml_get (v := .int (M1 (ml_fl j + 5) 1)) F (pf5 g hj) rfl iaX1 1 (by decide) lkX1_15 rfl rfl dX1_copyFleet_10 ?_
  refine ml_set F (pf5 g hi) rfl iaX1 tyX1_ok nmX1 1 (by decide) lkX1_15 rfl rfl rfl rfl rfl (Nat.le_of_ble_eq_true rfl) (fun m => by simp [upd]) dX1_copyFleet_13 ?_
  refine ml_ltM h (fun M2 _ h => ?_)
  refine ml_iconst (v := 0) F dX1_copyFleet_16 (by decide) ?_
  refine ml_istore_n (ls2 := [(2, .int 0), (0, ml_rf g (ml_fl i + 5)), (1, ml_rf g (ml_fl j + 5))]) F dX1_copyFleet_17 rfl (by decide) rfl ?_
  exact ml_sub [1, 2, 0] rfl ((fX1_copyFleet_w i j hi hj F ml_fuel).1 _ _ h)
set_option maxRecDepth 100000 in
def fX0_copyEvents_s0 (i : Nat) (j : Nat) (rec : Int32 → ml_M → Option ml_R) (x2 : Int32) (M : ml_M) : Option ml_R :=
  (if 8 ≤ x2 then ml_lt (ml_w M (ml_fl i + 12) 2 (M (ml_fl j + 12) 2)) (fun M1 => ml_lt (ml_w M1 (ml_fl i + 12) 3 (M1 (ml_fl j + 12) 3)) (fun M2 => some (.inl 0, M2))) else if ml_ok x2 8 then if ml_ok x2 8 then ml_lt (ml_w M (ml_fl i + 13) x2.toNatClampNeg (vp_nar .char (M (ml_fl j + 13) x2.toNatClampNeg))) (fun M3 => if ml_ok x2 8 then if ml_ok x2 8 then ml_lt (ml_w M3 (ml_fl i + 14) x2.toNatClampNeg (M3 (ml_fl j + 14) x2.toNatClampNeg)) (fun M4 => rec (x2 + 1) M4) else none else none) else none else none)
def fX0_copyEvents_l (i : Nat) (j : Nat) : Nat → Int32 → ml_M → Option ml_R
  | 0 => fun _ _ => none
  | n + 1 => fX0_copyEvents_s0 i j (fX0_copyEvents_l i j n)
set_option maxHeartbeats 4000000 in
set_option maxRecDepth 100000 in
theorem fX0_copyEvents_w (i : Nat) (j : Nat) (hi : i < 11) (hj : j < 11) {E : ml_E} {g : ml_G} {res : ml_R} (F : ml_F E g cX0_copyEvents yX0_copyEvents.cls 3 1 0 0 none []) : ∀ fuel : Nat, ∀ (x2 : Int32) (M : ml_M), fX0_copyEvents_l i j fuel x2 M = some res → ml_J E g 3 (ml_Z E g (fun _ _ => none) res 0 0) 0 0 2 [(0, ml_rf g (ml_fl i + 12)), (1, ml_rf g (ml_fl j + 12)), (2, .int x2)] [] M := by
  have hst := ml_F_st F
  intro fuel
  induction fuel with
  | zero => intro _ _ h; exact nomatch (show (none : Option ml_R) = some res from h)
  | succ fuel ih =>
    intro x2 M h
    replace h : fX0_copyEvents_s0 i j (fX0_copyEvents_l i j fuel) x2 M = some res := h
    unfold fX0_copyEvents_s0 at h
    refine ml_iload_n (q := 2) F dX0_copyEvents_2 rfl rfl ?_
    refine ml_bipush (v := 8) F dX0_copyEvents_3 (by decide) ?_
    refine ml_icmp_ge (tgt := 38) F dX0_copyEvents_5 (by decide) h (fun _ h => ?_) (fun _ h => ?_)
    · refine ml_aload_n (q := 0) F dX0_copyEvents_38 rfl rfl ?_
      refine ml_aload_n (q := 1) F dX0_copyEvents_39 rfl rfl ?_
      refine ml_get (v := .int (M (ml_fl j + 12) 2)) F (pf12 g hj) rfl iaX0 2 (by decide) lkX0_19 rfl rfl dX0_copyEvents_40 ?_
      refine ml_set F (pf12 g hi) rfl iaX0 tyX0_ok nmX0 2 (by decide) lkX0_19 rfl rfl rfl rfl rfl (Nat.le_of_ble_eq_true rfl) (fun m => by simp [upd]) dX0_copyEvents_43 ?_
      refine ml_ltM h (fun M1 _ h => ?_)
      refine ml_aload_n (q := 0) F dX0_copyEvents_46 rfl rfl ?_
      refine ml_aload_n (q := 1) F dX0_copyEvents_47 rfl rfl ?_
      refine ml_get (v := .int (M1 (ml_fl j + 12) 3)) F (pf12 g hj) rfl iaX0 3 (by decide) lkX0_23 rfl rfl dX0_copyEvents_48 ?_
      refine ml_set F (pf12 g hi) rfl iaX0 tyX0_ok nmX0 3 (by decide) lkX0_23 rfl rfl rfl rfl rfl (Nat.le_of_ble_eq_true rfl) (fun m => by simp [upd]) dX0_copyEvents_51 ?_
      refine ml_ltM h (fun M2 _ h => ?_)
      exact ml_vret (st := []) F (Option.some.inj h) rfl rfl (by decide) (by decide) dX0_copyEvents_54
    · refine ml_aload_n (q := 0) F dX0_copyEvents_8 rfl rfl ?_
      refine ml_get (v := ml_rf g (ml_fl i + 13)) F (pf12 g hi) rfl iaX0 0 (by decide) lkX0_9 rfl rfl dX0_copyEvents_9 ?_
      refine ml_iload_n (q := 2) F dX0_copyEvents_12 rfl rfl ?_
      refine ml_aload_n (q := 1) F dX0_copyEvents_13 rfl rfl ?_
      refine ml_get (v := ml_rf g (ml_fl j + 13)) F (pf12 g hj) rfl iaX0 0 (by decide) lkX0_9 rfl rfl dX0_copyEvents_14 ?_
      refine ml_iload_n (q := 2) F dX0_copyEvents_17 rfl rfl ?_
      refine ml_cald F (pf13 g hj) h dX0_copyEvents_18 (fun h => ?_)
      refine ml_cast F (pf13 g hi) h dX0_copyEvents_19 (fun h => ?_)
      refine ml_ltM h (fun M3 _ h => ?_)
      refine ml_aload_n (q := 0) F dX0_copyEvents_20 rfl rfl ?_
      refine ml_get (v := ml_rf g (ml_fl i + 14)) F (pf12 g hi) rfl iaX0 1 (by decide) lkX0_15 rfl rfl dX0_copyEvents_21 ?_
      refine ml_iload_n (q := 2) F dX0_copyEvents_24 rfl rfl ?_
      refine ml_aload_n (q := 1) F dX0_copyEvents_25 rfl rfl ?_
      refine ml_get (v := ml_rf g (ml_fl j + 14)) F (pf12 g hj) rfl iaX0 1 (by decide) lkX0_15 rfl rfl dX0_copyEvents_26 ?_
      refine ml_iload_n (q := 2) F dX0_copyEvents_29 rfl rfl ?_
      refine ml_iald F (pf14 g hj) h dX0_copyEvents_30 (fun h => ?_)
      refine ml_iast F (pf14 g hi) h dX0_copyEvents_31 (fun h => ?_)
      refine ml_ltM h (fun M4 _ h => ?_)
      refine ml_iinc (q := 2) (v := x2 + 1) (ls2 := [(2, .int (x2 + 1)), (0, ml_rf g (ml_fl i + 12)), (1, ml_rf g (ml_fl j + 12))]) F dX0_copyEvents_32 rfl rfl (by decide) rfl ?_
      refine ml_goto (tgt := 2) F dX0_copyEvents_35 (by decide) ?_
      exact ml_sub [1, 2, 0] rfl (ih _ _ h)
set_option maxRecDepth 100000 in
def fX0_copyEvents (i : Nat) (j : Nat) (M : ml_M) : Option ml_R :=
  fX0_copyEvents_l i j ml_fuel 0 M
set_option maxHeartbeats 4000000 in
set_option maxRecDepth 100000 in
theorem fX0_copyEvents_c (i : Nat) (j : Nat) (M : ml_M) (res : ml_R) (hi : i < 11) (hj : j < 11) {g : ml_G} (hst : g.2.2.2.2.2.stackTraces = false) (h : fX0_copyEvents i j M = some res) : ml_C yX0_copyEvents cX0_copyEvents 3 none 1 0 0 g (fun _ _ => none) [ml_rf g (ml_fl i + 12), ml_rf g (ml_fl j + 12)] M res := by
  refine ml_of [(0, ml_rf g (ml_fl i + 12)), (1, ml_rf g (ml_fl j + 12))] hst (by decide) (Nat.le_of_ble_eq_true rfl) rfl (fun E F => ?_)
  unfold fX0_copyEvents at h
  refine ml_iconst (v := 0) F dX0_copyEvents_0 (by decide) ?_
  refine ml_istore_n (ls2 := [(2, .int 0), (0, ml_rf g (ml_fl i + 12)), (1, ml_rf g (ml_fl j + 12))]) F dX0_copyEvents_1 rfl (by decide) rfl ?_
  exact ml_sub [1, 2, 0] rfl ((fX0_copyEvents_w i j hi hj F ml_fuel) _ _ h)
set_option maxRecDepth 100000 in
def fX2_copyFrom (i : Nat) (j : Nat) (M : ml_M) : Option ml_R :=
  ml_bd (fX5_copyWater i j M) (fun r1 M2 => ml_bd (fX1_copyFleet i j M2) (fun r3 M4 => ml_bd (fX0_copyEvents i j M4) (fun r5 M6 => ml_lt (ml_w M6 (ml_fl i) 3 (M6 (ml_fl j) 3)) (fun M7 => some (.inl 0, M7)))))
set_option maxHeartbeats 4000000 in
set_option maxRecDepth 100000 in
theorem fX2_copyFrom_c (i : Nat) (j : Nat) (M : ml_M) (res : ml_R) (hi : i < 11) (hj : j < 11) {g : ml_G} (hst : g.2.2.2.2.2.stackTraces = false) (h : fX2_copyFrom i j M = some res) : ml_C yX2_copyFrom cX2_copyFrom 2 none 3 0 0 g (fun _ _ => none) [ml_rf g (ml_fl i), ml_rf g (ml_fl j)] M res := by
  refine ml_of [(0, ml_rf g (ml_fl i)), (1, ml_rf g (ml_fl j))] hst (by decide) (Nat.le_of_ble_eq_true rfl) rfl (fun E F => ?_)
  unfold fX2_copyFrom at h
  refine ml_aload_n (q := 0) F dX2_copyFrom_0 rfl rfl ?_
  refine ml_get (v := ml_rf g (ml_fl i + 1)) F (pf0 g hi) rfl iaX2 0 (by decide) lkX2_12 rfl rfl dX2_copyFrom_1 ?_
  refine ml_aload_n (q := 1) F dX2_copyFrom_4 rfl rfl ?_
  refine ml_get (v := ml_rf g (ml_fl j + 1)) F (pf0 g hj) rfl iaX2 0 (by decide) lkX2_12 rfl rfl dX2_copyFrom_5 ?_
  refine ml_callV (av := [ml_rf g (ml_fl j + 1)]) (T := TX5) (N := 8) F (pf1 g hi) rfl h (fun rs h9 => fX5_copyWater_c i j M rs hi hj hst h9) wcX5_copyWater mlX2_36 wdX5_copyWater (by decide) (by decide) (by decide) rfl seX5_copyWater imX5_copyWater rfl (Nat.le_of_ble_eq_true rfl) dX2_copyFrom_8 (fun r1 M2 h => ?_)
  refine ml_aload_n (q := 0) F dX2_copyFrom_11 rfl rfl ?_
  refine ml_get (v := ml_rf g (ml_fl i + 5)) F (pf0 g hi) rfl iaX2 1 (by decide) lkX2_21 rfl rfl dX2_copyFrom_12 ?_
  refine ml_aload_n (q := 1) F dX2_copyFrom_15 rfl rfl ?_
  refine ml_get (v := ml_rf g (ml_fl j + 5)) F (pf0 g hj) rfl iaX2 1 (by decide) lkX2_21 rfl rfl dX2_copyFrom_16 ?_
  refine ml_callV (av := [ml_rf g (ml_fl j + 5)]) (T := TX1) (N := 8) F (pf5 g hi) rfl h (fun rs h9 => fX1_copyFleet_c i j M2 rs hi hj hst h9) wcX1_copyFleet mlX2_40 wdX1_copyFleet (by decide) (by decide) (by decide) rfl seX1_copyFleet imX1_copyFleet rfl (Nat.le_of_ble_eq_true rfl) dX2_copyFrom_19 (fun r3 M4 h => ?_)
  refine ml_aload_n (q := 0) F dX2_copyFrom_22 rfl rfl ?_
  refine ml_get (v := ml_rf g (ml_fl i + 12)) F (pf0 g hi) rfl iaX2 2 (by decide) lkX2_28 rfl rfl dX2_copyFrom_23 ?_
  refine ml_aload_n (q := 1) F dX2_copyFrom_26 rfl rfl ?_
  refine ml_get (v := ml_rf g (ml_fl j + 12)) F (pf0 g hj) rfl iaX2 2 (by decide) lkX2_28 rfl rfl dX2_copyFrom_27 ?_
  refine ml_callV (av := [ml_rf g (ml_fl j + 12)]) (T := TX0) (N := 4) F (pf12 g hi) rfl h (fun rs h9 => fX0_copyEvents_c i j M4 rs hi hj hst h9) wcX0_copyEvents mlX2_44 wdX0_copyEvents (by decide) (by decide) (by decide) rfl seX0_copyEvents imX0_copyEvents rfl (Nat.le_of_ble_eq_true rfl) dX2_copyFrom_30 (fun r5 M6 h => ?_)
  refine ml_aload_n (q := 0) F dX2_copyFrom_33 rfl rfl ?_
  refine ml_aload_n (q := 1) F dX2_copyFrom_34 rfl rfl ?_
  refine ml_get (v := .int (M6 (ml_fl j) 3)) F (pf0 g hj) rfl iaX2 3 (by decide) lkX2_32 rfl rfl dX2_copyFrom_35 ?_
  refine ml_set F (pf0 g hi) rfl iaX2 tyX2_ok nmX2 3 (by decide) lkX2_32 rfl rfl rfl rfl rfl (Nat.le_of_ble_eq_true rfl) (fun m => by simp [upd]) dX2_copyFrom_38 ?_
  refine ml_ltM h (fun M7 _ h => ?_)
  exact ml_vret (st := []) F (Option.some.inj h) rfl rfl (by decide) (by decide) dX2_copyFrom_41
set_option maxRecDepth 100000 in
def fX3_push (j : Nat) (M : ml_M) : Option ml_R :=
  if ml_ok (M 1 1) 8 then ml_bd (fX2_copyFrom (3 + (M 1 1).toNatClampNeg) j M) (fun r2 M3 => ml_lt (ml_w M3 1 1 (((M3 1 1) + 1) - ((M3 1 1) + 1) / 8 * 8)) (fun M4 => ml_lt (ml_w M4 1 2 (if 8 < ((M4 1 2) + 1) then 8 else ((M4 1 2) + 1))) (fun M5 => some (.inl 0, M5)))) else none
set_option maxHeartbeats 4000000 in
set_option maxRecDepth 100000 in
theorem fX3_push_c (j : Nat) (M : ml_M) (res : ml_R) (hj : j < 11) {g : ml_G} (hst : g.2.2.2.2.2.stackTraces = false) (h : fX3_push j M = some res) : ml_C yX3_push cX3_push 2 none 4 0 0 g (fun _ _ => none) [ml_rf g 1, ml_rf g (ml_fl j)] M res := by
  refine ml_of [(0, ml_rf g 1), (1, ml_rf g (ml_fl j))] hst (by decide) (Nat.le_of_ble_eq_true rfl) rfl (fun E F => ?_)
  unfold fX3_push at h
  refine ml_aload_n (q := 0) F dX3_push_0 rfl rfl ?_
  refine ml_get (v := ml_rf g 2) F (pc1 g) rfl iaX3 0 (by decide) lkX3_11 rfl rfl dX3_push_1 ?_
  refine ml_aload_n (q := 0) F dX3_push_4 rfl rfl ?_
  refine ml_get (v := .int (M 1 1)) F (pc1 g) rfl iaX3 1 (by decide) lkX3_17 rfl rfl dX3_push_5 ?_
  have q1 := (ml_if h).1
  have h8 : 3 + (M 1 1).toNatClampNeg < 11 := by have := q1.2; omega
  refine ml_aald F h dX3_push_8 (fun h => ?_)
  refine ml_aload_n (q := 1) F dX3_push_9 rfl rfl ?_
  refine ml_callV (av := [ml_rf g (ml_fl j)]) (T := TX2) (N := 4) F (pf0 g h8) rfl h (fun rs h9 => fX2_copyFrom_c (3 + (M 1 1).toNatClampNeg) j M rs h8 hj hst h9) wcX2_copyFrom mlX3_25 wdX2_copyFrom (by decide) (by decide) (by decide) rfl seX2_copyFrom imX2_copyFrom rfl (Nat.le_of_ble_eq_true rfl) dX3_push_10 (fun r2 M3 h => ?_)
  refine ml_aload_n (q := 0) F dX3_push_13 rfl rfl ?_
  refine ml_aload_n (q := 0) F dX3_push_14 rfl rfl ?_
  refine ml_get (v := .int (M3 1 1)) F (pc1 g) rfl iaX3 1 (by decide) lkX3_17 rfl rfl dX3_push_15 ?_
  refine ml_iconst (v := 1) F dX3_push_18 (by decide) ?_
  refine ml_iadd F dX3_push_19 ?_
  refine ml_bipush (v := 8) F dX3_push_20 (by decide) ?_
  refine ml_irem F dX3_push_22 (by decide) ?_
  refine ml_set F (pc1 g) rfl iaX3 tyX3_ok nmX3 1 (by decide) lkX3_17 rfl rfl rfl rfl rfl (Nat.le_of_ble_eq_true rfl) (fun m => by simp [upd]) dX3_push_23 ?_
  refine ml_ltM h (fun M4 _ h => ?_)
  refine ml_aload_n (q := 0) F dX3_push_26 rfl rfl ?_
  refine ml_aload_n (q := 0) F dX3_push_27 rfl rfl ?_
  refine ml_get (v := .int (M4 1 2)) F (pc1 g) rfl iaX3 2 (by decide) lkX3_21 rfl rfl dX3_push_28 ?_
  refine ml_iconst (v := 1) F dX3_push_31 (by decide) ?_
  refine ml_iadd F dX3_push_32 ?_
  refine ml_bipush (v := 8) F dX3_push_33 (by decide) ?_
  refine ml_min F mlX3_29 mnst mnin mnco dX3_push_35 (Nat.le_of_ble_eq_true rfl) (by decide) (by decide) ?_
  refine ml_set F (pc1 g) rfl iaX3 tyX3_ok nmX3 2 (by decide) lkX3_21 rfl rfl rfl rfl rfl (Nat.le_of_ble_eq_true rfl) (fun m => by simp [upd]) dX3_push_38 ?_
  refine ml_ltM h (fun M5 _ h => ?_)
  exact ml_vret (st := []) F (Option.some.inj h) rfl rfl (by decide) (by decide) dX3_push_41
set_option maxRecDepth 100000 in
def fX6_beginChange (a0 : Int32) (a1 : Int32) (a2 : Int32) (M : ml_M) : Option ml_R :=
  ml_bd (fX2_faultOf 0 a0 a1 a2 M) (fun r1 M2 => ml_bd (fX6_refuse r1 M2) (fun r3 M4 => ml_bd (fX3_push 0 M4) (fun r5 M6 => some (.inl 0, M6))))
set_option maxHeartbeats 4000000 in
set_option maxRecDepth 100000 in
theorem fX6_beginChange_c (a0 : Int32) (a1 : Int32) (a2 : Int32) (M : ml_M) (res : ml_R) {g : ml_G} (hst : g.2.2.2.2.2.stackTraces = false) (h : fX6_beginChange a0 a1 a2 M = some res) : ml_C yX6_beginChange cX6_beginChange 4 none 6 1 6 g (fun _ _ => none) [ml_rf g 0, .int a0, .int a1, .int a2] M res := by
  refine ml_of [(0, ml_rf g 0), (1, .int a0), (2, .int a1), (3, .int a2)] hst (by decide) (Nat.le_of_ble_eq_true rfl) rfl (fun E F => ?_)
  unfold fX6_beginChange at h
  refine ml_aload_n (q := 0) F dX6_beginChange_0 rfl rfl ?_
  refine ml_get (v := ml_rf g (ml_fl 0)) F (pc0 g) rfl iaX6 0 (by decide) lkX6_12 rfl rfl dX6_beginChange_1 ?_
  refine ml_iload_n (q := 1) F dX6_beginChange_4 rfl rfl ?_
  refine ml_iload_n (q := 2) F dX6_beginChange_5 rfl rfl ?_
  refine ml_iload_n (q := 3) F dX6_beginChange_6 rfl rfl ?_
  refine ml_callV (av := [.int a0, .int a1, .int a2]) (T := TX2) (N := 4) F (pf0 g (by decide : 0 < 11)) rfl h (fun rs h9 => fX2_faultOf_c 0 a0 a1 a2 M rs (by decide : 0 < 11) hst h9) wcX2_faultOf mlX6_288 wdX2_faultOf (by decide) (by decide) (by decide) rfl seX2_faultOf imX2_faultOf rfl (Nat.le_of_ble_eq_true rfl) dX6_beginChange_7 (fun r1 M2 h => ?_)
  refine ml_callS (av := [.int r1]) F h (fun rs h9 => fX6_refuse_c r1 M2 rs hst h9) wcX6_refuse mlX6_312 wdX6_refuse (by decide) (by decide) (by decide) rfl stX6_refuse rfl (Nat.le_of_ble_eq_true rfl) dX6_beginChange_10 (fun r3 M4 h => ?_)
  refine ml_aload_n (q := 0) F dX6_beginChange_13 rfl rfl ?_
  refine ml_get (v := ml_rf g 1) F (pc0 g) rfl iaX6 4 (by decide) lkX6_29 rfl rfl dX6_beginChange_14 ?_
  refine ml_aload_n (q := 0) F dX6_beginChange_17 rfl rfl ?_
  refine ml_get (v := ml_rf g (ml_fl 0)) F (pc0 g) rfl iaX6 0 (by decide) lkX6_12 rfl rfl dX6_beginChange_18 ?_
  refine ml_callV (av := [ml_rf g (ml_fl 0)]) (T := TX3) (N := 3) F (pc1 g) rfl h (fun rs h9 => fX3_push_c 0 M4 rs (by decide : 0 < 11) hst h9) wcX3_push mlX6_297 wdX3_push (by decide) (by decide) (by decide) rfl seX3_push imX3_push rfl (Nat.le_of_ble_eq_true rfl) dX6_beginChange_21 (fun r5 M6 h => ?_)
  exact ml_vret (st := []) F (Option.some.inj h) rfl rfl (by decide) (by decide) dX6_beginChange_24
set_option maxRecDepth 100000 in
def fX1_put (i : Nat) (a0 : Int32) (a1 : Int32) (a2 : Int32) (M : ml_M) : Option ml_R :=
  (if (M (ml_fl i + 5) 0) < 8 then if ml_ok (M (ml_fl i + 5) 0) 8 then ml_lt (ml_w M (ml_fl i + 6) (M (ml_fl i + 5) 0).toNatClampNeg a0) (fun M1 => if ml_ok (M1 (ml_fl i + 5) 0) 8 then ml_lt (ml_w M1 (ml_fl i + 7) (M1 (ml_fl i + 5) 0).toNatClampNeg a1) (fun M2 => if ml_ok (M2 (ml_fl i + 5) 0) 8 then ml_lt (ml_w M2 (ml_fl i + 8) (M2 (ml_fl i + 5) 0).toNatClampNeg (vp_nar .boolean a2)) (fun M3 => ml_jn (fun (y4 : Int32) => if ml_ok (M3 (ml_fl i + 5) 0) 8 then ml_lt (ml_w M3 (ml_fl i + 9) (M3 (ml_fl i + 5) 0).toNatClampNeg y4) (fun M7 => if ml_ok (M7 (ml_fl i + 5) 0) 8 then ml_lt (ml_w M7 (ml_fl i + 10) (M7 (ml_fl i + 5) 0).toNatClampNeg (M7 (ml_fl i + 5) 1)) (fun M8 => ml_lt (ml_w M8 (ml_fl i + 5) 1 ((M8 (ml_fl i + 5) 1) + 1)) (fun M9 => ml_lt (ml_w M9 (ml_fl i + 5) 0 ((M9 (ml_fl i + 5) 0) + 1)) (fun M10 => some (.inl ((M10 (ml_fl i + 5) 0) - 1), M10)))) else none) else none) (fun B5 => (if a2 = 0 then B5 4 else B5 0))) else none) else none) else none else some (.inl (-1), M))
set_option maxHeartbeats 4000000 in
set_option maxRecDepth 100000 in
theorem fX1_put_c (i : Nat) (a0 : Int32) (a1 : Int32) (a2 : Int32) (M : ml_M) (res : ml_R) (hi : i < 11) {g : ml_G} (hst : g.2.2.2.2.2.stackTraces = false) (h : fX1_put i a0 a1 a2 M = some res) : ml_C yX1_put cX1_put 4 (some .int) 1 0 0 g (fun r _ => some (.int r)) [ml_rf g (ml_fl i + 5), .int a0, .int a1, .int a2] M res := by
  refine ml_of [(0, ml_rf g (ml_fl i + 5)), (1, .int a0), (2, .int a1), (3, .int a2)] hst (by decide) (Nat.le_of_ble_eq_true rfl) rfl (fun E F => ?_)
  unfold fX1_put at h
  refine ml_aload_n (q := 0) F dX1_put_0 rfl rfl ?_
  refine ml_get (v := .int (M (ml_fl i + 5) 0)) F (pf5 g hi) rfl iaX1 0 (by decide) lkX1_9 rfl rfl dX1_put_1 ?_
  refine ml_bipush (v := 8) F dX1_put_4 (by decide) ?_
  refine ml_icmp_lt (tgt := 11) F dX1_put_6 (by decide) h (fun _ h => ?_) (fun _ h => ?_)
  · refine ml_aload_n (q := 0) F dX1_put_11 rfl rfl ?_
    refine ml_get (v := ml_rf g (ml_fl i + 6)) F (pf5 g hi) rfl iaX1 2 (by decide) lkX1_18 rfl rfl dX1_put_12 ?_
    refine ml_aload_n (q := 0) F dX1_put_15 rfl rfl ?_
    refine ml_get (v := .int (M (ml_fl i + 5) 0)) F (pf5 g hi) rfl iaX1 0 (by decide) lkX1_9 rfl rfl dX1_put_16 ?_
    refine ml_iload_n (q := 1) F dX1_put_19 rfl rfl ?_
    refine ml_iast F (pf6 g hi) h dX1_put_20 (fun h => ?_)
    refine ml_ltM h (fun M1 _ h => ?_)
    refine ml_aload_n (q := 0) F dX1_put_21 rfl rfl ?_
    refine ml_get (v := ml_rf g (ml_fl i + 7)) F (pf5 g hi) rfl iaX1 3 (by decide) lkX1_22 rfl rfl dX1_put_22 ?_
    refine ml_aload_n (q := 0) F dX1_put_25 rfl rfl ?_
    refine ml_get (v := .int (M1 (ml_fl i + 5) 0)) F (pf5 g hi) rfl iaX1 0 (by decide) lkX1_9 rfl rfl dX1_put_26 ?_
    refine ml_iload_n (q := 2) F dX1_put_29 rfl rfl ?_
    refine ml_iast F (pf7 g hi) h dX1_put_30 (fun h => ?_)
    refine ml_ltM h (fun M2 _ h => ?_)
    refine ml_aload_n (q := 0) F dX1_put_31 rfl rfl ?_
    refine ml_get (v := ml_rf g (ml_fl i + 8)) F (pf5 g hi) rfl iaX1 4 (by decide) lkX1_25 rfl rfl dX1_put_32 ?_
    refine ml_aload_n (q := 0) F dX1_put_35 rfl rfl ?_
    refine ml_get (v := .int (M2 (ml_fl i + 5) 0)) F (pf5 g hi) rfl iaX1 0 (by decide) lkX1_9 rfl rfl dX1_put_36 ?_
    refine ml_iload_n (q := 3) F dX1_put_39 rfl rfl ?_
    refine ml_zast F (pf8 g hi) h dX1_put_40 (fun h => ?_)
    refine ml_ltM h (fun M3 _ h => ?_)
    refine ml_aload_n (q := 0) F dX1_put_41 rfl rfl ?_
    refine ml_get (v := ml_rf g (ml_fl i + 9)) F (pf5 g hi) rfl iaX1 5 (by decide) lkX1_29 rfl rfl dX1_put_42 ?_
    refine ml_aload_n (q := 0) F dX1_put_45 rfl rfl ?_
    refine ml_get (v := .int (M3 (ml_fl i + 5) 0)) F (pf5 g hi) rfl iaX1 0 (by decide) lkX1_9 rfl rfl dX1_put_46 ?_
    refine ml_iload_n (q := 3) F dX1_put_49 rfl rfl ?_
    refine ml_jnR (P := fun B => ∀ (y4 : Int32), B y4 = some res → ml_J E g 4 (ml_Z E g (fun r _ => some (.int r)) res 0 0) (0) (0) 58 [(0, ml_rf g (ml_fl i + 5)), (1, .int a0), (2, .int a1), (3, .int a2)] (.int y4 :: .int (M3 (ml_fl i + 5) 0) :: ml_rf g (ml_fl i + 9) :: []) M3) h ?_ (fun jn6 h => ?_)
    · intro y4 h
      dsimp only at h
      refine ml_iast F (pf9 g hi) h dX1_put_58 (fun h => ?_)
      refine ml_ltM h (fun M7 _ h => ?_)
      refine ml_aload_n (q := 0) F dX1_put_59 rfl rfl ?_
      refine ml_get (v := ml_rf g (ml_fl i + 10)) F (pf5 g hi) rfl iaX1 6 (by decide) lkX1_32 rfl rfl dX1_put_60 ?_
      refine ml_aload_n (q := 0) F dX1_put_63 rfl rfl ?_
      refine ml_get (v := .int (M7 (ml_fl i + 5) 0)) F (pf5 g hi) rfl iaX1 0 (by decide) lkX1_9 rfl rfl dX1_put_64 ?_
      refine ml_aload_n (q := 0) F dX1_put_67 rfl rfl ?_
      refine ml_get (v := .int (M7 (ml_fl i + 5) 1)) F (pf5 g hi) rfl iaX1 1 (by decide) lkX1_15 rfl rfl dX1_put_68 ?_
      refine ml_iast F (pf10 g hi) h dX1_put_71 (fun h => ?_)
      refine ml_ltM h (fun M8 _ h => ?_)
      refine ml_aload_n (q := 0) F dX1_put_72 rfl rfl ?_
      refine ml_dup F dX1_put_73 rfl ?_
      refine ml_get (v := .int (M8 (ml_fl i + 5) 1)) F (pf5 g hi) rfl iaX1 1 (by decide) lkX1_15 rfl rfl dX1_put_74 ?_
      refine ml_iconst (v := 1) F dX1_put_77 (by decide) ?_
      refine ml_iadd F dX1_put_78 ?_
      refine ml_set F (pf5 g hi) rfl iaX1 tyX1_ok nmX1 1 (by decide) lkX1_15 rfl rfl rfl rfl rfl (Nat.le_of_ble_eq_true rfl) (fun m => by simp [upd]) dX1_put_79 ?_
      refine ml_ltM h (fun M9 _ h => ?_)
      refine ml_aload_n (q := 0) F dX1_put_82 rfl rfl ?_
      refine ml_dup F dX1_put_83 rfl ?_
      refine ml_get (v := .int (M9 (ml_fl i + 5) 0)) F (pf5 g hi) rfl iaX1 0 (by decide) lkX1_9 rfl rfl dX1_put_84 ?_
      refine ml_iconst (v := 1) F dX1_put_87 (by decide) ?_
      refine ml_iadd F dX1_put_88 ?_
      refine ml_set F (pf5 g hi) rfl iaX1 tyX1_ok nmX1 0 (by decide) lkX1_9 rfl rfl rfl rfl rfl (Nat.le_of_ble_eq_true rfl) (fun m => by simp [upd]) dX1_put_89 ?_
      refine ml_ltM h (fun M10 _ h => ?_)
      refine ml_aload_n (q := 0) F dX1_put_92 rfl rfl ?_
      refine ml_get (v := .int (M10 (ml_fl i + 5) 0)) F (pf5 g hi) rfl iaX1 0 (by decide) lkX1_9 rfl rfl dX1_put_93 ?_
      refine ml_iconst (v := 1) F dX1_put_96 (by decide) ?_
      refine ml_isub F dX1_put_97 ?_
      exact ml_iret (st := []) F (Option.some.inj h) rfl rfl rfl (by decide) (by decide) dX1_put_98
    refine ml_if_eq (tgt := 57) F dX1_put_50 (by decide) h (fun _ h => ?_) (fun _ h => ?_)
    · refine ml_iconst (v := 4) F dX1_put_57 (by decide) ?_
      exact ml_sub [0, 1, 2, 3] rfl (jn6 _ h)
    · refine ml_iconst (v := 0) F dX1_put_53 (by decide) ?_
      refine ml_goto (tgt := 58) F dX1_put_54 (by decide) ?_
      exact ml_sub [0, 1, 2, 3] rfl (jn6 _ h)
  · refine ml_iconst (v := (-1)) F dX1_put_9 (by decide) ?_
    exact ml_iret (st := []) F (Option.some.inj h) rfl rfl rfl (by decide) (by decide) dX1_put_10
set_option maxRecDepth 100000 in
def fX2_turnValve (i : Nat) (a0 : Int32) (a1 : Int32) (M : ml_M) : Option ml_R :=
  if ml_ok a0 4 then ml_lt (M (ml_fl i + 3) a0.toNatClampNeg) (fun v1 => if ml_ok a0 4 then ml_lt (ml_w M (ml_fl i + 3) a0.toNatClampNeg a1) (fun M2 => some (.inl v1, M2)) else none) else none
set_option maxHeartbeats 4000000 in
set_option maxRecDepth 100000 in
theorem fX2_turnValve_c (i : Nat) (a0 : Int32) (a1 : Int32) (M : ml_M) (res : ml_R) (hi : i < 11) {g : ml_G} (hst : g.2.2.2.2.2.stackTraces = false) (h : fX2_turnValve i a0 a1 M = some res) : ml_C yX2_turnValve cX2_turnValve 4 (some .int) 1 0 0 g (fun r _ => some (.int r)) [ml_rf g (ml_fl i), .int a0, .int a1] M res := by
  refine ml_of [(0, ml_rf g (ml_fl i)), (1, .int a0), (2, .int a1)] hst (by decide) (Nat.le_of_ble_eq_true rfl) rfl (fun E F => ?_)
  unfold fX2_turnValve at h
  refine ml_aload_n (q := 0) F dX2_turnValve_0 rfl rfl ?_
  refine ml_get (v := ml_rf g (ml_fl i + 1)) F (pf0 g hi) rfl iaX2 0 (by decide) lkX2_12 rfl rfl dX2_turnValve_1 ?_
  refine ml_get (v := ml_rf g (ml_fl i + 3)) F (pf1 g hi) rfl iaX5 1 (by decide) lkX2_99 rfl rfl dX2_turnValve_4 ?_
  refine ml_iload_n (q := 1) F dX2_turnValve_7 rfl rfl ?_
  refine ml_iald F (pf3 g hi) h dX2_turnValve_8 (fun h => ?_)
  refine ml_ltI h (fun v1 _ h => ?_)
  refine ml_istore_n (ls2 := [(3, .int v1), (0, ml_rf g (ml_fl i)), (1, .int a0), (2, .int a1)]) F dX2_turnValve_9 rfl (by decide) rfl ?_
  refine ml_aload_n (q := 1) F dX2_turnValve_10 rfl rfl ?_
  refine ml_get (v := ml_rf g (ml_fl i + 1)) F (pf0 g hi) rfl iaX2 0 (by decide) lkX2_12 rfl rfl dX2_turnValve_11 ?_
  refine ml_get (v := ml_rf g (ml_fl i + 3)) F (pf1 g hi) rfl iaX5 1 (by decide) lkX2_99 rfl rfl dX2_turnValve_14 ?_
  refine ml_iload_n (q := 2) F dX2_turnValve_17 rfl rfl ?_
  refine ml_iload_n (q := 3) F dX2_turnValve_18 rfl rfl ?_
  refine ml_iast F (pf3 g hi) h dX2_turnValve_19 (fun h => ?_)
  refine ml_ltM h (fun M2 _ h => ?_)
  refine ml_iload_n (q := 0) F dX2_turnValve_20 rfl rfl ?_
  exact ml_iret (st := []) F (Option.some.inj h) rfl rfl rfl (by decide) (by decide) dX2_turnValve_21
set_option maxRecDepth 100000 in
def fX2_moveGate (i : Nat) (a0 : Int32) (a1 : Int32) (M : ml_M) : Option ml_R :=
  if ml_ok a0 4 then ml_lt (ml_w M (ml_fl i + 4) a0.toNatClampNeg (vp_nar .boolean a1)) (fun M1 => ml_bd (fX5_openGateCount i M1) (fun r2 M3 => some (.inl r2, M3))) else none
set_option maxHeartbeats 4000000 in
set_option maxRecDepth 100000 in
theorem fX2_moveGate_c (i : Nat) (a0 : Int32) (a1 : Int32) (M : ml_M) (res : ml_R) (hi : i < 11) {g : ml_G} (hst : g.2.2.2.2.2.stackTraces = false) (h : fX2_moveGate i a0 a1 M = some res) : ml_C yX2_moveGate cX2_moveGate 3 (some .int) 2 0 0 g (fun r _ => some (.int r)) [ml_rf g (ml_fl i), .int a0, .int a1] M res := by
  refine ml_of [(0, ml_rf g (ml_fl i)), (1, .int a0), (2, .int a1)] hst (by decide) (Nat.le_of_ble_eq_true rfl) rfl (fun E F => ?_)
  unfold fX2_moveGate at h
  refine ml_aload_n (q := 0) F dX2_moveGate_0 rfl rfl ?_
  refine ml_get (v := ml_rf g (ml_fl i + 1)) F (pf0 g hi) rfl iaX2 0 (by decide) lkX2_12 rfl rfl dX2_moveGate_1 ?_
  refine ml_get (v := ml_rf g (ml_fl i + 4)) F (pf1 g hi) rfl iaX5 2 (by decide) lkX2_72 rfl rfl dX2_moveGate_4 ?_
  refine ml_iload_n (q := 1) F dX2_moveGate_7 rfl rfl ?_
  refine ml_iload_n (q := 2) F dX2_moveGate_8 rfl rfl ?_
  refine ml_zast F (pf4 g hi) h dX2_moveGate_9 (fun h => ?_)
  refine ml_ltM h (fun M1 _ h => ?_)
  refine ml_aload_n (q := 0) F dX2_moveGate_10 rfl rfl ?_
  refine ml_get (v := ml_rf g (ml_fl i + 1)) F (pf0 g hi) rfl iaX2 0 (by decide) lkX2_12 rfl rfl dX2_moveGate_11 ?_
  refine ml_callV (av := []) (T := TX5) (N := 8) F (pf1 g hi) rfl h (fun rs h9 => fX5_openGateCount_c i M1 rs hi hst h9) wcX5_openGateCount mlX2_103 wdX5_openGateCount (by decide) (by decide) (by decide) rfl seX5_openGateCount imX5_openGateCount rfl (Nat.le_of_ble_eq_true rfl) dX2_moveGate_14 (fun r2 M3 h => ?_)
  exact ml_iret (st := []) F (Option.some.inj h) rfl rfl rfl (by decide) (by decide) dX2_moveGate_17
set_option maxRecDepth 100000 in
def fX2_changeRain (i : Nat) (a0 : Int32) (M : ml_M) : Option ml_R :=
  ml_lt (M (ml_fl i + 1) 3) (fun v1 => ml_lt (ml_w M (ml_fl i + 1) 3 a0) (fun M2 => some (.inl v1, M2)))
set_option maxHeartbeats 4000000 in
set_option maxRecDepth 100000 in
theorem fX2_changeRain_c (i : Nat) (a0 : Int32) (M : ml_M) (res : ml_R) (hi : i < 11) {g : ml_G} (hst : g.2.2.2.2.2.stackTraces = false) (h : fX2_changeRain i a0 M = some res) : ml_C yX2_changeRain cX2_changeRain 3 (some .int) 1 0 0 g (fun r _ => some (.int r)) [ml_rf g (ml_fl i), .int a0] M res := by
  refine ml_of [(0, ml_rf g (ml_fl i)), (1, .int a0)] hst (by decide) (Nat.le_of_ble_eq_true rfl) rfl (fun E F => ?_)
  unfold fX2_changeRain at h
  refine ml_aload_n (q := 0) F dX2_changeRain_0 rfl rfl ?_
  refine ml_get (v := ml_rf g (ml_fl i + 1)) F (pf0 g hi) rfl iaX2 0 (by decide) lkX2_12 rfl rfl dX2_changeRain_1 ?_
  refine ml_get (v := .int (M (ml_fl i + 1) 3)) F (pf1 g hi) rfl iaX5 3 (by decide) lkX2_107 rfl rfl dX2_changeRain_4 ?_
  refine ml_ltI h (fun v1 _ h => ?_)
  refine ml_istore_n (ls2 := [(2, .int v1), (0, ml_rf g (ml_fl i)), (1, .int a0)]) F dX2_changeRain_7 rfl (by decide) rfl ?_
  refine ml_aload_n (q := 1) F dX2_changeRain_8 rfl rfl ?_
  refine ml_get (v := ml_rf g (ml_fl i + 1)) F (pf0 g hi) rfl iaX2 0 (by decide) lkX2_12 rfl rfl dX2_changeRain_9 ?_
  refine ml_iload_n (q := 2) F dX2_changeRain_12 rfl rfl ?_
  refine ml_set F (pf1 g hi) rfl iaX5 tyX5_ok nmX5 3 (by decide) lkX2_107 rfl rfl rfl rfl rfl (Nat.le_of_ble_eq_true rfl) (fun m => by simp [upd]) dX2_changeRain_13 ?_
  refine ml_ltM h (fun M2 _ h => ?_)
  refine ml_iload_n (q := 0) F dX2_changeRain_16 rfl rfl ?_
  exact ml_iret (st := []) F (Option.some.inj h) rfl rfl rfl (by decide) (by decide) dX2_changeRain_17
set_option maxRecDepth 100000 in
def fX2_changeDrain (i : Nat) (a0 : Int32) (M : ml_M) : Option ml_R :=
  ml_lt (M (ml_fl i + 1) 4) (fun v1 => ml_lt (ml_w M (ml_fl i + 1) 4 a0) (fun M2 => some (.inl v1, M2)))
set_option maxHeartbeats 4000000 in
set_option maxRecDepth 100000 in
theorem fX2_changeDrain_c (i : Nat) (a0 : Int32) (M : ml_M) (res : ml_R) (hi : i < 11) {g : ml_G} (hst : g.2.2.2.2.2.stackTraces = false) (h : fX2_changeDrain i a0 M = some res) : ml_C yX2_changeDrain cX2_changeDrain 3 (some .int) 1 0 0 g (fun r _ => some (.int r)) [ml_rf g (ml_fl i), .int a0] M res := by
  refine ml_of [(0, ml_rf g (ml_fl i)), (1, .int a0)] hst (by decide) (Nat.le_of_ble_eq_true rfl) rfl (fun E F => ?_)
  unfold fX2_changeDrain at h
  refine ml_aload_n (q := 0) F dX2_changeDrain_0 rfl rfl ?_
  refine ml_get (v := ml_rf g (ml_fl i + 1)) F (pf0 g hi) rfl iaX2 0 (by decide) lkX2_12 rfl rfl dX2_changeDrain_1 ?_
  refine ml_get (v := .int (M (ml_fl i + 1) 4)) F (pf1 g hi) rfl iaX5 4 (by decide) lkX2_110 rfl rfl dX2_changeDrain_4 ?_
  refine ml_ltI h (fun v1 _ h => ?_)
  refine ml_istore_n (ls2 := [(2, .int v1), (0, ml_rf g (ml_fl i)), (1, .int a0)]) F dX2_changeDrain_7 rfl (by decide) rfl ?_
  refine ml_aload_n (q := 1) F dX2_changeDrain_8 rfl rfl ?_
  refine ml_get (v := ml_rf g (ml_fl i + 1)) F (pf0 g hi) rfl iaX2 0 (by decide) lkX2_12 rfl rfl dX2_changeDrain_9 ?_
  refine ml_iload_n (q := 2) F dX2_changeDrain_12 rfl rfl ?_
  refine ml_set F (pf1 g hi) rfl iaX5 tyX5_ok nmX5 4 (by decide) lkX2_110 rfl rfl rfl rfl rfl (Nat.le_of_ble_eq_true rfl) (fun m => by simp [upd]) dX2_changeDrain_13 ?_
  refine ml_ltM h (fun M2 _ h => ?_)
  refine ml_iload_n (q := 0) F dX2_changeDrain_16 rfl rfl ?_
  exact ml_iret (st := []) F (Option.some.inj h) rfl rfl rfl (by decide) (by decide) dX2_changeDrain_17
set_option maxRecDepth 100000 in
def fX0_note (i : Nat) (a0 : Int32) (a1 : Int32) (M : ml_M) : Option ml_R :=
  if ml_ok (M (ml_fl i + 12) 2) 8 then ml_lt (ml_w M (ml_fl i + 13) (M (ml_fl i + 12) 2).toNatClampNeg (vp_nar .char a0)) (fun M1 => if ml_ok (M1 (ml_fl i + 12) 2) 8 then ml_lt (ml_w M1 (ml_fl i + 14) (M1 (ml_fl i + 12) 2).toNatClampNeg a1) (fun M2 => ml_lt (ml_w M2 (ml_fl i + 12) 2 (((M2 (ml_fl i + 12) 2) + 1) - ((M2 (ml_fl i + 12) 2) + 1) / 8 * 8)) (fun M3 => ml_lt (ml_w M3 (ml_fl i + 12) 3 (if 8 < ((M3 (ml_fl i + 12) 3) + 1) then 8 else ((M3 (ml_fl i + 12) 3) + 1))) (fun M4 => some (.inl 0, M4)))) else none) else none
set_option maxHeartbeats 4000000 in
set_option maxRecDepth 100000 in
theorem fX0_note_c (i : Nat) (a0 : Int32) (a1 : Int32) (M : ml_M) (res : ml_R) (hi : i < 11) {g : ml_G} (hst : g.2.2.2.2.2.stackTraces = false) (h : fX0_note i a0 a1 M = some res) : ml_C yX0_note cX0_note 3 none 1 0 0 g (fun _ _ => none) [ml_rf g (ml_fl i + 12), .int a0, .int a1] M res := by
  refine ml_of [(0, ml_rf g (ml_fl i + 12)), (1, .int a0), (2, .int a1)] hst (by decide) (Nat.le_of_ble_eq_true rfl) rfl (fun E F => ?_)
  unfold fX0_note at h
  refine ml_aload_n (q := 0) F dX0_note_0 rfl rfl ?_
  refine ml_get (v := ml_rf g (ml_fl i + 13)) F (pf12 g hi) rfl iaX0 0 (by decide) lkX0_9 rfl rfl dX0_note_1 ?_
  refine ml_aload_n (q := 0) F dX0_note_4 rfl rfl ?_
  refine ml_get (v := .int (M (ml_fl i + 12) 2)) F (pf12 g hi) rfl iaX0 2 (by decide) lkX0_19 rfl rfl dX0_note_5 ?_
  refine ml_iload_n (q := 1) F dX0_note_8 rfl rfl ?_
  refine ml_cast F (pf13 g hi) h dX0_note_9 (fun h => ?_)
  refine ml_ltM h (fun M1 _ h => ?_)
  refine ml_aload_n (q := 0) F dX0_note_10 rfl rfl ?_
  refine ml_get (v := ml_rf g (ml_fl i + 14)) F (pf12 g hi) rfl iaX0 1 (by decide) lkX0_15 rfl rfl dX0_note_11 ?_
  refine ml_aload_n (q := 0) F dX0_note_14 rfl rfl ?_
  refine ml_get (v := .int (M1 (ml_fl i + 12) 2)) F (pf12 g hi) rfl iaX0 2 (by decide) lkX0_19 rfl rfl dX0_note_15 ?_
  refine ml_iload_n (q := 2) F dX0_note_18 rfl rfl ?_
  refine ml_iast F (pf14 g hi) h dX0_note_19 (fun h => ?_)
  refine ml_ltM h (fun M2 _ h => ?_)
  refine ml_aload_n (q := 0) F dX0_note_20 rfl rfl ?_
  refine ml_aload_n (q := 0) F dX0_note_21 rfl rfl ?_
  refine ml_get (v := .int (M2 (ml_fl i + 12) 2)) F (pf12 g hi) rfl iaX0 2 (by decide) lkX0_19 rfl rfl dX0_note_22 ?_
  refine ml_iconst (v := 1) F dX0_note_25 (by decide) ?_
  refine ml_iadd F dX0_note_26 ?_
  refine ml_bipush (v := 8) F dX0_note_27 (by decide) ?_
  refine ml_irem F dX0_note_29 (by decide) ?_
  refine ml_set F (pf12 g hi) rfl iaX0 tyX0_ok nmX0 2 (by decide) lkX0_19 rfl rfl rfl rfl rfl (Nat.le_of_ble_eq_true rfl) (fun m => by simp [upd]) dX0_note_30 ?_
  refine ml_ltM h (fun M3 _ h => ?_)
  refine ml_aload_n (q := 0) F dX0_note_33 rfl rfl ?_
  refine ml_aload_n (q := 0) F dX0_note_34 rfl rfl ?_
  refine ml_get (v := .int (M3 (ml_fl i + 12) 3)) F (pf12 g hi) rfl iaX0 3 (by decide) lkX0_23 rfl rfl dX0_note_35 ?_
  refine ml_iconst (v := 1) F dX0_note_38 (by decide) ?_
  refine ml_iadd F dX0_note_39 ?_
  refine ml_bipush (v := 8) F dX0_note_40 (by decide) ?_
  refine ml_min F mlX0_26 mnst mnin mnco dX0_note_42 (Nat.le_of_ble_eq_true rfl) (by decide) (by decide) ?_
  refine ml_set F (pf12 g hi) rfl iaX0 tyX0_ok nmX0 3 (by decide) lkX0_23 rfl rfl rfl rfl rfl (Nat.le_of_ble_eq_true rfl) (fun m => by simp [upd]) dX0_note_45 ?_
  refine ml_ltM h (fun M4 _ h => ?_)
  exact ml_vret (st := []) F (Option.some.inj h) rfl rfl (by decide) (by decide) dX0_note_48
set_option maxRecDepth 100000 in
def fX2_passWeather (i : Nat) (M : ml_M) : Option ml_R :=
  ml_bd (fX5_letRain i M) (fun r1 M2 => ml_jn (fun (M3 : ml_M) => ml_bd (fX5_letDrain i M3) (fun r6 M7 => some (.inl 0, M7))) (fun B4 => (if r1 ≤ 0 then B4 M2 else ml_bd (fX0_note i 115 r1 M2) (fun r8 M9 => B4 M9))))
set_option maxHeartbeats 4000000 in
set_option maxRecDepth 100000 in
theorem fX2_passWeather_c (i : Nat) (M : ml_M) (res : ml_R) (hi : i < 11) {g : ml_G} (hst : g.2.2.2.2.2.stackTraces = false) (h : fX2_passWeather i M = some res) : ml_C yX2_passWeather cX2_passWeather 2 none 2 0 0 g (fun _ _ => none) [ml_rf g (ml_fl i)] M res := by
  refine ml_of [(0, ml_rf g (ml_fl i))] hst (by decide) (Nat.le_of_ble_eq_true rfl) rfl (fun E F => ?_)
  unfold fX2_passWeather at h
  refine ml_aload_n (q := 0) F dX2_passWeather_0 rfl rfl ?_
  refine ml_get (v := ml_rf g (ml_fl i + 1)) F (pf0 g hi) rfl iaX2 0 (by decide) lkX2_12 rfl rfl dX2_passWeather_1 ?_
  refine ml_callV (av := []) (T := TX5) (N := 8) F (pf1 g hi) rfl h (fun rs h9 => fX5_letRain_c i M rs hi hst h9) wcX5_letRain mlX2_129 wdX5_letRain (by decide) (by decide) (by decide) rfl seX5_letRain imX5_letRain rfl (Nat.le_of_ble_eq_true rfl) dX2_passWeather_4 (fun r1 M2 h => ?_)
  refine ml_istore_n (ls2 := [(1, .int r1), (0, ml_rf g (ml_fl i))]) F dX2_passWeather_7 rfl (by decide) rfl ?_
  refine ml_iload_n (q := 0) F dX2_passWeather_8 rfl rfl ?_
  refine ml_jnR (P := fun B => ∀ (M3 : ml_M), B M3 = some res → ml_J E g 2 (ml_Z E g (fun _ _ => none) res 0 0) (0 + 0) (0 + 0) 22 [(0, ml_rf g (ml_fl i)), (1, .int r1)] ([]) M3) h ?_ (fun jn5 h => ?_)
  · intro M3 h
    dsimp only at h
    refine ml_aload_n (q := 0) F dX2_passWeather_22 rfl rfl ?_
    refine ml_get (v := ml_rf g (ml_fl i + 1)) F (pf0 g hi) rfl iaX2 0 (by decide) lkX2_12 rfl rfl dX2_passWeather_23 ?_
    refine ml_callV (av := []) (T := TX5) (N := 8) F (pf1 g hi) rfl h (fun rs h9 => fX5_letDrain_c i M3 rs hi hst h9) wcX5_letDrain mlX2_136 wdX5_letDrain (by decide) (by decide) (by decide) rfl seX5_letDrain imX5_letDrain rfl (Nat.le_of_ble_eq_true rfl) dX2_passWeather_26 (fun r6 M7 h => ?_)
    exact ml_vret (st := []) F (Option.some.inj h) rfl rfl (by decide) (by decide) dX2_passWeather_29
  refine ml_if_le (tgt := 22) F dX2_passWeather_9 (by decide) h (fun _ h => ?_) (fun _ h => ?_)
  · exact ml_sub [1, 0] rfl (jn5 _ h)
  · refine ml_aload_n (q := 1) F dX2_passWeather_12 rfl rfl ?_
    refine ml_get (v := ml_rf g (ml_fl i + 12)) F (pf0 g hi) rfl iaX2 2 (by decide) lkX2_28 rfl rfl dX2_passWeather_13 ?_
    refine ml_bipush (v := 115) F dX2_passWeather_16 (by decide) ?_
    refine ml_iload_n (q := 0) F dX2_passWeather_18 rfl rfl ?_
    refine ml_callV (av := [.int 115, .int r1]) (T := TX0) (N := 4) F (pf12 g hi) rfl h (fun rs h9 => fX0_note_c i 115 r1 M2 rs hi hst h9) wcX0_note mlX2_132 wdX0_note (by decide) (by decide) (by decide) rfl seX0_note imX0_note rfl (Nat.le_of_ble_eq_true rfl) dX2_passWeather_19 (fun r8 M9 h => ?_)
    exact ml_sub [1, 0] rfl (jn5 _ h)
set_option maxRecDepth 100000 in
def fX1_gateAhead (i : Nat) (a0 : Int32) (M : ml_M) : Option ml_R :=
  if ml_ok a0 8 then ml_jn (fun (y1 : Int32) => some (.inl y1, M)) (fun B2 => (if (M (ml_fl i + 8) a0.toNatClampNeg) = 0 then if ml_ok a0 8 then B2 ((M (ml_fl i + 9) a0.toNatClampNeg) - 1) else none else if ml_ok a0 8 then B2 (M (ml_fl i + 9) a0.toNatClampNeg) else none)) else none
set_option maxHeartbeats 4000000 in
set_option maxRecDepth 100000 in
theorem fX1_gateAhead_c (i : Nat) (a0 : Int32) (M : ml_M) (res : ml_R) (hi : i < 11) {g : ml_G} (hst : g.2.2.2.2.2.stackTraces = false) (h : fX1_gateAhead i a0 M = some res) : ml_C yX1_gateAhead cX1_gateAhead 2 (some .int) 1 0 0 g (fun r _ => some (.int r)) [ml_rf g (ml_fl i + 5), .int a0] M res := by
  refine ml_of [(0, ml_rf g (ml_fl i + 5)), (1, .int a0)] hst (by decide) (Nat.le_of_ble_eq_true rfl) rfl (fun E F => ?_)
  unfold fX1_gateAhead at h
  refine ml_aload_n (q := 0) F dX1_gateAhead_0 rfl rfl ?_
  refine ml_get (v := ml_rf g (ml_fl i + 8)) F (pf5 g hi) rfl iaX1 4 (by decide) lkX1_25 rfl rfl dX1_gateAhead_1 ?_
  refine ml_iload_n (q := 1) F dX1_gateAhead_4 rfl rfl ?_
  refine ml_zald F (pf8 g hi) h dX1_gateAhead_5 (fun h => ?_)
  refine ml_jnR (P := fun B => ∀ (y1 : Int32), B y1 = some res → ml_J E g 2 (ml_Z E g (fun r _ => some (.int r)) res 0 0) (0) (0) 26 [(0, ml_rf g (ml_fl i + 5)), (1, .int a0)] (.int y1 :: []) M) h ?_ (fun jn3 h => ?_)
  · intro y1 h
    dsimp only at h
    exact ml_iret (st := []) F (Option.some.inj h) rfl rfl rfl (by decide) (by decide) dX1_gateAhead_26
  refine ml_if_eq (tgt := 18) F dX1_gateAhead_6 (by decide) h (fun _ h => ?_) (fun _ h => ?_)
  · refine ml_aload_n (q := 0) F dX1_gateAhead_18 rfl rfl ?_
    refine ml_get (v := ml_rf g (ml_fl i + 9)) F (pf5 g hi) rfl iaX1 5 (by decide) lkX1_29 rfl rfl dX1_gateAhead_19 ?_
    refine ml_iload_n (q := 1) F dX1_gateAhead_22 rfl rfl ?_
    refine ml_iald F (pf9 g hi) h dX1_gateAhead_23 (fun h => ?_)
    refine ml_iconst (v := 1) F dX1_gateAhead_24 (by decide) ?_
    refine ml_isub F dX1_gateAhead_25 ?_
    exact ml_sub [0, 1] rfl (jn3 _ h)
  · refine ml_aload_n (q := 0) F dX1_gateAhead_9 rfl rfl ?_
    refine ml_get (v := ml_rf g (ml_fl i + 9)) F (pf5 g hi) rfl iaX1 5 (by decide) lkX1_29 rfl rfl dX1_gateAhead_10 ?_
    refine ml_iload_n (q := 1) F dX1_gateAhead_13 rfl rfl ?_
    refine ml_iald F (pf9 g hi) h dX1_gateAhead_14 (fun h => ?_)
    refine ml_goto (tgt := 26) F dX1_gateAhead_15 (by decide) ?_
    exact ml_sub [0, 1] rfl (jn3 _ h)
set_option maxRecDepth 100000 in
def fX1_basinAhead (i : Nat) (a0 : Int32) (M : ml_M) : Option ml_R :=
  if ml_ok a0 8 then ml_jn (fun (y1 : Int32) => some (.inl y1, M)) (fun B2 => (if (M (ml_fl i + 8) a0.toNatClampNeg) = 0 then if ml_ok a0 8 then B2 ((M (ml_fl i + 9) a0.toNatClampNeg) - 1) else none else if ml_ok a0 8 then B2 ((M (ml_fl i + 9) a0.toNatClampNeg) + 1) else none)) else none
set_option maxHeartbeats 4000000 in
set_option maxRecDepth 100000 in
theorem fX1_basinAhead_c (i : Nat) (a0 : Int32) (M : ml_M) (res : ml_R) (hi : i < 11) {g : ml_G} (hst : g.2.2.2.2.2.stackTraces = false) (h : fX1_basinAhead i a0 M = some res) : ml_C yX1_basinAhead cX1_basinAhead 2 (some .int) 1 0 0 g (fun r _ => some (.int r)) [ml_rf g (ml_fl i + 5), .int a0] M res := by
  refine ml_of [(0, ml_rf g (ml_fl i + 5)), (1, .int a0)] hst (by decide) (Nat.le_of_ble_eq_true rfl) rfl (fun E F => ?_)
  unfold fX1_basinAhead at h
  refine ml_aload_n (q := 0) F dX1_basinAhead_0 rfl rfl ?_
  refine ml_get (v := ml_rf g (ml_fl i + 8)) F (pf5 g hi) rfl iaX1 4 (by decide) lkX1_25 rfl rfl dX1_basinAhead_1 ?_
  refine ml_iload_n (q := 1) F dX1_basinAhead_4 rfl rfl ?_
  refine ml_zald F (pf8 g hi) h dX1_basinAhead_5 (fun h => ?_)
  refine ml_jnR (P := fun B => ∀ (y1 : Int32), B y1 = some res → ml_J E g 2 (ml_Z E g (fun r _ => some (.int r)) res 0 0) (0) (0) 28 [(0, ml_rf g (ml_fl i + 5)), (1, .int a0)] (.int y1 :: []) M) h ?_ (fun jn3 h => ?_)
  · intro y1 h
    dsimp only at h
    exact ml_iret (st := []) F (Option.some.inj h) rfl rfl rfl (by decide) (by decide) dX1_basinAhead_28
  refine ml_if_eq (tgt := 20) F dX1_basinAhead_6 (by decide) h (fun _ h => ?_) (fun _ h => ?_)
  · refine ml_aload_n (q := 0) F dX1_basinAhead_20 rfl rfl ?_
    refine ml_get (v := ml_rf g (ml_fl i + 9)) F (pf5 g hi) rfl iaX1 5 (by decide) lkX1_29 rfl rfl dX1_basinAhead_21 ?_
    refine ml_iload_n (q := 1) F dX1_basinAhead_24 rfl rfl ?_
    refine ml_iald F (pf9 g hi) h dX1_basinAhead_25 (fun h => ?_)
    refine ml_iconst (v := 1) F dX1_basinAhead_26 (by decide) ?_
    refine ml_isub F dX1_basinAhead_27 ?_
    exact ml_sub [0, 1] rfl (jn3 _ h)
  · refine ml_aload_n (q := 0) F dX1_basinAhead_9 rfl rfl ?_
    refine ml_get (v := ml_rf g (ml_fl i + 9)) F (pf5 g hi) rfl iaX1 5 (by decide) lkX1_29 rfl rfl dX1_basinAhead_10 ?_
    refine ml_iload_n (q := 1) F dX1_basinAhead_13 rfl rfl ?_
    refine ml_iald F (pf9 g hi) h dX1_basinAhead_14 (fun h => ?_)
    refine ml_iconst (v := 1) F dX1_basinAhead_15 (by decide) ?_
    refine ml_iadd F dX1_basinAhead_16 ?_
    refine ml_goto (tgt := 28) F dX1_basinAhead_17 (by decide) ?_
    exact ml_sub [0, 1] rfl (jn3 _ h)
set_option maxRecDepth 100000 in
def fX1_countIn_s0 (i : Nat) (a0 : Int32) (rec : Int32 → Int32 → Int32 → ml_M → Option ml_R) (x1 x2 x3 : Int32) (M : ml_M) : Option ml_R :=
  (if (M (ml_fl i + 5) 0) ≤ x3 then some (.inl x2, M) else if ml_ok x3 8 then ml_jn (fun (y1 : Int32) => rec x1 (x2 + y1) (x3 + 1) M) (fun B2 => (if (M (ml_fl i + 9) x3.toNatClampNeg) = x1 then B2 1 else B2 0)) else none)
def fX1_countIn_l (i : Nat) (a0 : Int32) : Nat → Int32 → Int32 → Int32 → ml_M → Option ml_R
  | 0 => fun _ _ _ _ => none
  | n + 1 => fX1_countIn_s0 i a0 (fX1_countIn_l i a0 n)
set_option maxHeartbeats 4000000 in
set_option maxRecDepth 100000 in
theorem fX1_countIn_w (i : Nat) (a0 : Int32) (hi : i < 11) {E : ml_E} {g : ml_G} {res : ml_R} (F : ml_F E g cX1_countIn yX1_countIn.cls 4 1 0 0 (some .int) []) : ∀ fuel : Nat, ∀ (x1 x2 x3 : Int32) (M : ml_M), fX1_countIn_l i a0 fuel x1 x2 x3 M = some res → ml_J E g 4 (ml_Z E g (fun r _ => some (.int r)) res 0 0) 0 0 4 [(0, ml_rf g (ml_fl i + 5)), (1, .int x1), (2, .int x2), (3, .int x3)] [] M := by
  have hst := ml_F_st F
  intro fuel
  induction fuel with
  | zero => intro _ _ _ _ h; exact nomatch (show (none : Option ml_R) = some res from h)
  | succ fuel ih =>
    intro x1 x2 x3 M h
    replace h : fX1_countIn_s0 i a0 (fX1_countIn_l i a0 fuel) x1 x2 x3 M = some res := h
    unfold fX1_countIn_s0 at h
    refine ml_iload_n (q := 3) F dX1_countIn_4 rfl rfl ?_
    refine ml_aload_n (q := 0) F dX1_countIn_5 rfl rfl ?_
    refine ml_get (v := .int (M (ml_fl i + 5) 0)) F (pf5 g hi) rfl iaX1 0 (by decide) lkX1_9 rfl rfl dX1_countIn_6 ?_
    refine ml_icmp_ge (tgt := 36) F dX1_countIn_9 (by decide) h (fun _ h => ?_) (fun _ h => ?_)
    · refine ml_iload_n (q := 2) F dX1_countIn_36 rfl rfl ?_
      exact ml_iret (st := []) F (Option.some.inj h) rfl rfl rfl (by decide) (by decide) dX1_countIn_37
    · refine ml_iload_n (q := 2) F dX1_countIn_12 rfl rfl ?_
      refine ml_aload_n (q := 0) F dX1_countIn_13 rfl rfl ?_
      refine ml_get (v := ml_rf g (ml_fl i + 9)) F (pf5 g hi) rfl iaX1 5 (by decide) lkX1_29 rfl rfl dX1_countIn_14 ?_
      refine ml_iload_n (q := 3) F dX1_countIn_17 rfl rfl ?_
      refine ml_iald F (pf9 g hi) h dX1_countIn_18 (fun h => ?_)
      refine ml_iload_n (q := 1) F dX1_countIn_19 rfl rfl ?_
      refine ml_jnR (P := fun B => ∀ (y1 : Int32), B y1 = some res → ml_J E g 4 (ml_Z E g (fun r _ => some (.int r)) res 0 0) (0) (0) 28 [(0, ml_rf g (ml_fl i + 5)), (1, .int x1), (2, .int x2), (3, .int x3)] (.int y1 :: .int x2 :: []) M) h ?_ (fun jn3 h => ?_)
      · intro y1 h
        dsimp only at h
        refine ml_iadd F dX1_countIn_28 ?_
        refine ml_istore_n (ls2 := [(2, .int (x2 + y1)), (0, ml_rf g (ml_fl i + 5)), (1, .int x1), (3, .int x3)]) F dX1_countIn_29 rfl (by decide) rfl ?_
        refine ml_iinc (q := 3) (v := x3 + 1) (ls2 := [(3, .int (x3 + 1)), (2, .int (x2 + y1)), (0, ml_rf g (ml_fl i + 5)), (1, .int x1)]) F dX1_countIn_30 rfl rfl (by decide) rfl ?_
        refine ml_goto (tgt := 4) F dX1_countIn_33 (by decide) ?_
        exact ml_sub [2, 3, 1, 0] rfl (ih _ _ _ _ h)
      refine ml_icmp_ne (tgt := 27) F dX1_countIn_20 (by decide) h (fun _ h => ?_) (fun _ h => ?_)
      · refine ml_iconst (v := 0) F dX1_countIn_27 (by decide) ?_
        exact ml_sub [0, 1, 2, 3] rfl (jn3 _ h)
      · refine ml_iconst (v := 1) F dX1_countIn_23 (by decide) ?_
        refine ml_goto (tgt := 28) F dX1_countIn_24 (by decide) ?_
        exact ml_sub [0, 1, 2, 3] rfl (jn3 _ h)
set_option maxRecDepth 100000 in
def fX1_countIn (i : Nat) (a0 : Int32) (M : ml_M) : Option ml_R :=
  fX1_countIn_l i a0 ml_fuel a0 0 0 M
set_option maxHeartbeats 4000000 in
set_option maxRecDepth 100000 in
theorem fX1_countIn_c (i : Nat) (a0 : Int32) (M : ml_M) (res : ml_R) (hi : i < 11) {g : ml_G} (hst : g.2.2.2.2.2.stackTraces = false) (h : fX1_countIn i a0 M = some res) : ml_C yX1_countIn cX1_countIn 4 (some .int) 1 0 0 g (fun r _ => some (.int r)) [ml_rf g (ml_fl i + 5), .int a0] M res := by
  refine ml_of [(0, ml_rf g (ml_fl i + 5)), (1, .int a0)] hst (by decide) (Nat.le_of_ble_eq_true rfl) rfl (fun E F => ?_)
  unfold fX1_countIn at h
  refine ml_iconst (v := 0) F dX1_countIn_0 (by decide) ?_
  refine ml_istore_n (ls2 := [(2, .int 0), (0, ml_rf g (ml_fl i + 5)), (1, .int a0)]) F dX1_countIn_1 rfl (by decide) rfl ?_
  refine ml_iconst (v := 0) F dX1_countIn_2 (by decide) ?_
  refine ml_istore_n (ls2 := [(3, .int 0), (2, .int 0), (0, ml_rf g (ml_fl i + 5)), (1, .int a0)]) F dX1_countIn_3 rfl (by decide) rfl ?_
  exact ml_sub [2, 3, 1, 0] rfl ((fX1_countIn_w i a0 hi F ml_fuel) _ _ _ _ h)
set_option maxRecDepth 100000 in
def fX1_hasRoom (i : Nat) (a0 : Int32) (M : ml_M) : Option ml_R :=
  ml_jn (fun (y1 : Int32) (M2 : ml_M) => if narrow .boolean (.int y1) = .int y1 then some (.inl y1, M2) else none) (fun B3 => (if a0 = 0 then B3 1 M else (if a0 = 4 then B3 1 M else ml_bd (fX1_countIn i a0 M) (fun r6 M7 => (if 2 ≤ r6 then B3 0 M7 else B3 1 M7)))))
set_option maxHeartbeats 4000000 in
set_option maxRecDepth 100000 in
theorem fX1_hasRoom_c (i : Nat) (a0 : Int32) (M : ml_M) (res : ml_R) (hi : i < 11) {g : ml_G} (hst : g.2.2.2.2.2.stackTraces = false) (h : fX1_hasRoom i a0 M = some res) : ml_C yX1_hasRoom cX1_hasRoom 2 (some .boolean) 2 0 0 g (fun r _ => some (.int r)) [ml_rf g (ml_fl i + 5), .int a0] M res := by
  refine ml_of [(0, ml_rf g (ml_fl i + 5)), (1, .int a0)] hst (by decide) (Nat.le_of_ble_eq_true rfl) rfl (fun E F => ?_)
  unfold fX1_hasRoom at h
  refine ml_iload_n (q := 1) F dX1_hasRoom_0 rfl rfl ?_
  refine ml_jnR (P := fun B => ∀ (y1 : Int32) (M2 : ml_M), B y1 M2 = some res → ml_J E g 2 (ml_Z E g (fun r _ => some (.int r)) res 0 0) (0) (0) 23 [(0, ml_rf g (ml_fl i + 5)), (1, .int a0)] (.int y1 :: []) M2) h ?_ (fun jn4 h => ?_)
  · intro y1 M2 h
    dsimp only at h
    obtain ⟨q5, h⟩ := ml_if h
    exact ml_iret (st := []) F (Option.some.inj h) rfl rfl q5 (by decide) (by decide) dX1_hasRoom_23
  refine ml_if_eq (tgt := 18) F dX1_hasRoom_1 (by decide) h (fun _ h => ?_) (fun _ h => ?_)
  · refine ml_iconst (v := 1) F dX1_hasRoom_18 (by decide) ?_
    refine ml_goto (tgt := 23) F dX1_hasRoom_19 (by decide) ?_
    exact ml_sub [0, 1] rfl (jn4 _ _ h)
  · refine ml_iload_n (q := 1) F dX1_hasRoom_4 rfl rfl ?_
    refine ml_iconst (v := 4) F dX1_hasRoom_5 (by decide) ?_
    refine ml_icmp_eq (tgt := 18) F dX1_hasRoom_6 (by decide) h (fun _ h => ?_) (fun _ h => ?_)
    · refine ml_iconst (v := 1) F dX1_hasRoom_18 (by decide) ?_
      refine ml_goto (tgt := 23) F dX1_hasRoom_19 (by decide) ?_
      exact ml_sub [0, 1] rfl (jn4 _ _ h)
    · refine ml_aload_n (q := 0) F dX1_hasRoom_9 rfl rfl ?_
      refine ml_iload_n (q := 1) F dX1_hasRoom_10 rfl rfl ?_
      refine ml_callV (av := [.int a0]) (T := TX1) (N := 8) F (pf5 g hi) rfl h (fun rs h9 => fX1_countIn_c i a0 M rs hi hst h9) wcX1_countIn mlX1_46 wdX1_countIn (by decide) (by decide) (by decide) rfl seX1_countIn imX1_countIn rfl (Nat.le_of_ble_eq_true rfl) dX1_hasRoom_11 (fun r6 M7 h => ?_)
      refine ml_iconst (v := 2) F dX1_hasRoom_14 (by decide) ?_
      refine ml_icmp_ge (tgt := 22) F dX1_hasRoom_15 (by decide) h (fun _ h => ?_) (fun _ h => ?_)
      · refine ml_iconst (v := 0) F dX1_hasRoom_22 (by decide) ?_
        exact ml_sub [0, 1] rfl (jn4 _ _ h)
      · refine ml_iconst (v := 1) F dX1_hasRoom_18 (by decide) ?_
        refine ml_goto (tgt := 23) F dX1_hasRoom_19 (by decide) ?_
        exact ml_sub [0, 1] rfl (jn4 _ _ h)
set_option maxRecDepth 100000 in
def fX2_mayPass (i : Nat) (a0 : Int32) (a1 : Int32) (M : ml_M) : Option ml_R :=
  ml_bd (fX1_gateAhead i a0 M) (fun r1 M2 => ml_bd (fX1_basinAhead i a0 M2) (fun r3 M4 => ml_bd (fX6_isGate r1 M4) (fun r5 M6 => ml_jn (fun (y7 : Int32) (M8 : ml_M) => if narrow .boolean (.int y7) = .int y7 then some (.inl y7, M8) else none) (fun B9 => (if r5 = 0 then B9 0 M6 else if ml_ok r1 4 then (if (M6 (ml_fl i + 4) r1.toNatClampNeg) = 0 then B9 0 M6 else (if (a1 &&& (1 <<< (r1 &&& 31))) = 0 then ml_bd (fX1_hasRoom i r3 M6) (fun r12 M13 => (if r12 = 0 then B9 0 M13 else if ml_ok a0 8 then ml_bd (fX5_reaches i r3 (M13 (ml_fl i + 7) a0.toNatClampNeg) M13) (fun r14 M15 => (if r14 = 0 then B9 0 M15 else B9 1 M15)) else none)) else B9 0 M6)) else none)))))
set_option maxHeartbeats 4000000 in
set_option maxRecDepth 100000 in
theorem fX2_mayPass_c (i : Nat) (a0 : Int32) (a1 : Int32) (M : ml_M) (res : ml_R) (hi : i < 11) {g : ml_G} (hst : g.2.2.2.2.2.stackTraces = false) (h : fX2_mayPass i a0 a1 M = some res) : ml_C yX2_mayPass cX2_mayPass 5 (some .boolean) 3 0 0 g (fun r _ => some (.int r)) [ml_rf g (ml_fl i), .int a0, .int a1] M res := by
  refine ml_of [(0, ml_rf g (ml_fl i)), (1, .int a0), (2, .int a1)] hst (by decide) (Nat.le_of_ble_eq_true rfl) rfl (fun E F => ?_)
  unfold fX2_mayPass at h
  refine ml_aload_n (q := 0) F dX2_mayPass_0 rfl rfl ?_
  refine ml_get (v := ml_rf g (ml_fl i + 5)) F (pf0 g hi) rfl iaX2 1 (by decide) lkX2_21 rfl rfl dX2_mayPass_1 ?_
  refine ml_iload_n (q := 1) F dX2_mayPass_4 rfl rfl ?_
  refine ml_callV (av := [.int a0]) (T := TX1) (N := 8) F (pf5 g hi) rfl h (fun rs h9 => fX1_gateAhead_c i a0 M rs hi hst h9) wcX1_gateAhead mlX2_146 wdX1_gateAhead (by decide) (by decide) (by decide) rfl seX1_gateAhead imX1_gateAhead rfl (Nat.le_of_ble_eq_true rfl) dX2_mayPass_5 (fun r1 M2 h => ?_)
  refine ml_istore_n (ls2 := [(3, .int r1), (0, ml_rf g (ml_fl i)), (1, .int a0), (2, .int a1)]) F dX2_mayPass_8 rfl (by decide) rfl ?_
  refine ml_aload_n (q := 1) F dX2_mayPass_9 rfl rfl ?_
  refine ml_get (v := ml_rf g (ml_fl i + 5)) F (pf0 g hi) rfl iaX2 1 (by decide) lkX2_21 rfl rfl dX2_mayPass_10 ?_
  refine ml_iload_n (q := 2) F dX2_mayPass_13 rfl rfl ?_
  refine ml_callV (av := [.int a0]) (T := TX1) (N := 8) F (pf5 g hi) rfl h (fun rs h9 => fX1_basinAhead_c i a0 M2 rs hi hst h9) wcX1_basinAhead mlX2_153 wdX1_basinAhead (by decide) (by decide) (by decide) rfl seX1_basinAhead imX1_basinAhead rfl (Nat.le_of_ble_eq_true rfl) dX2_mayPass_14 (fun r3 M4 h => ?_)
  refine ml_istore (ls2 := [(4, .int r3), (3, .int r1), (0, ml_rf g (ml_fl i)), (1, .int a0), (2, .int a1)]) F dX2_mayPass_17 (by decide) rfl ?_
  refine ml_iload_n (q := 1) F dX2_mayPass_19 rfl rfl ?_
  refine ml_callN (av := [.int r1]) F h (fun rs h9 => fX6_isGate_c r1 M4 rs hst h9) wcX6_isGate (idx := 68) (by decide +kernel) wdX6_isGate (by decide) (by decide) (by decide) rfl stX6_isGate rfl (Nat.le_of_ble_eq_true rfl) dX2_mayPass_20 (fun r5 M6 h => ?_)
  refine ml_jnR (P := fun B => ∀ (y7 : Int32) (M8 : ml_M), B y7 M8 = some res → ml_J E g 5 (ml_Z E g (fun r _ => some (.int r)) res 0 0) (0 + 0 + 0 + 0) (0 + 0 + 0 + 0) 84 [(0, ml_rf g (ml_fl i)), (1, .int a0), (2, .int a1), (3, .int r1), (4, .int r3)] (.int y7 :: []) M8) h ?_ (fun jn10 h => ?_)
  · intro y7 M8 h
    dsimp only at h
    obtain ⟨q11, h⟩ := ml_if h
    exact ml_iret (st := []) F (Option.some.inj h) rfl rfl q11 (by decide) (by decide) dX2_mayPass_84
  refine ml_if_eq (tgt := 83) F dX2_mayPass_23 (by decide) h (fun _ h => ?_) (fun _ h => ?_)
  · refine ml_iconst (v := 0) F dX2_mayPass_83 (by decide) ?_
    exact ml_sub [2, 3, 4, 1, 0] rfl (jn10 _ _ h)
  · refine ml_aload_n (q := 2) F dX2_mayPass_26 rfl rfl ?_
    refine ml_get (v := ml_rf g (ml_fl i + 1)) F (pf0 g hi) rfl iaX2 0 (by decide) lkX2_12 rfl rfl dX2_mayPass_27 ?_
    refine ml_get (v := ml_rf g (ml_fl i + 4)) F (pf1 g hi) rfl iaX5 2 (by decide) lkX2_72 rfl rfl dX2_mayPass_30 ?_
    refine ml_iload_n (q := 1) F dX2_mayPass_33 rfl rfl ?_
    refine ml_zald F (pf4 g hi) h dX2_mayPass_34 (fun h => ?_)
    refine ml_if_eq (tgt := 83) F dX2_mayPass_35 (by decide) h (fun _ h => ?_) (fun _ h => ?_)
    · refine ml_iconst (v := 0) F dX2_mayPass_83 (by decide) ?_
      exact ml_sub [2, 3, 4, 1, 0] rfl (jn10 _ _ h)
    · refine ml_iload_n (q := 4) F dX2_mayPass_38 rfl rfl ?_
      refine ml_iconst (v := 1) F dX2_mayPass_39 (by decide) ?_
      refine ml_iload_n (q := 1) F dX2_mayPass_40 rfl rfl ?_
      refine ml_ishl F dX2_mayPass_41 ?_
      refine ml_iand F dX2_mayPass_42 ?_
      refine ml_if_ne (tgt := 83) F dX2_mayPass_43 (by decide) h (fun _ h => ?_) (fun _ h => ?_)
      · refine ml_iconst (v := 0) F dX2_mayPass_83 (by decide) ?_
        exact ml_sub [2, 3, 4, 1, 0] rfl (jn10 _ _ h)
      · refine ml_aload_n (q := 2) F dX2_mayPass_46 rfl rfl ?_
        refine ml_get (v := ml_rf g (ml_fl i + 5)) F (pf0 g hi) rfl iaX2 1 (by decide) lkX2_21 rfl rfl dX2_mayPass_47 ?_
        refine ml_iload (q := 0) F dX2_mayPass_50 rfl ?_
        refine ml_callV (av := [.int r3]) (T := TX1) (N := 8) F (pf5 g hi) rfl h (fun rs h9 => fX1_hasRoom_c i r3 M6 rs hi hst h9) wcX1_hasRoom mlX2_156 wdX1_hasRoom (by decide) (by decide) (by decide) rfl seX1_hasRoom imX1_hasRoom rfl (Nat.le_of_ble_eq_true rfl) dX2_mayPass_52 (fun r12 M13 h => ?_)
        refine ml_if_eq (tgt := 83) F dX2_mayPass_55 (by decide) h (fun _ h => ?_) (fun _ h => ?_)
        · refine ml_iconst (v := 0) F dX2_mayPass_83 (by decide) ?_
          exact ml_sub [2, 3, 4, 1, 0] rfl (jn10 _ _ h)
        · refine ml_aload_n (q := 2) F dX2_mayPass_58 rfl rfl ?_
          refine ml_get (v := ml_rf g (ml_fl i + 1)) F (pf0 g hi) rfl iaX2 0 (by decide) lkX2_12 rfl rfl dX2_mayPass_59 ?_
          refine ml_iload (q := 0) F dX2_mayPass_62 rfl ?_
          refine ml_aload_n (q := 2) F dX2_mayPass_64 rfl rfl ?_
          refine ml_get (v := ml_rf g (ml_fl i + 5)) F (pf0 g hi) rfl iaX2 1 (by decide) lkX2_21 rfl rfl dX2_mayPass_65 ?_
          refine ml_get (v := ml_rf g (ml_fl i + 7)) F (pf5 g hi) rfl iaX1 3 (by decide) lkX2_159 rfl rfl dX2_mayPass_68 ?_
          refine ml_iload_n (q := 3) F dX2_mayPass_71 rfl rfl ?_
          refine ml_iald F (pf7 g hi) h dX2_mayPass_72 (fun h => ?_)
          refine ml_callV (av := [.int r3, .int (M13 (ml_fl i + 7) a0.toNatClampNeg)]) (T := TX5) (N := 8) F (pf1 g hi) rfl h (fun rs h9 => fX5_reaches_c i r3 (M13 (ml_fl i + 7) a0.toNatClampNeg) M13 rs hi hst h9) wcX5_reaches mlX2_162 wdX5_reaches (by decide) (by decide) (by decide) rfl seX5_reaches imX5_reaches rfl (Nat.le_of_ble_eq_true rfl) dX2_mayPass_73 (fun r14 M15 h => ?_)
          refine ml_if_eq (tgt := 83) F dX2_mayPass_76 (by decide) h (fun _ h => ?_) (fun _ h => ?_)
          · refine ml_iconst (v := 0) F dX2_mayPass_83 (by decide) ?_
            exact ml_sub [2, 3, 4, 1, 0] rfl (jn10 _ _ h)
          · refine ml_iconst (v := 1) F dX2_mayPass_79 (by decide) ?_
            refine ml_goto (tgt := 84) F dX2_mayPass_80 (by decide) ?_
            exact ml_sub [2, 3, 4, 1, 0] rfl (jn10 _ _ h)
set_option maxRecDepth 100000 in
def fX1_hasArrived (i : Nat) (a0 : Int32) (M : ml_M) : Option ml_R :=
  if ml_ok a0 8 then if ml_ok a0 8 then ml_jn (fun (y1 : Int32) => ml_jn (fun (y4 : Int32) => if narrow .boolean (.int y4) = .int y4 then some (.inl y4, M) else none) (fun B5 => (if (M (ml_fl i + 9) a0.toNatClampNeg) = y1 then B5 1 else B5 0))) (fun B2 => (if (M (ml_fl i + 8) a0.toNatClampNeg) = 0 then B2 0 else B2 4)) else none else none
set_option maxHeartbeats 4000000 in
set_option maxRecDepth 100000 in
theorem fX1_hasArrived_c (i : Nat) (a0 : Int32) (M : ml_M) (res : ml_R) (hi : i < 11) {g : ml_G} (hst : g.2.2.2.2.2.stackTraces = false) (h : fX1_hasArrived i a0 M = some res) : ml_C yX1_hasArrived cX1_hasArrived 2 (some .boolean) 1 0 0 g (fun r _ => some (.int r)) [ml_rf g (ml_fl i + 5), .int a0] M res := by
  refine ml_of [(0, ml_rf g (ml_fl i + 5)), (1, .int a0)] hst (by decide) (Nat.le_of_ble_eq_true rfl) rfl (fun E F => ?_)
  unfold fX1_hasArrived at h
  refine ml_aload_n (q := 0) F dX1_hasArrived_0 rfl rfl ?_
  refine ml_get (v := ml_rf g (ml_fl i + 9)) F (pf5 g hi) rfl iaX1 5 (by decide) lkX1_29 rfl rfl dX1_hasArrived_1 ?_
  refine ml_iload_n (q := 1) F dX1_hasArrived_4 rfl rfl ?_
  refine ml_iald F (pf9 g hi) h dX1_hasArrived_5 (fun h => ?_)
  refine ml_aload_n (q := 0) F dX1_hasArrived_6 rfl rfl ?_
  refine ml_get (v := ml_rf g (ml_fl i + 8)) F (pf5 g hi) rfl iaX1 4 (by decide) lkX1_25 rfl rfl dX1_hasArrived_7 ?_
  refine ml_iload_n (q := 1) F dX1_hasArrived_10 rfl rfl ?_
  refine ml_zald F (pf8 g hi) h dX1_hasArrived_11 (fun h => ?_)
  refine ml_jnR (P := fun B => ∀ (y1 : Int32), B y1 = some res → ml_J E g 2 (ml_Z E g (fun r _ => some (.int r)) res 0 0) (0) (0) 20 [(0, ml_rf g (ml_fl i + 5)), (1, .int a0)] (.int y1 :: .int (M (ml_fl i + 9) a0.toNatClampNeg) :: []) M) h ?_ (fun jn3 h => ?_)
  · intro y1 h
    dsimp only at h
    refine ml_jnR (P := fun B => ∀ (y4 : Int32), B y4 = some res → ml_J E g 2 (ml_Z E g (fun r _ => some (.int r)) res 0 0) (0) (0) 28 [(0, ml_rf g (ml_fl i + 5)), (1, .int a0)] (.int y4 :: []) M) h ?_ (fun jn6 h => ?_)
    · intro y4 h
      dsimp only at h
      obtain ⟨q7, h⟩ := ml_if h
      exact ml_iret (st := []) F (Option.some.inj h) rfl rfl q7 (by decide) (by decide) dX1_hasArrived_28
    refine ml_icmp_ne (tgt := 27) F dX1_hasArrived_20 (by decide) h (fun _ h => ?_) (fun _ h => ?_)
    · refine ml_iconst (v := 0) F dX1_hasArrived_27 (by decide) ?_
      exact ml_sub [0, 1] rfl (jn6 _ h)
    · refine ml_iconst (v := 1) F dX1_hasArrived_23 (by decide) ?_
      refine ml_goto (tgt := 28) F dX1_hasArrived_24 (by decide) ?_
      exact ml_sub [0, 1] rfl (jn6 _ h)
  refine ml_if_eq (tgt := 19) F dX1_hasArrived_12 (by decide) h (fun _ h => ?_) (fun _ h => ?_)
  · refine ml_iconst (v := 0) F dX1_hasArrived_19 (by decide) ?_
    exact ml_sub [0, 1] rfl (jn3 _ h)
  · refine ml_iconst (v := 4) F dX1_hasArrived_15 (by decide) ?_
    refine ml_goto (tgt := 20) F dX1_hasArrived_16 (by decide) ?_
    exact ml_sub [0, 1] rfl (jn3 _ h)
set_option maxRecDepth 100000 in
def fX2_pass (i : Nat) (a0 : Int32) (M : ml_M) : Option ml_R :=
  ml_bd (fX1_gateAhead i a0 M) (fun r1 M2 => ml_bd (fX1_basinAhead i a0 M2) (fun r3 M4 => if ml_ok a0 8 then ml_lt (ml_w M4 (ml_fl i + 9) a0.toNatClampNeg r3) (fun M5 => ml_bd (fX1_hasArrived i a0 M5) (fun r6 M7 => ml_jn (fun (M8 : ml_M) => some (.inl 0, M8)) (fun B9 => (if r6 = 0 then ml_bd (fX0_note i 112 r1 M7) (fun r11 M12 => B9 M12) else if ml_ok a0 8 then if ml_ok (M7 (ml_fl i + 6) a0.toNatClampNeg) 3 then if ml_ok (M7 (ml_fl i + 6) a0.toNatClampNeg) 3 then ml_lt (ml_w M7 (ml_fl i + 11) (M7 (ml_fl i + 6) a0.toNatClampNeg).toNatClampNeg ((M7 (ml_fl i + 11) (M7 (ml_fl i + 6) a0.toNatClampNeg).toNatClampNeg) + 1)) (fun M13 => if ml_ok a0 8 then ml_bd (fX0_note i 108 (M13 (ml_fl i + 7) a0.toNatClampNeg) M13) (fun r14 M15 => B9 M15) else none) else none else none else none)))) else none))
set_option maxHeartbeats 4000000 in
set_option maxRecDepth 100000 in
theorem fX2_pass_c (i : Nat) (a0 : Int32) (M : ml_M) (res : ml_R) (hi : i < 11) {g : ml_G} (hst : g.2.2.2.2.2.stackTraces = false) (h : fX2_pass i a0 M = some res) : ml_C yX2_pass cX2_pass 3 none 2 0 0 g (fun _ _ => none) [ml_rf g (ml_fl i), .int a0] M res := by
  refine ml_of [(0, ml_rf g (ml_fl i)), (1, .int a0)] hst (by decide) (Nat.le_of_ble_eq_true rfl) rfl (fun E F => ?_)
  unfold fX2_pass at h
  refine ml_aload_n (q := 0) F dX2_pass_0 rfl rfl ?_
  refine ml_get (v := ml_rf g (ml_fl i + 5)) F (pf0 g hi) rfl iaX2 1 (by decide) lkX2_21 rfl rfl dX2_pass_1 ?_
  refine ml_iload_n (q := 1) F dX2_pass_4 rfl rfl ?_
  refine ml_callV (av := [.int a0]) (T := TX1) (N := 8) F (pf5 g hi) rfl h (fun rs h9 => fX1_gateAhead_c i a0 M rs hi hst h9) wcX1_gateAhead mlX2_146 wdX1_gateAhead (by decide) (by decide) (by decide) rfl seX1_gateAhead imX1_gateAhead rfl (Nat.le_of_ble_eq_true rfl) dX2_pass_5 (fun r1 M2 h => ?_)
  refine ml_istore_n (ls2 := [(2, .int r1), (0, ml_rf g (ml_fl i)), (1, .int a0)]) F dX2_pass_8 rfl (by decide) rfl ?_
  refine ml_aload_n (q := 1) F dX2_pass_9 rfl rfl ?_
  refine ml_get (v := ml_rf g (ml_fl i + 5)) F (pf0 g hi) rfl iaX2 1 (by decide) lkX2_21 rfl rfl dX2_pass_10 ?_
  refine ml_get (v := ml_rf g (ml_fl i + 9)) F (pf5 g hi) rfl iaX1 5 (by decide) lkX2_165 rfl rfl dX2_pass_13 ?_
  refine ml_iload_n (q := 2) F dX2_pass_16 rfl rfl ?_
  refine ml_aload_n (q := 1) F dX2_pass_17 rfl rfl ?_
  refine ml_get (v := ml_rf g (ml_fl i + 5)) F (pf0 g hi) rfl iaX2 1 (by decide) lkX2_21 rfl rfl dX2_pass_18 ?_
  refine ml_iload_n (q := 2) F dX2_pass_21 rfl rfl ?_
  refine ml_callV (av := [.int a0]) (T := TX1) (N := 8) F (pf5 g hi) rfl h (fun rs h9 => fX1_basinAhead_c i a0 M2 rs hi hst h9) wcX1_basinAhead mlX2_153 wdX1_basinAhead (by decide) (by decide) (by decide) rfl seX1_basinAhead imX1_basinAhead rfl (Nat.le_of_ble_eq_true rfl) dX2_pass_22 (fun r3 M4 h => ?_)
  refine ml_iast F (pf9 g hi) h dX2_pass_25 (fun h => ?_)
  refine ml_ltM h (fun M5 _ h => ?_)
  refine ml_aload_n (q := 1) F dX2_pass_26 rfl rfl ?_
  refine ml_get (v := ml_rf g (ml_fl i + 5)) F (pf0 g hi) rfl iaX2 1 (by decide) lkX2_21 rfl rfl dX2_pass_27 ?_
  refine ml_iload_n (q := 2) F dX2_pass_30 rfl rfl ?_
  refine ml_callV (av := [.int a0]) (T := TX1) (N := 8) F (pf5 g hi) rfl h (fun rs h9 => fX1_hasArrived_c i a0 M5 rs hi hst h9) wcX1_hasArrived mlX2_168 wdX1_hasArrived (by decide) (by decide) (by decide) rfl seX1_hasArrived imX1_hasArrived rfl (Nat.le_of_ble_eq_true rfl) dX2_pass_31 (fun r6 M7 h => ?_)
  refine ml_jnR (P := fun B => ∀ (M8 : ml_M), B M8 = some res → ml_J E g 3 (ml_Z E g (fun _ _ => none) res 0 0) (0 + 0 + 0 + 0 + 0) (0 + 0 + 0 + 0 + 0) 89 [(0, ml_rf g (ml_fl i)), (1, .int a0), (2, .int r1)] ([]) M8) h ?_ (fun jn10 h => ?_)
  · intro M8 h
    dsimp only at h
    exact ml_vret (st := []) F (Option.some.inj h) rfl rfl (by decide) (by decide) dX2_pass_89
  refine ml_if_eq (tgt := 79) F dX2_pass_34 (by decide) h (fun _ h => ?_) (fun _ h => ?_)
  · refine ml_aload_n (q := 1) F dX2_pass_79 rfl rfl ?_
    refine ml_get (v := ml_rf g (ml_fl i + 12)) F (pf0 g hi) rfl iaX2 2 (by decide) lkX2_28 rfl rfl dX2_pass_80 ?_
    refine ml_bipush (v := 112) F dX2_pass_83 (by decide) ?_
    refine ml_iload_n (q := 0) F dX2_pass_85 rfl rfl ?_
    refine ml_callV (av := [.int 112, .int r1]) (T := TX0) (N := 4) F (pf12 g hi) rfl h (fun rs h9 => fX0_note_c i 112 r1 M7 rs hi hst h9) wcX0_note mlX2_132 wdX0_note (by decide) (by decide) (by decide) rfl seX0_note imX0_note rfl (Nat.le_of_ble_eq_true rfl) dX2_pass_86 (fun r11 M12 h => ?_)
    exact ml_sub [1, 2, 0] rfl (jn10 _ h)
  · refine ml_aload_n (q := 1) F dX2_pass_37 rfl rfl ?_
    refine ml_get (v := ml_rf g (ml_fl i + 5)) F (pf0 g hi) rfl iaX2 1 (by decide) lkX2_21 rfl rfl dX2_pass_38 ?_
    refine ml_get (v := ml_rf g (ml_fl i + 11)) F (pf5 g hi) rfl iaX1 7 (by decide) lkX2_171 rfl rfl dX2_pass_41 ?_
    refine ml_aload_n (q := 1) F dX2_pass_44 rfl rfl ?_
    refine ml_get (v := ml_rf g (ml_fl i + 5)) F (pf0 g hi) rfl iaX2 1 (by decide) lkX2_21 rfl rfl dX2_pass_45 ?_
    refine ml_get (v := ml_rf g (ml_fl i + 6)) F (pf5 g hi) rfl iaX1 2 (by decide) lkX2_139 rfl rfl dX2_pass_48 ?_
    refine ml_iload_n (q := 2) F dX2_pass_51 rfl rfl ?_
    refine ml_iald F (pf6 g hi) h dX2_pass_52 (fun h => ?_)
    refine ml_dup2 F dX2_pass_53 rfl rfl ?_
    refine ml_iald F (pf11 g hi) h dX2_pass_54 (fun h => ?_)
    refine ml_iconst (v := 1) F dX2_pass_55 (by decide) ?_
    refine ml_iadd F dX2_pass_56 ?_
    refine ml_iast F (pf11 g hi) h dX2_pass_57 (fun h => ?_)
    refine ml_ltM h (fun M13 _ h => ?_)
    refine ml_aload_n (q := 1) F dX2_pass_58 rfl rfl ?_
    refine ml_get (v := ml_rf g (ml_fl i + 12)) F (pf0 g hi) rfl iaX2 2 (by decide) lkX2_28 rfl rfl dX2_pass_59 ?_
    refine ml_bipush (v := 108) F dX2_pass_62 (by decide) ?_
    refine ml_aload_n (q := 1) F dX2_pass_64 rfl rfl ?_
    refine ml_get (v := ml_rf g (ml_fl i + 5)) F (pf0 g hi) rfl iaX2 1 (by decide) lkX2_21 rfl rfl dX2_pass_65 ?_
    refine ml_get (v := ml_rf g (ml_fl i + 7)) F (pf5 g hi) rfl iaX1 3 (by decide) lkX2_159 rfl rfl dX2_pass_68 ?_
    refine ml_iload_n (q := 2) F dX2_pass_71 rfl rfl ?_
    refine ml_iald F (pf7 g hi) h dX2_pass_72 (fun h => ?_)
    refine ml_callV (av := [.int 108, .int (M13 (ml_fl i + 7) a0.toNatClampNeg)]) (T := TX0) (N := 4) F (pf12 g hi) rfl h (fun rs h9 => fX0_note_c i 108 (M13 (ml_fl i + 7) a0.toNatClampNeg) M13 rs hi hst h9) wcX0_note mlX2_132 wdX0_note (by decide) (by decide) (by decide) rfl seX0_note imX0_note rfl (Nat.le_of_ble_eq_true rfl) dX2_pass_73 (fun r14 M15 h => ?_)
    refine ml_goto (tgt := 89) F dX2_pass_76 (by decide) ?_
    exact ml_sub [1, 2, 0] rfl (jn10 _ h)
set_option maxRecDepth 100000 in
def fX2_passGates_s0 (i : Nat) (rec : Nat → Int32 → Int32 → Int32 → ml_M → Option ml_R) (x1 x2 x3 : Int32) (M : ml_M) : Option ml_R :=
  (if 3 ≤ x2 then some (.inl 0, M) else rec 1 x1 x2 0 M)
set_option maxRecDepth 100000 in
def fX2_passGates_s1 (i : Nat) (rec : Nat → Int32 → Int32 → Int32 → ml_M → Option ml_R) (x1 x2 x3 : Int32) (M : ml_M) : Option ml_R :=
  (if (M (ml_fl i + 5) 0) ≤ x3 then rec 0 x1 (x2 + 1) 0 M else if ml_ok x3 8 then ml_jn (fun (y1 : Int32) (M2 : ml_M) => rec 1 y1 x2 (x3 + 1) M2) (fun B3 => (if (M (ml_fl i + 6) x3.toNatClampNeg) = x2 then ml_bd (fX2_mayPass i x3 x1 M) (fun r5 M6 => (if r5 = 0 then B3 x1 M6 else ml_bd (fX1_gateAhead i x3 M6) (fun r7 M8 => ml_lt (x1 ||| (1 <<< (r7 &&& 31))) (fun v9 => ml_bd (fX2_pass i x3 M8) (fun r10 M11 => B3 v9 M11))))) else B3 x1 M)) else none)
def fX2_passGates_l (i : Nat) : Nat → Nat → Int32 → Int32 → Int32 → ml_M → Option ml_R
  | 0, _ => fun _ _ _ _ => none
  | n + 1, 0 => fX2_passGates_s0 i (fX2_passGates_l i n)
  | n + 1, _ => fX2_passGates_s1 i (fX2_passGates_l i n)
set_option maxHeartbeats 4000000 in
set_option maxRecDepth 100000 in
theorem fX2_passGates_w (i : Nat) (hi : i < 11) {E : ml_E} {g : ml_G} {res : ml_R} (F : ml_F E g cX2_passGates yX2_passGates.cls 4 4 0 0 none []) : ∀ fuel : Nat, (∀ (x1 x2 x3 : Int32) (M : ml_M), fX2_passGates_l i fuel 0 x1 x2 x3 M = some res → ml_J E g 4 (ml_Z E g (fun _ _ => none) res 0 0) 0 0 4 [(0, ml_rf g (ml_fl i)), (1, .int x1), (2, .int x2)] [] M) ∧ (∀ (x1 x2 x3 : Int32) (M : ml_M), fX2_passGates_l i fuel 1 x1 x2 x3 M = some res → ml_J E g 4 (ml_Z E g (fun _ _ => none) res 0 0) 0 0 11 [(0, ml_rf g (ml_fl i)), (1, .int x1), (2, .int x2), (3, .int x3)] [] M) := by
  have hst := ml_F_st F
  intro fuel
  induction fuel with
  | zero => exact ⟨fun _ _ _ _ h => (nomatch (show (none : Option ml_R) = some res from h)), fun _ _ _ _ h => (nomatch (show (none : Option ml_R) = some res from h))⟩
  | succ fuel ih =>
    refine ⟨?_, ?_⟩
    · intro x1 x2 x3 M h
      replace h : fX2_passGates_s0 i (fX2_passGates_l i fuel) x1 x2 x3 M = some res := h
      unfold fX2_passGates_s0 at h
      refine ml_iload_n (q := 2) F dX2_passGates_4 rfl rfl ?_
      refine ml_iconst (v := 3) F dX2_passGates_5 (by decide) ?_
      refine ml_icmp_ge (tgt := 74) F dX2_passGates_6 (by decide) h (fun _ h => ?_) (fun _ h => ?_)
      · exact ml_vret (st := []) F (Option.some.inj h) rfl rfl (by decide) (by decide) dX2_passGates_74
      · refine ml_iconst (v := 0) F dX2_passGates_9 (by decide) ?_
        refine ml_istore_n (ls2 := [(3, .int 0), (0, ml_rf g (ml_fl i)), (1, .int x1), (2, .int x2)]) F dX2_passGates_10 rfl (by decide) rfl ?_
        exact ml_sub [1, 2, 3, 0] rfl ((ih.2) _ _ _ _ h)
    · intro x1 x2 x3 M h
      replace h : fX2_passGates_s1 i (fX2_passGates_l i fuel) x1 x2 x3 M = some res := h
      unfold fX2_passGates_s1 at h
      refine ml_iload_n (q := 3) F dX2_passGates_11 rfl rfl ?_
      refine ml_aload_n (q := 0) F dX2_passGates_12 rfl rfl ?_
      refine ml_get (v := ml_rf g (ml_fl i + 5)) F (pf0 g hi) rfl iaX2 1 (by decide) lkX2_21 rfl rfl dX2_passGates_13 ?_
      refine ml_get (v := .int (M (ml_fl i + 5) 0)) F (pf5 g hi) rfl iaX1 0 (by decide) lkX2_65 rfl rfl dX2_passGates_16 ?_
      refine ml_icmp_ge (tgt := 68) F dX2_passGates_19 (by decide) h (fun _ h => ?_) (fun _ h => ?_)
      · refine ml_iinc (q := 2) (v := x2 + 1) (ls2 := [(2, .int (x2 + 1)), (0, ml_rf g (ml_fl i)), (1, .int x1), (3, .int x3)]) F dX2_passGates_68 rfl rfl (by decide) rfl ?_
        refine ml_goto (tgt := 4) F dX2_passGates_71 (by decide) ?_
        exact ml_sub [1, 2, 0] rfl ((ih.1) _ _ _ _ h)
      · refine ml_aload_n (q := 0) F dX2_passGates_22 rfl rfl ?_
        refine ml_get (v := ml_rf g (ml_fl i + 5)) F (pf0 g hi) rfl iaX2 1 (by decide) lkX2_21 rfl rfl dX2_passGates_23 ?_
        refine ml_get (v := ml_rf g (ml_fl i + 6)) F (pf5 g hi) rfl iaX1 2 (by decide) lkX2_139 rfl rfl dX2_passGates_26 ?_
        refine ml_iload_n (q := 3) F dX2_passGates_29 rfl rfl ?_
        refine ml_iald F (pf6 g hi) h dX2_passGates_30 (fun h => ?_)
        refine ml_iload_n (q := 2) F dX2_passGates_31 rfl rfl ?_
        refine ml_jnR (P := fun B => ∀ (y1 : Int32) (M2 : ml_M), B y1 M2 = some res → ml_J E g 4 (ml_Z E g (fun _ _ => none) res 0 0) (0) (0) 62 [(0, ml_rf g (ml_fl i)), (1, .int y1), (2, .int x2), (3, .int x3)] ([]) M2) h ?_ (fun jn4 h => ?_)
        · intro y1 M2 h
          dsimp only at h
          refine ml_iinc (q := 3) (v := x3 + 1) (ls2 := [(3, .int (x3 + 1)), (0, ml_rf g (ml_fl i)), (1, .int y1), (2, .int x2)]) F dX2_passGates_62 rfl rfl (by decide) rfl ?_
          refine ml_goto (tgt := 11) F dX2_passGates_65 (by decide) ?_
          exact ml_sub [1, 2, 3, 0] rfl ((ih.2) _ _ _ _ h)
        refine ml_icmp_ne (tgt := 62) F dX2_passGates_32 (by decide) h (fun _ h => ?_) (fun _ h => ?_)
        · exact ml_sub [0, 1, 2, 3] rfl (jn4 _ _ h)
        · refine ml_aload_n (q := 0) F dX2_passGates_35 rfl rfl ?_
          refine ml_iload_n (q := 3) F dX2_passGates_36 rfl rfl ?_
          refine ml_iload_n (q := 1) F dX2_passGates_37 rfl rfl ?_
          refine ml_callV (av := [.int x3, .int x1]) (T := TX2) (N := 4) F (pf0 g hi) rfl h (fun rs h9 => fX2_mayPass_c i x3 x1 M rs hi hst h9) wcX2_mayPass mlX2_142 wdX2_mayPass (by decide) (by decide) (by decide) rfl seX2_mayPass imX2_mayPass rfl (Nat.le_of_ble_eq_true rfl) dX2_passGates_38 (fun r5 M6 h => ?_)
          refine ml_if_eq (tgt := 62) F dX2_passGates_41 (by decide) h (fun _ h => ?_) (fun _ h => ?_)
          · exact ml_sub [0, 1, 2, 3] rfl (jn4 _ _ h)
          · refine ml_iload_n (q := 1) F dX2_passGates_44 rfl rfl ?_
            refine ml_iconst (v := 1) F dX2_passGates_45 (by decide) ?_
            refine ml_aload_n (q := 0) F dX2_passGates_46 rfl rfl ?_
            refine ml_get (v := ml_rf g (ml_fl i + 5)) F (pf0 g hi) rfl iaX2 1 (by decide) lkX2_21 rfl rfl dX2_passGates_47 ?_
            refine ml_iload_n (q := 3) F dX2_passGates_50 rfl rfl ?_
            refine ml_callV (av := [.int x3]) (T := TX1) (N := 8) F (pf5 g hi) rfl h (fun rs h9 => fX1_gateAhead_c i x3 M6 rs hi hst h9) wcX1_gateAhead mlX2_146 wdX1_gateAhead (by decide) (by decide) (by decide) rfl seX1_gateAhead imX1_gateAhead rfl (Nat.le_of_ble_eq_true rfl) dX2_passGates_51 (fun r7 M8 h => ?_)
            refine ml_ishl F dX2_passGates_54 ?_
            refine ml_ior F dX2_passGates_55 ?_
            refine ml_ltI h (fun v9 _ h => ?_)
            refine ml_istore_n (ls2 := [(1, .int v9), (0, ml_rf g (ml_fl i)), (2, .int x2), (3, .int x3)]) F dX2_passGates_56 rfl (by decide) rfl ?_
            refine ml_aload_n (q := 1) F dX2_passGates_57 rfl rfl ?_
            refine ml_iload_n (q := 3) F dX2_passGates_58 rfl rfl ?_
            refine ml_callV (av := [.int x3]) (T := TX2) (N := 4) F (pf0 g hi) rfl h (fun rs h9 => fX2_pass_c i x3 M8 rs hi hst h9) wcX2_pass mlX2_149 wdX2_pass (by decide) (by decide) (by decide) rfl seX2_pass imX2_pass rfl (Nat.le_of_ble_eq_true rfl) dX2_passGates_59 (fun r10 M11 h => ?_)
            exact ml_sub [1, 0, 2, 3] rfl (jn4 _ _ h)
set_option maxRecDepth 100000 in
def fX2_passGates (i : Nat) (M : ml_M) : Option ml_R :=
  fX2_passGates_l i ml_fuel 0 0 0 0 M
set_option maxHeartbeats 4000000 in
set_option maxRecDepth 100000 in
theorem fX2_passGates_c (i : Nat) (M : ml_M) (res : ml_R) (hi : i < 11) {g : ml_G} (hst : g.2.2.2.2.2.stackTraces = false) (h : fX2_passGates i M = some res) : ml_C yX2_passGates cX2_passGates 4 none 4 0 0 g (fun _ _ => none) [ml_rf g (ml_fl i)] M res := by
  refine ml_of [(0, ml_rf g (ml_fl i))] hst (by decide) (Nat.le_of_ble_eq_true rfl) rfl (fun E F => ?_)
  unfold fX2_passGates at h
  refine ml_iconst (v := 0) F dX2_passGates_0 (by decide) ?_
  refine ml_istore_n (ls2 := [(1, .int 0), (0, ml_rf g (ml_fl i))]) F dX2_passGates_1 rfl (by decide) rfl ?_
  refine ml_iconst (v := 0) F dX2_passGates_2 (by decide) ?_
  refine ml_istore_n (ls2 := [(2, .int 0), (1, .int 0), (0, ml_rf g (ml_fl i))]) F dX2_passGates_3 rfl (by decide) rfl ?_
  exact ml_sub [2, 1, 0] rfl ((fX2_passGates_w i hi F ml_fuel).1 _ _ _ _ h)
set_option maxRecDepth 100000 in
def fX1_removeArrived_s0 (i : Nat) (rec : Int32 → Int32 → ml_M → Option ml_R) (x1 x2 : Int32) (M : ml_M) : Option ml_R :=
  (if (M (ml_fl i + 5) 0) ≤ x2 then ml_lt ((M (ml_fl i + 5) 0) - x1) (fun v1 => ml_lt (ml_w M (ml_fl i + 5) 0 x1) (fun M2 => some (.inl v1, M2))) else ml_bd (fX1_hasArrived i x2 M) (fun r3 M4 => ml_jn (fun (y5 : Int32) (M6 : ml_M) => rec y5 (x2 + 1) M6) (fun B7 => (if r3 = 0 then ml_bd (fX1_copyBoat i i x2 x1 M4) (fun r9 M10 => B7 (x1 + 1) M10) else B7 x1 M4))))
def fX1_removeArrived_l (i : Nat) : Nat → Int32 → Int32 → ml_M → Option ml_R
  | 0 => fun _ _ _ => none
  | n + 1 => fX1_removeArrived_s0 i (fX1_removeArrived_l i n)
set_option maxHeartbeats 4000000 in
set_option maxRecDepth 100000 in
theorem fX1_removeArrived_w (i : Nat) (hi : i < 11) {E : ml_E} {g : ml_G} {res : ml_R} (F : ml_F E g cX1_removeArrived yX1_removeArrived.cls 3 2 0 0 (some .int) []) : ∀ fuel : Nat, ∀ (x1 x2 : Int32) (M : ml_M), fX1_removeArrived_l i fuel x1 x2 M = some res → ml_J E g 3 (ml_Z E g (fun r _ => some (.int r)) res 0 0) 0 0 4 [(0, ml_rf g (ml_fl i + 5)), (1, .int x1), (2, .int x2)] [] M := by
  have hst := ml_F_st F
  intro fuel
  induction fuel with
  | zero => intro _ _ _ h; exact nomatch (show (none : Option ml_R) = some res from h)
  | succ fuel ih =>
    intro x1 x2 M h
    replace h : fX1_removeArrived_s0 i (fX1_removeArrived_l i fuel) x1 x2 M = some res := h
    unfold fX1_removeArrived_s0 at h
    refine ml_iload_n (q := 2) F dX1_removeArrived_4 rfl rfl ?_
    refine ml_aload_n (q := 0) F dX1_removeArrived_5 rfl rfl ?_
    refine ml_get (v := .int (M (ml_fl i + 5) 0)) F (pf5 g hi) rfl iaX1 0 (by decide) lkX1_9 rfl rfl dX1_removeArrived_6 ?_
    refine ml_icmp_ge (tgt := 36) F dX1_removeArrived_9 (by decide) h (fun _ h => ?_) (fun _ h => ?_)
    · refine ml_aload_n (q := 0) F dX1_removeArrived_36 rfl rfl ?_
      refine ml_get (v := .int (M (ml_fl i + 5) 0)) F (pf5 g hi) rfl iaX1 0 (by decide) lkX1_9 rfl rfl dX1_removeArrived_37 ?_
      refine ml_iload_n (q := 1) F dX1_removeArrived_40 rfl rfl ?_
      refine ml_isub F dX1_removeArrived_41 ?_
      refine ml_ltI h (fun v1 _ h => ?_)
      refine ml_istore_n (ls2 := [(2, .int v1), (0, ml_rf g (ml_fl i + 5)), (1, .int x1)]) F dX1_removeArrived_42 rfl (by decide) rfl ?_
      refine ml_aload_n (q := 1) F dX1_removeArrived_43 rfl rfl ?_
      refine ml_iload_n (q := 2) F dX1_removeArrived_44 rfl rfl ?_
      refine ml_set F (pf5 g hi) rfl iaX1 tyX1_ok nmX1 0 (by decide) lkX1_9 rfl rfl rfl rfl rfl (Nat.le_of_ble_eq_true rfl) (fun m => by simp [upd]) dX1_removeArrived_45 ?_
      refine ml_ltM h (fun M2 _ h => ?_)
      refine ml_iload_n (q := 0) F dX1_removeArrived_48 rfl rfl ?_
      exact ml_iret (st := []) F (Option.some.inj h) rfl rfl rfl (by decide) (by decide) dX1_removeArrived_49
    · refine ml_aload_n (q := 0) F dX1_removeArrived_12 rfl rfl ?_
      refine ml_iload_n (q := 2) F dX1_removeArrived_13 rfl rfl ?_
      refine ml_callV (av := [.int x2]) (T := TX1) (N := 8) F (pf5 g hi) rfl h (fun rs h9 => fX1_hasArrived_c i x2 M rs hi hst h9) wcX1_hasArrived mlX1_50 wdX1_hasArrived (by decide) (by decide) (by decide) rfl seX1_hasArrived imX1_hasArrived rfl (Nat.le_of_ble_eq_true rfl) dX1_removeArrived_14 (fun r3 M4 h => ?_)
      refine ml_jnR (P := fun B => ∀ (y5 : Int32) (M6 : ml_M), B y5 M6 = some res → ml_J E g 3 (ml_Z E g (fun r _ => some (.int r)) res 0 0) (0 + 0) (0 + 0) 30 [(0, ml_rf g (ml_fl i + 5)), (1, .int y5), (2, .int x2)] ([]) M6) h ?_ (fun jn8 h => ?_)
      · intro y5 M6 h
        dsimp only at h
        refine ml_iinc (q := 2) (v := x2 + 1) (ls2 := [(2, .int (x2 + 1)), (0, ml_rf g (ml_fl i + 5)), (1, .int y5)]) F dX1_removeArrived_30 rfl rfl (by decide) rfl ?_
        refine ml_goto (tgt := 4) F dX1_removeArrived_33 (by decide) ?_
        exact ml_sub [1, 2, 0] rfl (ih _ _ _ h)
      refine ml_if_ne (tgt := 30) F dX1_removeArrived_17 (by decide) h (fun _ h => ?_) (fun _ h => ?_)
      · exact ml_sub [0, 1, 2] rfl (jn8 _ _ h)
      · refine ml_aload_n (q := 0) F dX1_removeArrived_20 rfl rfl ?_
        refine ml_aload_n (q := 0) F dX1_removeArrived_21 rfl rfl ?_
        refine ml_iload_n (q := 2) F dX1_removeArrived_22 rfl rfl ?_
        refine ml_iload_n (q := 1) F dX1_removeArrived_23 rfl rfl ?_
        refine ml_callV (av := [ml_rf g (ml_fl i + 5), .int x2, .int x1]) (T := TX1) (N := 8) F (pf5 g hi) rfl h (fun rs h9 => fX1_copyBoat_c i i x2 x1 M4 rs hi hi hst h9) wcX1_copyBoat mlX1_38 wdX1_copyBoat (by decide) (by decide) (by decide) rfl seX1_copyBoat imX1_copyBoat rfl (Nat.le_of_ble_eq_true rfl) dX1_removeArrived_24 (fun r9 M10 h => ?_)
        refine ml_iinc (q := 1) (v := x1 + 1) (ls2 := [(1, .int (x1 + 1)), (0, ml_rf g (ml_fl i + 5)), (2, .int x2)]) F dX1_removeArrived_27 rfl rfl (by decide) rfl ?_
        exact ml_sub [1, 0, 2] rfl (jn8 _ _ h)
set_option maxRecDepth 100000 in
def fX1_removeArrived (i : Nat) (M : ml_M) : Option ml_R :=
  fX1_removeArrived_l i ml_fuel 0 0 M
set_option maxHeartbeats 4000000 in
set_option maxRecDepth 100000 in
theorem fX1_removeArrived_c (i : Nat) (M : ml_M) (res : ml_R) (hi : i < 11) {g : ml_G} (hst : g.2.2.2.2.2.stackTraces = false) (h : fX1_removeArrived i M = some res) : ml_C yX1_removeArrived cX1_removeArrived 3 (some .int) 2 0 0 g (fun r _ => some (.int r)) [ml_rf g (ml_fl i + 5)] M res := by
  refine ml_of [(0, ml_rf g (ml_fl i + 5))] hst (by decide) (Nat.le_of_ble_eq_true rfl) rfl (fun E F => ?_)
  unfold fX1_removeArrived at h
  refine ml_iconst (v := 0) F dX1_removeArrived_0 (by decide) ?_
  refine ml_istore_n (ls2 := [(1, .int 0), (0, ml_rf g (ml_fl i + 5))]) F dX1_removeArrived_1 rfl (by decide) rfl ?_
  refine ml_iconst (v := 0) F dX1_removeArrived_2 (by decide) ?_
  refine ml_istore_n (ls2 := [(2, .int 0), (1, .int 0), (0, ml_rf g (ml_fl i + 5))]) F dX1_removeArrived_3 rfl (by decide) rfl ?_
  exact ml_sub [2, 1, 0] rfl ((fX1_removeArrived_w i hi F ml_fuel) _ _ _ h)
set_option maxRecDepth 100000 in
def fX2_passMinutes_s0 (i : Nat) (a0 : Int32) (rec : Nat → Int32 → Int32 → Int32 → Int32 → ml_M → Option ml_R) (x1 x2 x3 x4 : Int32) (M : ml_M) : Option ml_R :=
  (if x1 ≤ x3 then some (.inl x2, M) else ml_lt (ml_w M (ml_fl i) 3 ((M (ml_fl i) 3) + 1)) (fun M1 => ml_bd (fX2_passWeather i M1) (fun r2 M3 => rec 1 x1 x2 x3 0 M3)))
set_option maxRecDepth 100000 in
def fX2_passMinutes_s1 (i : Nat) (a0 : Int32) (rec : Nat → Int32 → Int32 → Int32 → Int32 → ml_M → Option ml_R) (x1 x2 x3 x4 : Int32) (M : ml_M) : Option ml_R :=
  (if 4 ≤ x4 then ml_bd (fX2_passGates i M) (fun r1 M2 => ml_bd (fX1_removeArrived i M2) (fun r3 M4 => rec 0 x1 (x2 + r3) (x3 + 1) 0 M4)) else ml_bd (fX5_flowDown i x4 M) (fun r5 M6 => ml_bd (fX5_moveDown i x4 r5 M6) (fun r7 M8 => rec 1 x1 x2 x3 (x4 + 1) M8)))
def fX2_passMinutes_l (i : Nat) (a0 : Int32) : Nat → Nat → Int32 → Int32 → Int32 → Int32 → ml_M → Option ml_R
  | 0, _ => fun _ _ _ _ _ => none
  | n + 1, 0 => fX2_passMinutes_s0 i a0 (fX2_passMinutes_l i a0 n)
  | n + 1, _ => fX2_passMinutes_s1 i a0 (fX2_passMinutes_l i a0 n)
set_option maxHeartbeats 4000000 in
set_option maxRecDepth 100000 in
theorem fX2_passMinutes_w (i : Nat) (a0 : Int32) (hi : i < 11) {E : ml_E} {g : ml_G} {res : ml_R} (F : ml_F E g cX2_passMinutes yX2_passMinutes.cls 5 5 0 0 (some .int) []) : ∀ fuel : Nat, (∀ (x1 x2 x3 x4 : Int32) (M : ml_M), fX2_passMinutes_l i a0 fuel 0 x1 x2 x3 x4 M = some res → ml_J E g 5 (ml_Z E g (fun r _ => some (.int r)) res 0 0) 0 0 4 [(0, ml_rf g (ml_fl i)), (1, .int x1), (2, .int x2), (3, .int x3)] [] M) ∧ (∀ (x1 x2 x3 x4 : Int32) (M : ml_M), fX2_passMinutes_l i a0 fuel 1 x1 x2 x3 x4 M = some res → ml_J E g 5 (ml_Z E g (fun r _ => some (.int r)) res 0 0) 0 0 26 [(0, ml_rf g (ml_fl i)), (1, .int x1), (2, .int x2), (3, .int x3), (4, .int x4)] [] M) := by
  have hst := ml_F_st F
  intro fuel
  induction fuel with
  | zero => exact ⟨fun _ _ _ _ _ h => (nomatch (show (none : Option ml_R) = some res from h)), fun _ _ _ _ _ h => (nomatch (show (none : Option ml_R) = some res from h))⟩
  | succ fuel ih =>
    refine ⟨?_, ?_⟩
    · intro x1 x2 x3 x4 M h
      replace h : fX2_passMinutes_s0 i a0 (fX2_passMinutes_l i a0 fuel) x1 x2 x3 x4 M = some res := h
      unfold fX2_passMinutes_s0 at h
      refine ml_iload_n (q := 3) F dX2_passMinutes_4 rfl rfl ?_
      refine ml_iload_n (q := 1) F dX2_passMinutes_5 rfl rfl ?_
      refine ml_icmp_ge (tgt := 76) F dX2_passMinutes_6 (by decide) h (fun _ h => ?_) (fun _ h => ?_)
      · refine ml_iload_n (q := 2) F dX2_passMinutes_76 rfl rfl ?_
        exact ml_iret (st := []) F (Option.some.inj h) rfl rfl rfl (by decide) (by decide) dX2_passMinutes_77
      · refine ml_aload_n (q := 0) F dX2_passMinutes_9 rfl rfl ?_
        refine ml_dup F dX2_passMinutes_10 rfl ?_
        refine ml_get (v := .int (M (ml_fl i) 3)) F (pf0 g hi) rfl iaX2 3 (by decide) lkX2_32 rfl rfl dX2_passMinutes_11 ?_
        refine ml_iconst (v := 1) F dX2_passMinutes_14 (by decide) ?_
        refine ml_iadd F dX2_passMinutes_15 ?_
        refine ml_set F (pf0 g hi) rfl iaX2 tyX2_ok nmX2 3 (by decide) lkX2_32 rfl rfl rfl rfl rfl (Nat.le_of_ble_eq_true rfl) (fun m => by simp [upd]) dX2_passMinutes_16 ?_
        refine ml_ltM h (fun M1 _ h => ?_)
        refine ml_aload_n (q := 0) F dX2_passMinutes_19 rfl rfl ?_
        refine ml_callV (av := []) (T := TX2) (N := 4) F (pf0 g hi) rfl h (fun rs h9 => fX2_passWeather_c i M1 rs hi hst h9) wcX2_passWeather mlX2_113 wdX2_passWeather (by decide) (by decide) (by decide) rfl seX2_passWeather imX2_passWeather rfl (Nat.le_of_ble_eq_true rfl) dX2_passMinutes_20 (fun r2 M3 h => ?_)
        refine ml_iconst (v := 0) F dX2_passMinutes_23 (by decide) ?_
        refine ml_istore (ls2 := [(4, .int 0), (0, ml_rf g (ml_fl i)), (1, .int x1), (2, .int x2), (3, .int x3)]) F dX2_passMinutes_24 (by decide) rfl ?_
        exact ml_sub [1, 2, 3, 4, 0] rfl ((ih.2) _ _ _ _ _ h)
    · intro x1 x2 x3 x4 M h
      replace h : fX2_passMinutes_s1 i a0 (fX2_passMinutes_l i a0 fuel) x1 x2 x3 x4 M = some res := h
      unfold fX2_passMinutes_s1 at h
      refine ml_iload (q := 4) F dX2_passMinutes_26 rfl ?_
      refine ml_iconst (v := 4) F dX2_passMinutes_28 (by decide) ?_
      refine ml_icmp_ge (tgt := 56) F dX2_passMinutes_29 (by decide) h (fun _ h => ?_) (fun _ h => ?_)
      · refine ml_aload_n (q := 0) F dX2_passMinutes_56 rfl rfl ?_
        refine ml_callV (av := []) (T := TX2) (N := 4) F (pf0 g hi) rfl h (fun rs h9 => fX2_passGates_c i M rs hi hst h9) wcX2_passGates mlX2_123 wdX2_passGates (by decide) (by decide) (by decide) rfl seX2_passGates imX2_passGates rfl (Nat.le_of_ble_eq_true rfl) dX2_passMinutes_57 (fun r1 M2 h => ?_)
        refine ml_iload_n (q := 2) F dX2_passMinutes_60 rfl rfl ?_
        refine ml_aload_n (q := 0) F dX2_passMinutes_61 rfl rfl ?_
        refine ml_get (v := ml_rf g (ml_fl i + 5)) F (pf0 g hi) rfl iaX2 1 (by decide) lkX2_21 rfl rfl dX2_passMinutes_62 ?_
        refine ml_callV (av := []) (T := TX1) (N := 8) F (pf5 g hi) rfl h (fun rs h9 => fX1_removeArrived_c i M2 rs hi hst h9) wcX1_removeArrived mlX2_126 wdX1_removeArrived (by decide) (by decide) (by decide) rfl seX1_removeArrived imX1_removeArrived rfl (Nat.le_of_ble_eq_true rfl) dX2_passMinutes_65 (fun r3 M4 h => ?_)
        refine ml_iadd F dX2_passMinutes_68 ?_
        refine ml_istore_n (ls2 := [(2, .int (x2 + r3)), (0, ml_rf g (ml_fl i)), (1, .int x1), (3, .int x3), (4, .int x4)]) F dX2_passMinutes_69 rfl (by decide) rfl ?_
        refine ml_iinc (q := 3) (v := x3 + 1) (ls2 := [(3, .int (x3 + 1)), (2, .int (x2 + r3)), (0, ml_rf g (ml_fl i)), (1, .int x1), (4, .int x4)]) F dX2_passMinutes_70 rfl rfl (by decide) rfl ?_
        refine ml_goto (tgt := 4) F dX2_passMinutes_73 (by decide) ?_
        exact ml_sub [2, 3, 1, 0] rfl ((ih.1) _ _ _ _ _ h)
      · refine ml_aload_n (q := 0) F dX2_passMinutes_32 rfl rfl ?_
        refine ml_get (v := ml_rf g (ml_fl i + 1)) F (pf0 g hi) rfl iaX2 0 (by decide) lkX2_12 rfl rfl dX2_passMinutes_33 ?_
        refine ml_iload (q := 4) F dX2_passMinutes_36 rfl ?_
        refine ml_aload_n (q := 0) F dX2_passMinutes_38 rfl rfl ?_
        refine ml_get (v := ml_rf g (ml_fl i + 1)) F (pf0 g hi) rfl iaX2 0 (by decide) lkX2_12 rfl rfl dX2_passMinutes_39 ?_
        refine ml_iload (q := 4) F dX2_passMinutes_42 rfl ?_
        refine ml_callV (av := [.int x4]) (T := TX5) (N := 8) F (pf1 g hi) rfl h (fun rs h9 => fX5_flowDown_c i x4 M rs hi hst h9) wcX5_flowDown mlX2_116 wdX5_flowDown (by decide) (by decide) (by decide) rfl seX5_flowDown imX5_flowDown rfl (Nat.le_of_ble_eq_true rfl) dX2_passMinutes_44 (fun r5 M6 h => ?_)
        refine ml_callV (av := [.int x4, .int r5]) (T := TX5) (N := 8) F (pf1 g hi) rfl h (fun rs h9 => fX5_moveDown_c i x4 r5 M6 rs hi hst h9) wcX5_moveDown mlX2_119 wdX5_moveDown (by decide) (by decide) (by decide) rfl seX5_moveDown imX5_moveDown rfl (Nat.le_of_ble_eq_true rfl) dX2_passMinutes_47 (fun r7 M8 h => ?_)
        refine ml_iinc (q := 4) (v := x4 + 1) (ls2 := [(4, .int (x4 + 1)), (0, ml_rf g (ml_fl i)), (1, .int x1), (2, .int x2), (3, .int x3)]) F dX2_passMinutes_50 rfl rfl (by decide) rfl ?_
        refine ml_goto (tgt := 26) F dX2_passMinutes_53 (by decide) ?_
        exact ml_sub [1, 2, 3, 4, 0] rfl ((ih.2) _ _ _ _ _ h)
set_option maxRecDepth 100000 in
def fX2_passMinutes (i : Nat) (a0 : Int32) (M : ml_M) : Option ml_R :=
  fX2_passMinutes_l i a0 ml_fuel 0 a0 0 0 0 M
set_option maxHeartbeats 4000000 in
set_option maxRecDepth 100000 in
theorem fX2_passMinutes_c (i : Nat) (a0 : Int32) (M : ml_M) (res : ml_R) (hi : i < 11) {g : ml_G} (hst : g.2.2.2.2.2.stackTraces = false) (h : fX2_passMinutes i a0 M = some res) : ml_C yX2_passMinutes cX2_passMinutes 5 (some .int) 5 0 0 g (fun r _ => some (.int r)) [ml_rf g (ml_fl i), .int a0] M res := by
  refine ml_of [(0, ml_rf g (ml_fl i)), (1, .int a0)] hst (by decide) (Nat.le_of_ble_eq_true rfl) rfl (fun E F => ?_)
  unfold fX2_passMinutes at h
  refine ml_iconst (v := 0) F dX2_passMinutes_0 (by decide) ?_
  refine ml_istore_n (ls2 := [(2, .int 0), (0, ml_rf g (ml_fl i)), (1, .int a0)]) F dX2_passMinutes_1 rfl (by decide) rfl ?_
  refine ml_iconst (v := 0) F dX2_passMinutes_2 (by decide) ?_
  refine ml_istore_n (ls2 := [(3, .int 0), (2, .int 0), (0, ml_rf g (ml_fl i)), (1, .int a0)]) F dX2_passMinutes_3 rfl (by decide) rfl ?_
  exact ml_sub [2, 3, 1, 0] rfl ((fX2_passMinutes_w i a0 hi F ml_fuel).1 _ _ _ _ _ h)
set_option maxRecDepth 100000 in
def fX2_act (i : Nat) (a0 : Int32) (a1 : Int32) (a2 : Int32) (a3 : Int32) (M : ml_M) : Option ml_R :=
  (if a0 = 98 then ml_bd (fX6_colourNumber a1 M) (fun r2 M3 => ml_jn (fun (y4 : Int32) => ml_bd (fX1_put i r2 a2 y4 M3) (fun r7 M8 => some (.inl r7, M8))) (fun B5 => (if a3 = 1 then B5 1 else B5 0))) else (if a0 = 100 then ml_bd (fX2_changeDrain i a1 M) (fun r10 M11 => some (.inl r10, M11)) else (if a0 = 111 then ml_bd (fX2_moveGate i a1 1 M) (fun r13 M14 => some (.inl r13, M14)) else (if a0 = 114 then ml_bd (fX2_changeRain i a1 M) (fun r16 M17 => some (.inl r16, M17)) else (if a0 = 115 then ml_bd (fX2_moveGate i a1 0 M) (fun r19 M20 => some (.inl r19, M20)) else (if a0 = 118 then ml_bd (fX2_turnValve i a1 a2 M) (fun r22 M23 => some (.inl r22, M23)) else (ml_bd (fX2_passMinutes i a1 M) (fun r24 M25 => some (.inl r24, M25)))))))))
set_option maxHeartbeats 4000000 in
set_option maxRecDepth 100000 in
theorem fX2_act_c (i : Nat) (a0 : Int32) (a1 : Int32) (a2 : Int32) (a3 : Int32) (M : ml_M) (res : ml_R) (hi : i < 11) {g : ml_G} (hst : g.2.2.2.2.2.stackTraces = false) (h : fX2_act i a0 a1 a2 a3 M = some res) : ml_C yX2_act cX2_act 5 (some .int) 6 0 0 g (fun r _ => some (.int r)) [ml_rf g (ml_fl i), .int a0, .int a1, .int a2, .int a3] M res := by
  refine ml_of [(0, ml_rf g (ml_fl i)), (1, .int a0), (2, .int a1), (3, .int a2), (4, .int a3)] hst (by decide) (Nat.le_of_ble_eq_true rfl) rfl (fun E F => ?_)
  unfold fX2_act at h
  refine ml_iload_n (q := 1) F dX2_act_0 rfl rfl ?_
  refine ml_ifc h (fun c1 h => ?_) (fun c1 h => ?_)
  · refine ml_lookup (tgt := 60) F dX2_act_1 (by decide) (by rw [c1]; try rfl) (by decide) ?_
    refine ml_aload_n (q := 0) F dX2_act_60 rfl rfl ?_
    refine ml_get (v := ml_rf g (ml_fl i + 5)) F (pf0 g hi) rfl iaX2 1 (by decide) lkX2_21 rfl rfl dX2_act_61 ?_
    refine ml_iload_n (q := 2) F dX2_act_64 rfl rfl ?_
    refine ml_callN (av := [.int a1]) F h (fun rs h9 => fX6_colourNumber_c a1 M rs hst h9) wcX6_colourNumber (idx := 62) (by decide +kernel) wdX6_colourNumber (by decide) (by decide) (by decide) rfl stX6_colourNumber rfl (Nat.le_of_ble_eq_true rfl) dX2_act_65 (fun r2 M3 h => ?_)
    refine ml_iload_n (q := 3) F dX2_act_68 rfl rfl ?_
    refine ml_iload (q := 4) F dX2_act_69 rfl ?_
    refine ml_iconst (v := 1) F dX2_act_71 (by decide) ?_
    refine ml_jnR (P := fun B => ∀ (y4 : Int32), B y4 = some res → ml_J E g 5 (ml_Z E g (fun r _ => some (.int r)) res 0 0) (0 + 0) (0 + 0) 80 [(0, ml_rf g (ml_fl i)), (1, .int a0), (2, .int a1), (3, .int a2), (4, .int a3)] (.int y4 :: .int a2 :: .int r2 :: ml_rf g (ml_fl i + 5) :: []) M3) h ?_ (fun jn6 h => ?_)
    · intro y4 h
      dsimp only at h
      refine ml_callV (av := [.int r2, .int a2, .int y4]) (T := TX1) (N := 8) F (pf5 g hi) rfl h (fun rs h9 => fX1_put_c i r2 a2 y4 M3 rs hi hst h9) wcX1_put mlX2_79 wdX1_put (by decide) (by decide) (by decide) rfl seX1_put imX1_put rfl (Nat.le_of_ble_eq_true rfl) dX2_act_80 (fun r7 M8 h => ?_)
      exact ml_iret (st := []) F (Option.some.inj h) rfl rfl rfl (by decide) (by decide) dX2_act_83
    refine ml_icmp_ne (tgt := 79) F dX2_act_72 (by decide) h (fun _ h => ?_) (fun _ h => ?_)
    · refine ml_iconst (v := 0) F dX2_act_79 (by decide) ?_
      exact ml_sub [0, 1, 2, 3, 4] rfl (jn6 _ h)
    · refine ml_iconst (v := 1) F dX2_act_75 (by decide) ?_
      refine ml_goto (tgt := 80) F dX2_act_76 (by decide) ?_
      exact ml_sub [0, 1, 2, 3, 4] rfl (jn6 _ h)
  refine ml_ifc h (fun c9 h => ?_) (fun c9 h => ?_)
  · refine ml_lookup (tgt := 111) F dX2_act_1 (by decide) (by rw [c9]; try rfl) (by decide) ?_
    refine ml_aload_n (q := 0) F dX2_act_111 rfl rfl ?_
    refine ml_iload_n (q := 2) F dX2_act_112 rfl rfl ?_
    refine ml_callV (av := [.int a1]) (T := TX2) (N := 4) F (pf0 g hi) rfl h (fun rs h9 => fX2_changeDrain_c i a1 M rs hi hst h9) wcX2_changeDrain mlX2_93 wdX2_changeDrain (by decide) (by decide) (by decide) rfl seX2_changeDrain imX2_changeDrain rfl (Nat.le_of_ble_eq_true rfl) dX2_act_113 (fun r10 M11 h => ?_)
    exact ml_iret (st := []) F (Option.some.inj h) rfl rfl rfl (by decide) (by decide) dX2_act_116
  refine ml_ifc h (fun c12 h => ?_) (fun c12 h => ?_)
  · refine ml_lookup (tgt := 91) F dX2_act_1 (by decide) (by rw [c12]; try rfl) (by decide) ?_
    refine ml_aload_n (q := 0) F dX2_act_91 rfl rfl ?_
    refine ml_iload_n (q := 2) F dX2_act_92 rfl rfl ?_
    refine ml_iconst (v := 1) F dX2_act_93 (by decide) ?_
    refine ml_callV (av := [.int a1, .int 1]) (T := TX2) (N := 4) F (pf0 g hi) rfl h (fun rs h9 => fX2_moveGate_c i a1 1 M rs hi hst h9) wcX2_moveGate mlX2_86 wdX2_moveGate (by decide) (by decide) (by decide) rfl seX2_moveGate imX2_moveGate rfl (Nat.le_of_ble_eq_true rfl) dX2_act_94 (fun r13 M14 h => ?_)
    exact ml_iret (st := []) F (Option.some.inj h) rfl rfl rfl (by decide) (by decide) dX2_act_97
  refine ml_ifc h (fun c15 h => ?_) (fun c15 h => ?_)
  · refine ml_lookup (tgt := 105) F dX2_act_1 (by decide) (by rw [c15]; try rfl) (by decide) ?_
    refine ml_aload_n (q := 0) F dX2_act_105 rfl rfl ?_
    refine ml_iload_n (q := 2) F dX2_act_106 rfl rfl ?_
    refine ml_callV (av := [.int a1]) (T := TX2) (N := 4) F (pf0 g hi) rfl h (fun rs h9 => fX2_changeRain_c i a1 M rs hi hst h9) wcX2_changeRain mlX2_90 wdX2_changeRain (by decide) (by decide) (by decide) rfl seX2_changeRain imX2_changeRain rfl (Nat.le_of_ble_eq_true rfl) dX2_act_107 (fun r16 M17 h => ?_)
    exact ml_iret (st := []) F (Option.some.inj h) rfl rfl rfl (by decide) (by decide) dX2_act_110
  refine ml_ifc h (fun c18 h => ?_) (fun c18 h => ?_)
  · refine ml_lookup (tgt := 98) F dX2_act_1 (by decide) (by rw [c18]; try rfl) (by decide) ?_
    refine ml_aload_n (q := 0) F dX2_act_98 rfl rfl ?_
    refine ml_iload_n (q := 2) F dX2_act_99 rfl rfl ?_
    refine ml_iconst (v := 0) F dX2_act_100 (by decide) ?_
    refine ml_callV (av := [.int a1, .int 0]) (T := TX2) (N := 4) F (pf0 g hi) rfl h (fun rs h9 => fX2_moveGate_c i a1 0 M rs hi hst h9) wcX2_moveGate mlX2_86 wdX2_moveGate (by decide) (by decide) (by decide) rfl seX2_moveGate imX2_moveGate rfl (Nat.le_of_ble_eq_true rfl) dX2_act_101 (fun r19 M20 h => ?_)
    exact ml_iret (st := []) F (Option.some.inj h) rfl rfl rfl (by decide) (by decide) dX2_act_104
  refine ml_ifc h (fun c21 h => ?_) (fun c21 h => ?_)
  · refine ml_lookup (tgt := 84) F dX2_act_1 (by decide) (by rw [c21]; try rfl) (by decide) ?_
    refine ml_aload_n (q := 0) F dX2_act_84 rfl rfl ?_
    refine ml_iload_n (q := 2) F dX2_act_85 rfl rfl ?_
    refine ml_iload_n (q := 3) F dX2_act_86 rfl rfl ?_
    refine ml_callV (av := [.int a1, .int a2]) (T := TX2) (N := 4) F (pf0 g hi) rfl h (fun rs h9 => fX2_turnValve_c i a1 a2 M rs hi hst h9) wcX2_turnValve mlX2_83 wdX2_turnValve (by decide) (by decide) (by decide) rfl seX2_turnValve imX2_turnValve rfl (Nat.le_of_ble_eq_true rfl) dX2_act_87 (fun r22 M23 h => ?_)
    exact ml_iret (st := []) F (Option.some.inj h) rfl rfl rfl (by decide) (by decide) dX2_act_90
  refine ml_lookup (tgt := 117) F dX2_act_1 (by decide) (by simp only [Op.lookupswitch.offset_cons, Op.lookupswitch.offset_nil, if_neg (show ¬ ((98 : Int) = _) from ml_ne_i (k := 98) c1), if_neg (show ¬ ((100 : Int) = _) from ml_ne_i (k := 100) c9), if_neg (show ¬ ((111 : Int) = _) from ml_ne_i (k := 111) c12), if_neg (show ¬ ((114 : Int) = _) from ml_ne_i (k := 114) c15), if_neg (show ¬ ((115 : Int) = _) from ml_ne_i (k := 115) c18), if_neg (show ¬ ((118 : Int) = _) from ml_ne_i (k := 118) c21)]; try rfl) (by decide) ?_
  refine ml_aload_n (q := 0) F dX2_act_117 rfl rfl ?_
  refine ml_iload_n (q := 2) F dX2_act_118 rfl rfl ?_
  refine ml_callV (av := [.int a1]) (T := TX2) (N := 4) F (pf0 g hi) rfl h (fun rs h9 => fX2_passMinutes_c i a1 M rs hi hst h9) wcX2_passMinutes mlX2_96 wdX2_passMinutes (by decide) (by decide) (by decide) rfl seX2_passMinutes imX2_passMinutes rfl (Nat.le_of_ble_eq_true rfl) dX2_act_119 (fun r24 M25 h => ?_)
  exact ml_iret (st := []) F (Option.some.inj h) rfl rfl rfl (by decide) (by decide) dX2_act_122
set_option maxRecDepth 100000 in
def fX6_addBoat (a0 : Int32) (a1 : Int32) (a2 : Int32) (M : ml_M) : Option ml_R :=
  ml_bd (fX6_beginChange 98 a0 a1 M) (fun r1 M2 => ml_jn (fun (y3 : Int32) => ml_bd (fX2_act 0 98 a0 a1 y3 M2) (fun r6 M7 => some (.inl r6, M7))) (fun B4 => (if a2 = 0 then B4 0 else B4 1)))
set_option maxHeartbeats 4000000 in
set_option maxRecDepth 100000 in
theorem fX6_addBoat_c (a0 : Int32) (a1 : Int32) (a2 : Int32) (M : ml_M) (res : ml_R) {g : ml_G} (hst : g.2.2.2.2.2.stackTraces = false) (h : fX6_addBoat a0 a1 a2 M = some res) : ml_C yX6_addBoat cX6_addBoat 4 (some .int) 7 1 6 g (fun r _ => some (.int r)) [ml_rf g 0, .int a0, .int a1, .int a2] M res := by
  refine ml_of [(0, ml_rf g 0), (1, .int a0), (2, .int a1), (3, .int a2)] hst (by decide) (Nat.le_of_ble_eq_true rfl) rfl (fun E F => ?_)
  unfold fX6_addBoat at h
  refine ml_aload_n (q := 0) F dX6_addBoat_0 rfl rfl ?_
  refine ml_bipush (v := 98) F dX6_addBoat_1 (by decide) ?_
  refine ml_iload_n (q := 1) F dX6_addBoat_3 rfl rfl ?_
  refine ml_iload_n (q := 2) F dX6_addBoat_4 rfl rfl ?_
  refine ml_callV (av := [.int 98, .int a0, .int a1]) (T := TX6) (N := 9) F (pc0 g) rfl h (fun rs h9 => fX6_beginChange_c 98 a0 a1 M rs hst h9) wcX6_beginChange mlX6_54 wdX6_beginChange (by decide) (by decide) (by decide) rfl seX6_beginChange imX6_beginChange rfl (Nat.le_of_ble_eq_true rfl) dX6_addBoat_5 (fun r1 M2 h => ?_)
  refine ml_aload_n (q := 0) F dX6_addBoat_8 rfl rfl ?_
  refine ml_get (v := ml_rf g (ml_fl 0)) F (pc0 g) rfl iaX6 0 (by decide) lkX6_12 rfl rfl dX6_addBoat_9 ?_
  refine ml_bipush (v := 98) F dX6_addBoat_12 (by decide) ?_
  refine ml_iload_n (q := 1) F dX6_addBoat_14 rfl rfl ?_
  refine ml_iload_n (q := 2) F dX6_addBoat_15 rfl rfl ?_
  refine ml_iload_n (q := 3) F dX6_addBoat_16 rfl rfl ?_
  refine ml_jnR (P := fun B => ∀ (y3 : Int32), B y3 = some res → ml_J E g 4 (ml_Z E g (fun r _ => some (.int r)) res 1 6) (0 + 1) (0 + 6) 25 [(0, ml_rf g 0), (1, .int a0), (2, .int a1), (3, .int a2)] (.int y3 :: .int a1 :: .int a0 :: .int 98 :: ml_rf g (ml_fl 0) :: []) M2) h ?_ (fun jn5 h => ?_)
  · intro y3 h
    dsimp only at h
    refine ml_callV (av := [.int 98, .int a0, .int a1, .int y3]) (T := TX2) (N := 4) F (pf0 g (by decide : 0 < 11)) rfl h (fun rs h9 => fX2_act_c 0 98 a0 a1 y3 M2 rs (by decide : 0 < 11) hst h9) wcX2_act mlX6_58 wdX2_act (by decide) (by decide) (by decide) rfl seX2_act imX2_act rfl (Nat.le_of_ble_eq_true rfl) dX6_addBoat_25 (fun r6 M7 h => ?_)
    exact ml_iret (st := []) F (Option.some.inj h) rfl rfl rfl (by decide) (by decide) dX6_addBoat_28
  refine ml_if_eq (tgt := 24) F dX6_addBoat_17 (by decide) h (fun _ h => ?_) (fun _ h => ?_)
  · refine ml_iconst (v := 0) F dX6_addBoat_24 (by decide) ?_
    exact ml_sub [0, 1, 2, 3] rfl (jn5 _ h)
  · refine ml_iconst (v := 1) F dX6_addBoat_20 (by decide) ?_
    refine ml_goto (tgt := 25) F dX6_addBoat_21 (by decide) ?_
    exact ml_sub [0, 1, 2, 3] rfl (jn5 _ h)
set_option maxRecDepth 100000 in
def fX6_setValve (a0 : Int32) (a1 : Int32) (M : ml_M) : Option ml_R :=
  ml_bd (fX6_beginChange 118 a0 a1 M) (fun r1 M2 => ml_bd (fX2_act 0 118 a0 a1 0 M2) (fun r3 M4 => some (.inl r3, M4)))
set_option maxHeartbeats 4000000 in
set_option maxRecDepth 100000 in
theorem fX6_setValve_c (a0 : Int32) (a1 : Int32) (M : ml_M) (res : ml_R) {g : ml_G} (hst : g.2.2.2.2.2.stackTraces = false) (h : fX6_setValve a0 a1 M = some res) : ml_C yX6_setValve cX6_setValve 3 (some .int) 7 1 6 g (fun r _ => some (.int r)) [ml_rf g 0, .int a0, .int a1] M res := by
  refine ml_of [(0, ml_rf g 0), (1, .int a0), (2, .int a1)] hst (by decide) (Nat.le_of_ble_eq_true rfl) rfl (fun E F => ?_)
  unfold fX6_setValve at h
  refine ml_aload_n (q := 0) F dX6_setValve_0 rfl rfl ?_
  refine ml_bipush (v := 118) F dX6_setValve_1 (by decide) ?_
  refine ml_iload_n (q := 1) F dX6_setValve_3 rfl rfl ?_
  refine ml_iload_n (q := 2) F dX6_setValve_4 rfl rfl ?_
  refine ml_callV (av := [.int 118, .int a0, .int a1]) (T := TX6) (N := 9) F (pc0 g) rfl h (fun rs h9 => fX6_beginChange_c 118 a0 a1 M rs hst h9) wcX6_beginChange mlX6_54 wdX6_beginChange (by decide) (by decide) (by decide) rfl seX6_beginChange imX6_beginChange rfl (Nat.le_of_ble_eq_true rfl) dX6_setValve_5 (fun r1 M2 h => ?_)
  refine ml_aload_n (q := 0) F dX6_setValve_8 rfl rfl ?_
  refine ml_get (v := ml_rf g (ml_fl 0)) F (pc0 g) rfl iaX6 0 (by decide) lkX6_12 rfl rfl dX6_setValve_9 ?_
  refine ml_bipush (v := 118) F dX6_setValve_12 (by decide) ?_
  refine ml_iload_n (q := 1) F dX6_setValve_14 rfl rfl ?_
  refine ml_iload_n (q := 2) F dX6_setValve_15 rfl rfl ?_
  refine ml_iconst (v := 0) F dX6_setValve_16 (by decide) ?_
  refine ml_callV (av := [.int 118, .int a0, .int a1, .int 0]) (T := TX2) (N := 4) F (pf0 g (by decide : 0 < 11)) rfl h (fun rs h9 => fX2_act_c 0 118 a0 a1 0 M2 rs (by decide : 0 < 11) hst h9) wcX2_act mlX6_58 wdX2_act (by decide) (by decide) (by decide) rfl seX2_act imX2_act rfl (Nat.le_of_ble_eq_true rfl) dX6_setValve_17 (fun r3 M4 h => ?_)
  exact ml_iret (st := []) F (Option.some.inj h) rfl rfl rfl (by decide) (by decide) dX6_setValve_20
set_option maxRecDepth 100000 in
def fX6_openGate (a0 : Int32) (M : ml_M) : Option ml_R :=
  ml_bd (fX6_beginChange 111 a0 0 M) (fun r1 M2 => ml_bd (fX2_act 0 111 a0 0 0 M2) (fun r3 M4 => some (.inl r3, M4)))
set_option maxHeartbeats 4000000 in
set_option maxRecDepth 100000 in
theorem fX6_openGate_c (a0 : Int32) (M : ml_M) (res : ml_R) {g : ml_G} (hst : g.2.2.2.2.2.stackTraces = false) (h : fX6_openGate a0 M = some res) : ml_C yX6_openGate cX6_openGate 2 (some .int) 7 1 6 g (fun r _ => some (.int r)) [ml_rf g 0, .int a0] M res := by
  refine ml_of [(0, ml_rf g 0), (1, .int a0)] hst (by decide) (Nat.le_of_ble_eq_true rfl) rfl (fun E F => ?_)
  unfold fX6_openGate at h
  refine ml_aload_n (q := 0) F dX6_openGate_0 rfl rfl ?_
  refine ml_bipush (v := 111) F dX6_openGate_1 (by decide) ?_
  refine ml_iload_n (q := 1) F dX6_openGate_3 rfl rfl ?_
  refine ml_iconst (v := 0) F dX6_openGate_4 (by decide) ?_
  refine ml_callV (av := [.int 111, .int a0, .int 0]) (T := TX6) (N := 9) F (pc0 g) rfl h (fun rs h9 => fX6_beginChange_c 111 a0 0 M rs hst h9) wcX6_beginChange mlX6_54 wdX6_beginChange (by decide) (by decide) (by decide) rfl seX6_beginChange imX6_beginChange rfl (Nat.le_of_ble_eq_true rfl) dX6_openGate_5 (fun r1 M2 h => ?_)
  refine ml_aload_n (q := 0) F dX6_openGate_8 rfl rfl ?_
  refine ml_get (v := ml_rf g (ml_fl 0)) F (pc0 g) rfl iaX6 0 (by decide) lkX6_12 rfl rfl dX6_openGate_9 ?_
  refine ml_bipush (v := 111) F dX6_openGate_12 (by decide) ?_
  refine ml_iload_n (q := 1) F dX6_openGate_14 rfl rfl ?_
  refine ml_iconst (v := 0) F dX6_openGate_15 (by decide) ?_
  refine ml_iconst (v := 0) F dX6_openGate_16 (by decide) ?_
  refine ml_callV (av := [.int 111, .int a0, .int 0, .int 0]) (T := TX2) (N := 4) F (pf0 g (by decide : 0 < 11)) rfl h (fun rs h9 => fX2_act_c 0 111 a0 0 0 M2 rs (by decide : 0 < 11) hst h9) wcX2_act mlX6_58 wdX2_act (by decide) (by decide) (by decide) rfl seX2_act imX2_act rfl (Nat.le_of_ble_eq_true rfl) dX6_openGate_17 (fun r3 M4 h => ?_)
  exact ml_iret (st := []) F (Option.some.inj h) rfl rfl rfl (by decide) (by decide) dX6_openGate_20
set_option maxRecDepth 100000 in
def fX6_shutGate (a0 : Int32) (M : ml_M) : Option ml_R :=
  ml_bd (fX6_beginChange 115 a0 0 M) (fun r1 M2 => ml_bd (fX2_act 0 115 a0 0 0 M2) (fun r3 M4 => some (.inl r3, M4)))
set_option maxHeartbeats 4000000 in
set_option maxRecDepth 100000 in
theorem fX6_shutGate_c (a0 : Int32) (M : ml_M) (res : ml_R) {g : ml_G} (hst : g.2.2.2.2.2.stackTraces = false) (h : fX6_shutGate a0 M = some res) : ml_C yX6_shutGate cX6_shutGate 2 (some .int) 7 1 6 g (fun r _ => some (.int r)) [ml_rf g 0, .int a0] M res := by
  refine ml_of [(0, ml_rf g 0), (1, .int a0)] hst (by decide) (Nat.le_of_ble_eq_true rfl) rfl (fun E F => ?_)
  unfold fX6_shutGate at h
  refine ml_aload_n (q := 0) F dX6_shutGate_0 rfl rfl ?_
  refine ml_bipush (v := 115) F dX6_shutGate_1 (by decide) ?_
  refine ml_iload_n (q := 1) F dX6_shutGate_3 rfl rfl ?_
  refine ml_iconst (v := 0) F dX6_shutGate_4 (by decide) ?_
  refine ml_callV (av := [.int 115, .int a0, .int 0]) (T := TX6) (N := 9) F (pc0 g) rfl h (fun rs h9 => fX6_beginChange_c 115 a0 0 M rs hst h9) wcX6_beginChange mlX6_54 wdX6_beginChange (by decide) (by decide) (by decide) rfl seX6_beginChange imX6_beginChange rfl (Nat.le_of_ble_eq_true rfl) dX6_shutGate_5 (fun r1 M2 h => ?_)
  refine ml_aload_n (q := 0) F dX6_shutGate_8 rfl rfl ?_
  refine ml_get (v := ml_rf g (ml_fl 0)) F (pc0 g) rfl iaX6 0 (by decide) lkX6_12 rfl rfl dX6_shutGate_9 ?_
  refine ml_bipush (v := 115) F dX6_shutGate_12 (by decide) ?_
  refine ml_iload_n (q := 1) F dX6_shutGate_14 rfl rfl ?_
  refine ml_iconst (v := 0) F dX6_shutGate_15 (by decide) ?_
  refine ml_iconst (v := 0) F dX6_shutGate_16 (by decide) ?_
  refine ml_callV (av := [.int 115, .int a0, .int 0, .int 0]) (T := TX2) (N := 4) F (pf0 g (by decide : 0 < 11)) rfl h (fun rs h9 => fX2_act_c 0 115 a0 0 0 M2 rs (by decide : 0 < 11) hst h9) wcX2_act mlX6_58 wdX2_act (by decide) (by decide) (by decide) rfl seX2_act imX2_act rfl (Nat.le_of_ble_eq_true rfl) dX6_shutGate_17 (fun r3 M4 h => ?_)
  exact ml_iret (st := []) F (Option.some.inj h) rfl rfl rfl (by decide) (by decide) dX6_shutGate_20
set_option maxRecDepth 100000 in
def fX6_setRain (a0 : Int32) (M : ml_M) : Option ml_R :=
  ml_bd (fX6_beginChange 114 a0 0 M) (fun r1 M2 => ml_bd (fX2_act 0 114 a0 0 0 M2) (fun r3 M4 => some (.inl r3, M4)))
set_option maxHeartbeats 4000000 in
set_option maxRecDepth 100000 in
theorem fX6_setRain_c (a0 : Int32) (M : ml_M) (res : ml_R) {g : ml_G} (hst : g.2.2.2.2.2.stackTraces = false) (h : fX6_setRain a0 M = some res) : ml_C yX6_setRain cX6_setRain 2 (some .int) 7 1 6 g (fun r _ => some (.int r)) [ml_rf g 0, .int a0] M res := by
  refine ml_of [(0, ml_rf g 0), (1, .int a0)] hst (by decide) (Nat.le_of_ble_eq_true rfl) rfl (fun E F => ?_)
  unfold fX6_setRain at h
  refine ml_aload_n (q := 0) F dX6_setRain_0 rfl rfl ?_
  refine ml_bipush (v := 114) F dX6_setRain_1 (by decide) ?_
  refine ml_iload_n (q := 1) F dX6_setRain_3 rfl rfl ?_
  refine ml_iconst (v := 0) F dX6_setRain_4 (by decide) ?_
  refine ml_callV (av := [.int 114, .int a0, .int 0]) (T := TX6) (N := 9) F (pc0 g) rfl h (fun rs h9 => fX6_beginChange_c 114 a0 0 M rs hst h9) wcX6_beginChange mlX6_54 wdX6_beginChange (by decide) (by decide) (by decide) rfl seX6_beginChange imX6_beginChange rfl (Nat.le_of_ble_eq_true rfl) dX6_setRain_5 (fun r1 M2 h => ?_)
  refine ml_aload_n (q := 0) F dX6_setRain_8 rfl rfl ?_
  refine ml_get (v := ml_rf g (ml_fl 0)) F (pc0 g) rfl iaX6 0 (by decide) lkX6_12 rfl rfl dX6_setRain_9 ?_
  refine ml_bipush (v := 114) F dX6_setRain_12 (by decide) ?_
  refine ml_iload_n (q := 1) F dX6_setRain_14 rfl rfl ?_
  refine ml_iconst (v := 0) F dX6_setRain_15 (by decide) ?_
  refine ml_iconst (v := 0) F dX6_setRain_16 (by decide) ?_
  refine ml_callV (av := [.int 114, .int a0, .int 0, .int 0]) (T := TX2) (N := 4) F (pf0 g (by decide : 0 < 11)) rfl h (fun rs h9 => fX2_act_c 0 114 a0 0 0 M2 rs (by decide : 0 < 11) hst h9) wcX2_act mlX6_58 wdX2_act (by decide) (by decide) (by decide) rfl seX2_act imX2_act rfl (Nat.le_of_ble_eq_true rfl) dX6_setRain_17 (fun r3 M4 h => ?_)
  exact ml_iret (st := []) F (Option.some.inj h) rfl rfl rfl (by decide) (by decide) dX6_setRain_20
set_option maxRecDepth 100000 in
def fX6_setDrain (a0 : Int32) (M : ml_M) : Option ml_R :=
  ml_bd (fX6_beginChange 100 a0 0 M) (fun r1 M2 => ml_bd (fX2_act 0 100 a0 0 0 M2) (fun r3 M4 => some (.inl r3, M4)))
set_option maxHeartbeats 4000000 in
set_option maxRecDepth 100000 in
theorem fX6_setDrain_c (a0 : Int32) (M : ml_M) (res : ml_R) {g : ml_G} (hst : g.2.2.2.2.2.stackTraces = false) (h : fX6_setDrain a0 M = some res) : ml_C yX6_setDrain cX6_setDrain 2 (some .int) 7 1 6 g (fun r _ => some (.int r)) [ml_rf g 0, .int a0] M res := by
  refine ml_of [(0, ml_rf g 0), (1, .int a0)] hst (by decide) (Nat.le_of_ble_eq_true rfl) rfl (fun E F => ?_)
  unfold fX6_setDrain at h
  refine ml_aload_n (q := 0) F dX6_setDrain_0 rfl rfl ?_
  refine ml_bipush (v := 100) F dX6_setDrain_1 (by decide) ?_
  refine ml_iload_n (q := 1) F dX6_setDrain_3 rfl rfl ?_
  refine ml_iconst (v := 0) F dX6_setDrain_4 (by decide) ?_
  refine ml_callV (av := [.int 100, .int a0, .int 0]) (T := TX6) (N := 9) F (pc0 g) rfl h (fun rs h9 => fX6_beginChange_c 100 a0 0 M rs hst h9) wcX6_beginChange mlX6_54 wdX6_beginChange (by decide) (by decide) (by decide) rfl seX6_beginChange imX6_beginChange rfl (Nat.le_of_ble_eq_true rfl) dX6_setDrain_5 (fun r1 M2 h => ?_)
  refine ml_aload_n (q := 0) F dX6_setDrain_8 rfl rfl ?_
  refine ml_get (v := ml_rf g (ml_fl 0)) F (pc0 g) rfl iaX6 0 (by decide) lkX6_12 rfl rfl dX6_setDrain_9 ?_
  refine ml_bipush (v := 100) F dX6_setDrain_12 (by decide) ?_
  refine ml_iload_n (q := 1) F dX6_setDrain_14 rfl rfl ?_
  refine ml_iconst (v := 0) F dX6_setDrain_15 (by decide) ?_
  refine ml_iconst (v := 0) F dX6_setDrain_16 (by decide) ?_
  refine ml_callV (av := [.int 100, .int a0, .int 0, .int 0]) (T := TX2) (N := 4) F (pf0 g (by decide : 0 < 11)) rfl h (fun rs h9 => fX2_act_c 0 100 a0 0 0 M2 rs (by decide : 0 < 11) hst h9) wcX2_act mlX6_58 wdX2_act (by decide) (by decide) (by decide) rfl seX2_act imX2_act rfl (Nat.le_of_ble_eq_true rfl) dX6_setDrain_17 (fun r3 M4 h => ?_)
  exact ml_iret (st := []) F (Option.some.inj h) rfl rfl rfl (by decide) (by decide) dX6_setDrain_20
set_option maxRecDepth 100000 in
def fX6_advance (a0 : Int32) (M : ml_M) : Option ml_R :=
  ml_bd (fX6_beginChange 119 a0 0 M) (fun r1 M2 => ml_bd (fX2_act 0 119 a0 0 0 M2) (fun r3 M4 => some (.inl r3, M4)))
set_option maxHeartbeats 4000000 in
set_option maxRecDepth 100000 in
theorem fX6_advance_c (a0 : Int32) (M : ml_M) (res : ml_R) {g : ml_G} (hst : g.2.2.2.2.2.stackTraces = false) (h : fX6_advance a0 M = some res) : ml_C yX6_advance cX6_advance 2 (some .int) 7 1 6 g (fun r _ => some (.int r)) [ml_rf g 0, .int a0] M res := by
  refine ml_of [(0, ml_rf g 0), (1, .int a0)] hst (by decide) (Nat.le_of_ble_eq_true rfl) rfl (fun E F => ?_)
  unfold fX6_advance at h
  refine ml_aload_n (q := 0) F dX6_advance_0 rfl rfl ?_
  refine ml_bipush (v := 119) F dX6_advance_1 (by decide) ?_
  refine ml_iload_n (q := 1) F dX6_advance_3 rfl rfl ?_
  refine ml_iconst (v := 0) F dX6_advance_4 (by decide) ?_
  refine ml_callV (av := [.int 119, .int a0, .int 0]) (T := TX6) (N := 9) F (pc0 g) rfl h (fun rs h9 => fX6_beginChange_c 119 a0 0 M rs hst h9) wcX6_beginChange mlX6_54 wdX6_beginChange (by decide) (by decide) (by decide) rfl seX6_beginChange imX6_beginChange rfl (Nat.le_of_ble_eq_true rfl) dX6_advance_5 (fun r1 M2 h => ?_)
  refine ml_aload_n (q := 0) F dX6_advance_8 rfl rfl ?_
  refine ml_get (v := ml_rf g (ml_fl 0)) F (pc0 g) rfl iaX6 0 (by decide) lkX6_12 rfl rfl dX6_advance_9 ?_
  refine ml_bipush (v := 119) F dX6_advance_12 (by decide) ?_
  refine ml_iload_n (q := 1) F dX6_advance_14 rfl rfl ?_
  refine ml_iconst (v := 0) F dX6_advance_15 (by decide) ?_
  refine ml_iconst (v := 0) F dX6_advance_16 (by decide) ?_
  refine ml_callV (av := [.int 119, .int a0, .int 0, .int 0]) (T := TX2) (N := 4) F (pf0 g (by decide : 0 < 11)) rfl h (fun rs h9 => fX2_act_c 0 119 a0 0 0 M2 rs (by decide : 0 < 11) hst h9) wcX2_act mlX6_58 wdX2_act (by decide) (by decide) (by decide) rfl seX2_act imX2_act rfl (Nat.le_of_ble_eq_true rfl) dX6_advance_17 (fun r3 M4 h => ?_)
  exact ml_iret (st := []) F (Option.some.inj h) rfl rfl rfl (by decide) (by decide) dX6_advance_20
set_option maxRecDepth 100000 in
def fX6_needBasin (a0 : Int32) (M : ml_M) : Option ml_R :=
  (if a0 < 0 then some (.inr 1, M) else (if a0 < 5 then some (.inl 0, M) else some (.inr 1, M)))
set_option maxHeartbeats 4000000 in
set_option maxRecDepth 100000 in
theorem fX6_needBasin_c (a0 : Int32) (M : ml_M) (res : ml_R) {g : ml_G} (hst : g.2.2.2.2.2.stackTraces = false) (h : fX6_needBasin a0 M = some res) : ml_C yX6_needBasin cX6_needBasin 1 none 1 1 6 g (fun _ _ => none) [.int a0] M res := by
  refine ml_of [(0, .int a0)] hst (by decide) (Nat.le_of_ble_eq_true rfl) rfl (fun E F => ?_)
  unfold fX6_needBasin at h
  refine ml_iload_n (q := 0) F dX6_needBasin_0 rfl rfl ?_
  refine ml_if_lt (tgt := 9) F dX6_needBasin_1 (by decide) h (fun _ h => ?_) (fun _ h => ?_)
  · exact ml_throwW (text := "no such basin") F (Option.some.inj h) ml_tw1 (by decide +kernel) (Nat.le_of_ble_eq_true rfl) (by decide) (by decide) dX6_needBasin_9 dX6_needBasin_12 dX6_needBasin_13 dX6_needBasin_16 dX6_needBasin_19
  · refine ml_iload_n (q := 0) F dX6_needBasin_4 rfl rfl ?_
    refine ml_iconst (v := 5) F dX6_needBasin_5 (by decide) ?_
    refine ml_icmp_lt (tgt := 20) F dX6_needBasin_6 (by decide) h (fun _ h => ?_) (fun _ h => ?_)
    · exact ml_vret (st := []) F (Option.some.inj h) rfl rfl (by decide) (by decide) dX6_needBasin_20
    · exact ml_throwW (text := "no such basin") F (Option.some.inj h) ml_tw1 (by decide +kernel) (Nat.le_of_ble_eq_true rfl) (by decide) (by decide) dX6_needBasin_9 dX6_needBasin_12 dX6_needBasin_13 dX6_needBasin_16 dX6_needBasin_19
set_option maxRecDepth 100000 in
def fX6_area (a0 : Int32) (M : ml_M) : Option ml_R :=
  ml_bd (fX6_needBasin a0 M) (fun r1 M2 => ml_bd (fX6_areaOf a0 M2) (fun r3 M4 => some (.inl r3, M4)))
set_option maxHeartbeats 4000000 in
set_option maxRecDepth 100000 in
theorem fX6_area_c (a0 : Int32) (M : ml_M) (res : ml_R) {g : ml_G} (hst : g.2.2.2.2.2.stackTraces = false) (h : fX6_area a0 M = some res) : ml_C yX6_area cX6_area 2 (some .int) 2 1 6 g (fun r _ => some (.int r)) [ml_rf g 0, .int a0] M res := by
  refine ml_of [(0, ml_rf g 0), (1, .int a0)] hst (by decide) (Nat.le_of_ble_eq_true rfl) rfl (fun E F => ?_)
  unfold fX6_area at h
  refine ml_iload_n (q := 1) F dX6_area_0 rfl rfl ?_
  refine ml_callS (av := [.int a0]) F h (fun rs h9 => fX6_needBasin_c a0 M rs hst h9) wcX6_needBasin mlX6_62 wdX6_needBasin (by decide) (by decide) (by decide) rfl stX6_needBasin rfl (Nat.le_of_ble_eq_true rfl) dX6_area_1 (fun r1 M2 h => ?_)
  refine ml_iload_n (q := 1) F dX6_area_4 rfl rfl ?_
  refine ml_callS (av := [.int a0]) F h (fun rs h9 => fX6_areaOf_c a0 M2 rs hst h9) wcX6_areaOf mlX6_66 wdX6_areaOf (by decide) (by decide) (by decide) rfl stX6_areaOf rfl (Nat.le_of_ble_eq_true rfl) dX6_area_5 (fun r3 M4 h => ?_)
  exact ml_iret (st := []) F (Option.some.inj h) rfl rfl rfl (by decide) (by decide) dX6_area_8
set_option maxRecDepth 100000 in
def fX6_volume (a0 : Int32) (M : ml_M) : Option ml_R :=
  ml_bd (fX6_needBasin a0 M) (fun r1 M2 => if ml_ok a0 5 then some (.inl (M2 (ml_fl 0 + 2) a0.toNatClampNeg), M2) else none)
set_option maxHeartbeats 4000000 in
set_option maxRecDepth 100000 in
theorem fX6_volume_c (a0 : Int32) (M : ml_M) (res : ml_R) {g : ml_G} (hst : g.2.2.2.2.2.stackTraces = false) (h : fX6_volume a0 M = some res) : ml_C yX6_volume cX6_volume 2 (some .int) 2 1 6 g (fun r _ => some (.int r)) [ml_rf g 0, .int a0] M res := by
  refine ml_of [(0, ml_rf g 0), (1, .int a0)] hst (by decide) (Nat.le_of_ble_eq_true rfl) rfl (fun E F => ?_)
  unfold fX6_volume at h
  refine ml_iload_n (q := 1) F dX6_volume_0 rfl rfl ?_
  refine ml_callS (av := [.int a0]) F h (fun rs h9 => fX6_needBasin_c a0 M rs hst h9) wcX6_needBasin mlX6_62 wdX6_needBasin (by decide) (by decide) (by decide) rfl stX6_needBasin rfl (Nat.le_of_ble_eq_true rfl) dX6_volume_1 (fun r1 M2 h => ?_)
  refine ml_aload_n (q := 0) F dX6_volume_4 rfl rfl ?_
  refine ml_get (v := ml_rf g (ml_fl 0)) F (pc0 g) rfl iaX6 0 (by decide) lkX6_12 rfl rfl dX6_volume_5 ?_
  refine ml_get (v := ml_rf g (ml_fl 0 + 1)) F (pf0 g (by decide : 0 < 11)) rfl iaX2 0 (by decide) lkX6_70 rfl rfl dX6_volume_8 ?_
  refine ml_get (v := ml_rf g (ml_fl 0 + 2)) F (pf1 g (by decide : 0 < 11)) rfl iaX5 0 (by decide) lkX6_74 rfl rfl dX6_volume_11 ?_
  refine ml_iload_n (q := 1) F dX6_volume_14 rfl rfl ?_
  refine ml_iald F (pf2 g (by decide : 0 < 11)) h dX6_volume_15 (fun h => ?_)
  exact ml_iret (st := []) F (Option.some.inj h) rfl rfl rfl (by decide) (by decide) dX6_volume_16
set_option maxRecDepth 100000 in
def fX6_level (a0 : Int32) (M : ml_M) : Option ml_R :=
  ml_bd (fX6_needBasin a0 M) (fun r1 M2 => ml_bd (fX5_roundedLevel 0 a0 M2) (fun r3 M4 => some (.inl r3, M4)))
set_option maxHeartbeats 4000000 in
set_option maxRecDepth 100000 in
theorem fX6_level_c (a0 : Int32) (M : ml_M) (res : ml_R) {g : ml_G} (hst : g.2.2.2.2.2.stackTraces = false) (h : fX6_level a0 M = some res) : ml_C yX6_level cX6_level 2 (some .int) 3 1 6 g (fun r _ => some (.int r)) [ml_rf g 0, .int a0] M res := by
  refine ml_of [(0, ml_rf g 0), (1, .int a0)] hst (by decide) (Nat.le_of_ble_eq_true rfl) rfl (fun E F => ?_)
  unfold fX6_level at h
  refine ml_iload_n (q := 1) F dX6_level_0 rfl rfl ?_
  refine ml_callS (av := [.int a0]) F h (fun rs h9 => fX6_needBasin_c a0 M rs hst h9) wcX6_needBasin mlX6_62 wdX6_needBasin (by decide) (by decide) (by decide) rfl stX6_needBasin rfl (Nat.le_of_ble_eq_true rfl) dX6_level_1 (fun r1 M2 h => ?_)
  refine ml_aload_n (q := 0) F dX6_level_4 rfl rfl ?_
  refine ml_get (v := ml_rf g (ml_fl 0)) F (pc0 g) rfl iaX6 0 (by decide) lkX6_12 rfl rfl dX6_level_5 ?_
  refine ml_get (v := ml_rf g (ml_fl 0 + 1)) F (pf0 g (by decide : 0 < 11)) rfl iaX2 0 (by decide) lkX6_70 rfl rfl dX6_level_8 ?_
  refine ml_iload_n (q := 1) F dX6_level_11 rfl rfl ?_
  refine ml_callV (av := [.int a0]) (T := TX5) (N := 8) F (pf1 g (by decide : 0 < 11)) rfl h (fun rs h9 => fX5_roundedLevel_c 0 a0 M2 rs (by decide : 0 < 11) hst h9) wcX5_roundedLevel mlX6_80 wdX5_roundedLevel (by decide) (by decide) (by decide) rfl seX5_roundedLevel imX5_roundedLevel rfl (Nat.le_of_ble_eq_true rfl) dX6_level_12 (fun r3 M4 h => ?_)
  exact ml_iret (st := []) F (Option.some.inj h) rfl rfl rfl (by decide) (by decide) dX6_level_15
set_option maxRecDepth 100000 in
def fX6_exactLevel (a0 : Int32) (M : ml_M) : Option ml_R :=
  ml_bd (fX6_needBasin a0 M) (fun r1 M2 => if ml_ok a0 5 then ml_bd (fX6_areaOf a0 M2) (fun r3 M4 => if (FP.ddiv (FP.i2d (M2 (ml_fl 0 + 2) a0.toNatClampNeg)) (FP.i2d r3)) &&& 0x7fffffffffffffff ≤ 0x7ff0000000000000 then some (.inl 0, (ml_w (ml_w M4 200 0 (M2 (ml_fl 0 + 2) a0.toNatClampNeg)) 200 1 r3)) else none) else none)
set_option maxHeartbeats 4000000 in
set_option maxRecDepth 100000 in
theorem fX6_exactLevel_c (a0 : Int32) (M : ml_M) (res : ml_R) {g : ml_G} (hst : g.2.2.2.2.2.stackTraces = false) (h : fX6_exactLevel a0 M = some res) : ml_C yX6_exactLevel cX6_exactLevel 2 (some .double) 2 1 6 g (fun _ M => some (.double (FP.ddiv (FP.i2d (M 200 0)) (FP.i2d (M 200 1))))) [ml_rf g 0, .int a0] M res := by
  refine ml_of [(0, ml_rf g 0), (1, .int a0)] hst (by decide) (Nat.le_of_ble_eq_true rfl) rfl (fun E F => ?_)
  unfold fX6_exactLevel at h
  refine ml_iload_n (q := 1) F dX6_exactLevel_0 rfl rfl ?_
  refine ml_callS (av := [.int a0]) F h (fun rs h9 => fX6_needBasin_c a0 M rs hst h9) wcX6_needBasin mlX6_62 wdX6_needBasin (by decide) (by decide) (by decide) rfl stX6_needBasin rfl (Nat.le_of_ble_eq_true rfl) dX6_exactLevel_1 (fun r1 M2 h => ?_)
  refine ml_aload_n (q := 0) F dX6_exactLevel_4 rfl rfl ?_
  refine ml_get (v := ml_rf g (ml_fl 0)) F (pc0 g) rfl iaX6 0 (by decide) lkX6_12 rfl rfl dX6_exactLevel_5 ?_
  refine ml_get (v := ml_rf g (ml_fl 0 + 1)) F (pf0 g (by decide : 0 < 11)) rfl iaX2 0 (by decide) lkX6_70 rfl rfl dX6_exactLevel_8 ?_
  refine ml_get (v := ml_rf g (ml_fl 0 + 2)) F (pf1 g (by decide : 0 < 11)) rfl iaX5 0 (by decide) lkX6_74 rfl rfl dX6_exactLevel_11 ?_
  refine ml_iload_n (q := 1) F dX6_exactLevel_14 rfl rfl ?_
  refine ml_iald F (pf2 g (by decide : 0 < 11)) h dX6_exactLevel_15 (fun h => ?_)
  refine ml_i2d F dX6_exactLevel_16 ?_
  refine ml_iload_n (q := 1) F dX6_exactLevel_17 rfl rfl ?_
  refine ml_callS (av := [.int a0]) F h (fun rs h9 => fX6_areaOf_c a0 M2 rs hst h9) wcX6_areaOf mlX6_66 wdX6_areaOf (by decide) (by decide) (by decide) rfl stX6_areaOf rfl (Nat.le_of_ble_eq_true rfl) dX6_exactLevel_18 (fun r3 M4 h => ?_)
  refine ml_i2d F dX6_exactLevel_21 ?_
  obtain ⟨q5, h⟩ := ml_if h
  refine ml_ddiv F dX6_exactLevel_22 q5 ?_
  refine ml_scr (ml_w (ml_w M4 200 0 (M2 (ml_fl 0 + 2) a0.toNatClampNeg)) 200 1 r3) (fun k hk => by rw [ml_w_ne (by omega), ml_w_ne (by omega)]) ?_
  exact ml_dret (st := []) (v := FP.ddiv (FP.i2d (M2 (ml_fl 0 + 2) a0.toNatClampNeg)) (FP.i2d r3)) F (Option.some.inj h) (by rfl) rfl (by decide) (by decide) dX6_exactLevel_23
set_option maxRecDepth 100000 in
def fX6_isHigher (a0 : Int32) (a1 : Int32) (M : ml_M) : Option ml_R :=
  ml_bd (fX6_needBasin a0 M) (fun r1 M2 => ml_bd (fX6_needBasin a1 M2) (fun r3 M4 => ml_bd (fX5_difference 0 a0 a1 M4) (fun r5 M6 => ml_jn (fun (y7 : Int32) => if narrow .boolean (.int y7) = .int y7 then some (.inl y7, M6) else none) (fun B8 => (if r5 ≤ 0 then B8 0 else B8 1)))))
set_option maxHeartbeats 4000000 in
set_option maxRecDepth 100000 in
theorem fX6_isHigher_c (a0 : Int32) (a1 : Int32) (M : ml_M) (res : ml_R) {g : ml_G} (hst : g.2.2.2.2.2.stackTraces = false) (h : fX6_isHigher a0 a1 M = some res) : ml_C yX6_isHigher cX6_isHigher 3 (some .boolean) 3 2 12 g (fun r _ => some (.int r)) [ml_rf g 0, .int a0, .int a1] M res := by
  refine ml_of [(0, ml_rf g 0), (1, .int a0), (2, .int a1)] hst (by decide) (Nat.le_of_ble_eq_true rfl) rfl (fun E F => ?_)
  unfold fX6_isHigher at h
  refine ml_iload_n (q := 1) F dX6_isHigher_0 rfl rfl ?_
  refine ml_callS (av := [.int a0]) F h (fun rs h9 => fX6_needBasin_c a0 M rs hst h9) wcX6_needBasin mlX6_62 wdX6_needBasin (by decide) (by decide) (by decide) rfl stX6_needBasin rfl (Nat.le_of_ble_eq_true rfl) dX6_isHigher_1 (fun r1 M2 h => ?_)
  refine ml_iload_n (q := 2) F dX6_isHigher_4 rfl rfl ?_
  refine ml_callS (av := [.int a1]) F h (fun rs h9 => fX6_needBasin_c a1 M2 rs hst h9) wcX6_needBasin mlX6_62 wdX6_needBasin (by decide) (by decide) (by decide) rfl stX6_needBasin rfl (Nat.le_of_ble_eq_true rfl) dX6_isHigher_5 (fun r3 M4 h => ?_)
  refine ml_aload_n (q := 0) F dX6_isHigher_8 rfl rfl ?_
  refine ml_get (v := ml_rf g (ml_fl 0)) F (pc0 g) rfl iaX6 0 (by decide) lkX6_12 rfl rfl dX6_isHigher_9 ?_
  refine ml_get (v := ml_rf g (ml_fl 0 + 1)) F (pf0 g (by decide : 0 < 11)) rfl iaX2 0 (by decide) lkX6_70 rfl rfl dX6_isHigher_12 ?_
  refine ml_iload_n (q := 1) F dX6_isHigher_15 rfl rfl ?_
  refine ml_iload_n (q := 2) F dX6_isHigher_16 rfl rfl ?_
  refine ml_callV (av := [.int a0, .int a1]) (T := TX5) (N := 8) F (pf1 g (by decide : 0 < 11)) rfl h (fun rs h9 => fX5_difference_c 0 a0 a1 M4 rs (by decide : 0 < 11) hst h9) wcX5_difference mlX6_83 wdX5_difference (by decide) (by decide) (by decide) rfl seX5_difference imX5_difference rfl (Nat.le_of_ble_eq_true rfl) dX6_isHigher_17 (fun r5 M6 h => ?_)
  refine ml_jnR (P := fun B => ∀ (y7 : Int32), B y7 = some res → ml_J E g 3 (ml_Z E g (fun r _ => some (.int r)) res 2 12) (0 + 1 + 1 + 0) (0 + 6 + 6 + 0) 28 [(0, ml_rf g 0), (1, .int a0), (2, .int a1)] (.int y7 :: []) M6) h ?_ (fun jn9 h => ?_)
  · intro y7 h
    dsimp only at h
    obtain ⟨q10, h⟩ := ml_if h
    exact ml_iret (st := []) F (Option.some.inj h) rfl rfl q10 (by decide) (by decide) dX6_isHigher_28
  refine ml_if_le (tgt := 27) F dX6_isHigher_20 (by decide) h (fun _ h => ?_) (fun _ h => ?_)
  · refine ml_iconst (v := 0) F dX6_isHigher_27 (by decide) ?_
    exact ml_sub [0, 1, 2] rfl (jn9 _ h)
  · refine ml_iconst (v := 1) F dX6_isHigher_23 (by decide) ?_
    refine ml_goto (tgt := 28) F dX6_isHigher_24 (by decide) ?_
    exact ml_sub [0, 1, 2] rfl (jn9 _ h)
set_option maxRecDepth 100000 in
def fX6_needGate (a0 : Int32) (M : ml_M) : Option ml_R :=
  ml_bd (fX6_isGate a0 M) (fun r1 M2 => (if r1 = 0 then some (.inr 1, M2) else some (.inl 0, M2)))
set_option maxHeartbeats 4000000 in
set_option maxRecDepth 100000 in
theorem fX6_needGate_c (a0 : Int32) (M : ml_M) (res : ml_R) {g : ml_G} (hst : g.2.2.2.2.2.stackTraces = false) (h : fX6_needGate a0 M = some res) : ml_C yX6_needGate cX6_needGate 1 none 2 1 6 g (fun _ _ => none) [.int a0] M res := by
  refine ml_of [(0, .int a0)] hst (by decide) (Nat.le_of_ble_eq_true rfl) rfl (fun E F => ?_)
  unfold fX6_needGate at h
  refine ml_iload_n (q := 0) F dX6_needGate_0 rfl rfl ?_
  refine ml_callS (av := [.int a0]) F h (fun rs h9 => fX6_isGate_c a0 M rs hst h9) wcX6_isGate mlX6_328 wdX6_isGate (by decide) (by decide) (by decide) rfl stX6_isGate rfl (Nat.le_of_ble_eq_true rfl) dX6_needGate_1 (fun r1 M2 h => ?_)
  refine ml_if_ne (tgt := 18) F dX6_needGate_4 (by decide) h (fun _ h => ?_) (fun _ h => ?_)
  · exact ml_vret (st := []) F (Option.some.inj h) rfl rfl (by decide) (by decide) dX6_needGate_18
  · exact ml_throwW (text := "no such valve or gate") F (Option.some.inj h) ml_tw1 (by decide +kernel) (Nat.le_of_ble_eq_true rfl) (by decide) (by decide) dX6_needGate_7 dX6_needGate_10 dX6_needGate_11 dX6_needGate_14 dX6_needGate_17
set_option maxRecDepth 100000 in
def fX6_equalizingAmount (a0 : Int32) (M : ml_M) : Option ml_R :=
  ml_bd (fX6_needGate a0 M) (fun r1 M2 => ml_bd (fX5_amountByDivision 0 a0 M2) (fun r3 M4 => some (.inl r3, M4)))
set_option maxHeartbeats 4000000 in
set_option maxRecDepth 100000 in
theorem fX6_equalizingAmount_c (a0 : Int32) (M : ml_M) (res : ml_R) {g : ml_G} (hst : g.2.2.2.2.2.stackTraces = false) (h : fX6_equalizingAmount a0 M = some res) : ml_C yX6_equalizingAmount cX6_equalizingAmount 2 (some .int) 4 1 6 g (fun r _ => some (.int r)) [ml_rf g 0, .int a0] M res := by
  refine ml_of [(0, ml_rf g 0), (1, .int a0)] hst (by decide) (Nat.le_of_ble_eq_true rfl) rfl (fun E F => ?_)
  unfold fX6_equalizingAmount at h
  refine ml_iload_n (q := 1) F dX6_equalizingAmount_0 rfl rfl ?_
  refine ml_callS (av := [.int a0]) F h (fun rs h9 => fX6_needGate_c a0 M rs hst h9) wcX6_needGate mlX6_87 wdX6_needGate (by decide) (by decide) (by decide) rfl stX6_needGate rfl (Nat.le_of_ble_eq_true rfl) dX6_equalizingAmount_1 (fun r1 M2 h => ?_)
  refine ml_aload_n (q := 0) F dX6_equalizingAmount_4 rfl rfl ?_
  refine ml_get (v := ml_rf g (ml_fl 0)) F (pc0 g) rfl iaX6 0 (by decide) lkX6_12 rfl rfl dX6_equalizingAmount_5 ?_
  refine ml_get (v := ml_rf g (ml_fl 0 + 1)) F (pf0 g (by decide : 0 < 11)) rfl iaX2 0 (by decide) lkX6_70 rfl rfl dX6_equalizingAmount_8 ?_
  refine ml_iload_n (q := 1) F dX6_equalizingAmount_11 rfl rfl ?_
  refine ml_callV (av := [.int a0]) (T := TX5) (N := 8) F (pf1 g (by decide : 0 < 11)) rfl h (fun rs h9 => fX5_amountByDivision_c 0 a0 M2 rs (by decide : 0 < 11) hst h9) wcX5_amountByDivision mlX6_90 wdX5_amountByDivision (by decide) (by decide) (by decide) rfl seX5_amountByDivision imX5_amountByDivision rfl (Nat.le_of_ble_eq_true rfl) dX6_equalizingAmount_12 (fun r3 M4 h => ?_)
  exact ml_iret (st := []) F (Option.some.inj h) rfl rfl rfl (by decide) (by decide) dX6_equalizingAmount_15
set_option maxRecDepth 100000 in
def fX6_equalizingAmountByLitres (a0 : Int32) (M : ml_M) : Option ml_R :=
  ml_bd (fX6_needGate a0 M) (fun r1 M2 => ml_bd (fX5_amountByLitres 0 a0 M2) (fun r3 M4 => some (.inl r3, M4)))
set_option maxHeartbeats 4000000 in
set_option maxRecDepth 100000 in
theorem fX6_equalizingAmountByLitres_c (a0 : Int32) (M : ml_M) (res : ml_R) {g : ml_G} (hst : g.2.2.2.2.2.stackTraces = false) (h : fX6_equalizingAmountByLitres a0 M = some res) : ml_C yX6_equalizingAmountByLitres cX6_equalizingAmountByLitres 2 (some .int) 4 1 6 g (fun r _ => some (.int r)) [ml_rf g 0, .int a0] M res := by
  refine ml_of [(0, ml_rf g 0), (1, .int a0)] hst (by decide) (Nat.le_of_ble_eq_true rfl) rfl (fun E F => ?_)
  unfold fX6_equalizingAmountByLitres at h
  refine ml_iload_n (q := 1) F dX6_equalizingAmountByLitres_0 rfl rfl ?_
  refine ml_callS (av := [.int a0]) F h (fun rs h9 => fX6_needGate_c a0 M rs hst h9) wcX6_needGate mlX6_87 wdX6_needGate (by decide) (by decide) (by decide) rfl stX6_needGate rfl (Nat.le_of_ble_eq_true rfl) dX6_equalizingAmountByLitres_1 (fun r1 M2 h => ?_)
  refine ml_aload_n (q := 0) F dX6_equalizingAmountByLitres_4 rfl rfl ?_
  refine ml_get (v := ml_rf g (ml_fl 0)) F (pc0 g) rfl iaX6 0 (by decide) lkX6_12 rfl rfl dX6_equalizingAmountByLitres_5 ?_
  refine ml_get (v := ml_rf g (ml_fl 0 + 1)) F (pf0 g (by decide : 0 < 11)) rfl iaX2 0 (by decide) lkX6_70 rfl rfl dX6_equalizingAmountByLitres_8 ?_
  refine ml_iload_n (q := 1) F dX6_equalizingAmountByLitres_11 rfl rfl ?_
  refine ml_callV (av := [.int a0]) (T := TX5) (N := 8) F (pf1 g (by decide : 0 < 11)) rfl h (fun rs h9 => fX5_amountByLitres_c 0 a0 M2 rs (by decide : 0 < 11) hst h9) wcX5_amountByLitres mlX6_93 wdX5_amountByLitres (by decide) (by decide) (by decide) rfl seX5_amountByLitres imX5_amountByLitres rfl (Nat.le_of_ble_eq_true rfl) dX6_equalizingAmountByLitres_12 (fun r3 M4 h => ?_)
  exact ml_iret (st := []) F (Option.some.inj h) rfl rfl rfl (by decide) (by decide) dX6_equalizingAmountByLitres_15
set_option maxRecDepth 100000 in
def fX6_opening (a0 : Int32) (M : ml_M) : Option ml_R :=
  ml_bd (fX6_needGate a0 M) (fun r1 M2 => if ml_ok a0 4 then some (.inl (M2 (ml_fl 0 + 3) a0.toNatClampNeg), M2) else none)
set_option maxHeartbeats 4000000 in
set_option maxRecDepth 100000 in
theorem fX6_opening_c (a0 : Int32) (M : ml_M) (res : ml_R) {g : ml_G} (hst : g.2.2.2.2.2.stackTraces = false) (h : fX6_opening a0 M = some res) : ml_C yX6_opening cX6_opening 2 (some .int) 3 1 6 g (fun r _ => some (.int r)) [ml_rf g 0, .int a0] M res := by
  refine ml_of [(0, ml_rf g 0), (1, .int a0)] hst (by decide) (Nat.le_of_ble_eq_true rfl) rfl (fun E F => ?_)
  unfold fX6_opening at h
  refine ml_iload_n (q := 1) F dX6_opening_0 rfl rfl ?_
  refine ml_callS (av := [.int a0]) F h (fun rs h9 => fX6_needGate_c a0 M rs hst h9) wcX6_needGate mlX6_87 wdX6_needGate (by decide) (by decide) (by decide) rfl stX6_needGate rfl (Nat.le_of_ble_eq_true rfl) dX6_opening_1 (fun r1 M2 h => ?_)
  refine ml_aload_n (q := 0) F dX6_opening_4 rfl rfl ?_
  refine ml_get (v := ml_rf g (ml_fl 0)) F (pc0 g) rfl iaX6 0 (by decide) lkX6_12 rfl rfl dX6_opening_5 ?_
  refine ml_get (v := ml_rf g (ml_fl 0 + 1)) F (pf0 g (by decide : 0 < 11)) rfl iaX2 0 (by decide) lkX6_70 rfl rfl dX6_opening_8 ?_
  refine ml_get (v := ml_rf g (ml_fl 0 + 3)) F (pf1 g (by decide : 0 < 11)) rfl iaX5 1 (by decide) lkX6_96 rfl rfl dX6_opening_11 ?_
  refine ml_iload_n (q := 1) F dX6_opening_14 rfl rfl ?_
  refine ml_iald F (pf3 g (by decide : 0 < 11)) h dX6_opening_15 (fun h => ?_)
  exact ml_iret (st := []) F (Option.some.inj h) rfl rfl rfl (by decide) (by decide) dX6_opening_16
set_option maxRecDepth 100000 in
def fX6_isOpen (a0 : Int32) (M : ml_M) : Option ml_R :=
  ml_bd (fX6_needGate a0 M) (fun r1 M2 => if ml_ok a0 4 then if narrow .boolean (.int (M2 (ml_fl 0 + 4) a0.toNatClampNeg)) = .int (M2 (ml_fl 0 + 4) a0.toNatClampNeg) then some (.inl (M2 (ml_fl 0 + 4) a0.toNatClampNeg), M2) else none else none)
set_option maxHeartbeats 4000000 in
set_option maxRecDepth 100000 in
theorem fX6_isOpen_c (a0 : Int32) (M : ml_M) (res : ml_R) {g : ml_G} (hst : g.2.2.2.2.2.stackTraces = false) (h : fX6_isOpen a0 M = some res) : ml_C yX6_isOpen cX6_isOpen 2 (some .boolean) 3 1 6 g (fun r _ => some (.int r)) [ml_rf g 0, .int a0] M res := by
  refine ml_of [(0, ml_rf g 0), (1, .int a0)] hst (by decide) (Nat.le_of_ble_eq_true rfl) rfl (fun E F => ?_)
  unfold fX6_isOpen at h
  refine ml_iload_n (q := 1) F dX6_isOpen_0 rfl rfl ?_
  refine ml_callS (av := [.int a0]) F h (fun rs h9 => fX6_needGate_c a0 M rs hst h9) wcX6_needGate mlX6_87 wdX6_needGate (by decide) (by decide) (by decide) rfl stX6_needGate rfl (Nat.le_of_ble_eq_true rfl) dX6_isOpen_1 (fun r1 M2 h => ?_)
  refine ml_aload_n (q := 0) F dX6_isOpen_4 rfl rfl ?_
  refine ml_get (v := ml_rf g (ml_fl 0)) F (pc0 g) rfl iaX6 0 (by decide) lkX6_12 rfl rfl dX6_isOpen_5 ?_
  refine ml_get (v := ml_rf g (ml_fl 0 + 1)) F (pf0 g (by decide : 0 < 11)) rfl iaX2 0 (by decide) lkX6_70 rfl rfl dX6_isOpen_8 ?_
  refine ml_get (v := ml_rf g (ml_fl 0 + 4)) F (pf1 g (by decide : 0 < 11)) rfl iaX5 2 (by decide) lkX6_99 rfl rfl dX6_isOpen_11 ?_
  refine ml_iload_n (q := 1) F dX6_isOpen_14 rfl rfl ?_
  refine ml_zald F (pf4 g (by decide : 0 < 11)) h dX6_isOpen_15 (fun h => ?_)
  obtain ⟨q3, h⟩ := ml_if h
  exact ml_iret (st := []) F (Option.some.inj h) rfl rfl q3 (by decide) (by decide) dX6_isOpen_16
set_option maxRecDepth 100000 in
def fX6_flow (a0 : Int32) (M : ml_M) : Option ml_R :=
  ml_bd (fX6_needGate a0 M) (fun r1 M2 => ml_bd (fX5_flowDown 0 a0 M2) (fun r3 M4 => some (.inl r3, M4)))
set_option maxHeartbeats 4000000 in
set_option maxRecDepth 100000 in
theorem fX6_flow_c (a0 : Int32) (M : ml_M) (res : ml_R) {g : ml_G} (hst : g.2.2.2.2.2.stackTraces = false) (h : fX6_flow a0 M = some res) : ml_C yX6_flow cX6_flow 2 (some .int) 5 1 6 g (fun r _ => some (.int r)) [ml_rf g 0, .int a0] M res := by
  refine ml_of [(0, ml_rf g 0), (1, .int a0)] hst (by decide) (Nat.le_of_ble_eq_true rfl) rfl (fun E F => ?_)
  unfold fX6_flow at h
  refine ml_iload_n (q := 1) F dX6_flow_0 rfl rfl ?_
  refine ml_callS (av := [.int a0]) F h (fun rs h9 => fX6_needGate_c a0 M rs hst h9) wcX6_needGate mlX6_87 wdX6_needGate (by decide) (by decide) (by decide) rfl stX6_needGate rfl (Nat.le_of_ble_eq_true rfl) dX6_flow_1 (fun r1 M2 h => ?_)
  refine ml_aload_n (q := 0) F dX6_flow_4 rfl rfl ?_
  refine ml_get (v := ml_rf g (ml_fl 0)) F (pc0 g) rfl iaX6 0 (by decide) lkX6_12 rfl rfl dX6_flow_5 ?_
  refine ml_get (v := ml_rf g (ml_fl 0 + 1)) F (pf0 g (by decide : 0 < 11)) rfl iaX2 0 (by decide) lkX6_70 rfl rfl dX6_flow_8 ?_
  refine ml_iload_n (q := 1) F dX6_flow_11 rfl rfl ?_
  refine ml_callV (av := [.int a0]) (T := TX5) (N := 8) F (pf1 g (by decide : 0 < 11)) rfl h (fun rs h9 => fX5_flowDown_c 0 a0 M2 rs (by decide : 0 < 11) hst h9) wcX5_flowDown mlX6_103 wdX5_flowDown (by decide) (by decide) (by decide) rfl seX5_flowDown imX5_flowDown rfl (Nat.le_of_ble_eq_true rfl) dX6_flow_12 (fun r3 M4 h => ?_)
  exact ml_iret (st := []) F (Option.some.inj h) rfl rfl rfl (by decide) (by decide) dX6_flow_15
set_option maxRecDepth 100000 in
def fX6_totalVolume (M : ml_M) : Option ml_R :=
  ml_bd (fX5_sumOfVolumes 0 M) (fun r1 M2 => some (.inl r1, M2))
set_option maxHeartbeats 4000000 in
set_option maxRecDepth 100000 in
theorem fX6_totalVolume_c (M : ml_M) (res : ml_R) {g : ml_G} (hst : g.2.2.2.2.2.stackTraces = false) (h : fX6_totalVolume M = some res) : ml_C yX6_totalVolume cX6_totalVolume 1 (some .int) 2 0 0 g (fun r _ => some (.int r)) [ml_rf g 0] M res := by
  refine ml_of [(0, ml_rf g 0)] hst (by decide) (Nat.le_of_ble_eq_true rfl) rfl (fun E F => ?_)
  unfold fX6_totalVolume at h
  refine ml_aload_n (q := 0) F dX6_totalVolume_0 rfl rfl ?_
  refine ml_get (v := ml_rf g (ml_fl 0)) F (pc0 g) rfl iaX6 0 (by decide) lkX6_12 rfl rfl dX6_totalVolume_1 ?_
  refine ml_get (v := ml_rf g (ml_fl 0 + 1)) F (pf0 g (by decide : 0 < 11)) rfl iaX2 0 (by decide) lkX6_70 rfl rfl dX6_totalVolume_4 ?_
  refine ml_callV (av := []) (T := TX5) (N := 8) F (pf1 g (by decide : 0 < 11)) rfl h (fun rs h9 => fX5_sumOfVolumes_c 0 M rs (by decide : 0 < 11) hst h9) wcX5_sumOfVolumes mlX6_112 wdX5_sumOfVolumes (by decide) (by decide) (by decide) rfl seX5_sumOfVolumes imX5_sumOfVolumes rfl (Nat.le_of_ble_eq_true rfl) dX6_totalVolume_7 (fun r1 M2 h => ?_)
  exact ml_iret (st := []) F (Option.some.inj h) rfl rfl rfl (by decide) (by decide) dX6_totalVolume_10
set_option maxRecDepth 100000 in
def fX6_totalVolumeByAccounts (M : ml_M) : Option ml_R :=
  ml_bd (fX5_sumByAccounts 0 M) (fun r1 M2 => some (.inl r1, M2))
set_option maxHeartbeats 4000000 in
set_option maxRecDepth 100000 in
theorem fX6_totalVolumeByAccounts_c (M : ml_M) (res : ml_R) {g : ml_G} (hst : g.2.2.2.2.2.stackTraces = false) (h : fX6_totalVolumeByAccounts M = some res) : ml_C yX6_totalVolumeByAccounts cX6_totalVolumeByAccounts 1 (some .int) 2 0 0 g (fun r _ => some (.int r)) [ml_rf g 0] M res := by
  refine ml_of [(0, ml_rf g 0)] hst (by decide) (Nat.le_of_ble_eq_true rfl) rfl (fun E F => ?_)
  unfold fX6_totalVolumeByAccounts at h
  refine ml_aload_n (q := 0) F dX6_totalVolumeByAccounts_0 rfl rfl ?_
  refine ml_get (v := ml_rf g (ml_fl 0)) F (pc0 g) rfl iaX6 0 (by decide) lkX6_12 rfl rfl dX6_totalVolumeByAccounts_1 ?_
  refine ml_get (v := ml_rf g (ml_fl 0 + 1)) F (pf0 g (by decide : 0 < 11)) rfl iaX2 0 (by decide) lkX6_70 rfl rfl dX6_totalVolumeByAccounts_4 ?_
  refine ml_callV (av := []) (T := TX5) (N := 8) F (pf1 g (by decide : 0 < 11)) rfl h (fun rs h9 => fX5_sumByAccounts_c 0 M rs (by decide : 0 < 11) hst h9) wcX5_sumByAccounts mlX6_116 wdX5_sumByAccounts (by decide) (by decide) (by decide) rfl seX5_sumByAccounts imX5_sumByAccounts rfl (Nat.le_of_ble_eq_true rfl) dX6_totalVolumeByAccounts_7 (fun r1 M2 h => ?_)
  exact ml_iret (st := []) F (Option.some.inj h) rfl rfl rfl (by decide) (by decide) dX6_totalVolumeByAccounts_10
set_option maxRecDepth 100000 in
def fX6_rainTotal (M : ml_M) : Option ml_R :=
  some (.inl (M (ml_fl 0 + 1) 5), M)
set_option maxHeartbeats 4000000 in
set_option maxRecDepth 100000 in
theorem fX6_rainTotal_c (M : ml_M) (res : ml_R) {g : ml_G} (hst : g.2.2.2.2.2.stackTraces = false) (h : fX6_rainTotal M = some res) : ml_C yX6_rainTotal cX6_rainTotal 1 (some .int) 1 0 0 g (fun r _ => some (.int r)) [ml_rf g 0] M res := by
  refine ml_of [(0, ml_rf g 0)] hst (by decide) (Nat.le_of_ble_eq_true rfl) rfl (fun E F => ?_)
  unfold fX6_rainTotal at h
  refine ml_aload_n (q := 0) F dX6_rainTotal_0 rfl rfl ?_
  refine ml_get (v := ml_rf g (ml_fl 0)) F (pc0 g) rfl iaX6 0 (by decide) lkX6_12 rfl rfl dX6_rainTotal_1 ?_
  refine ml_get (v := ml_rf g (ml_fl 0 + 1)) F (pf0 g (by decide : 0 < 11)) rfl iaX2 0 (by decide) lkX6_70 rfl rfl dX6_rainTotal_4 ?_
  refine ml_get (v := .int (M (ml_fl 0 + 1) 5)) F (pf1 g (by decide : 0 < 11)) rfl iaX5 5 (by decide) lkX6_119 rfl rfl dX6_rainTotal_7 ?_
  exact ml_iret (st := []) F (Option.some.inj h) rfl rfl rfl (by decide) (by decide) dX6_rainTotal_10
set_option maxRecDepth 100000 in
def fX6_drainTotal (M : ml_M) : Option ml_R :=
  some (.inl (M (ml_fl 0 + 1) 6), M)
set_option maxHeartbeats 4000000 in
set_option maxRecDepth 100000 in
theorem fX6_drainTotal_c (M : ml_M) (res : ml_R) {g : ml_G} (hst : g.2.2.2.2.2.stackTraces = false) (h : fX6_drainTotal M = some res) : ml_C yX6_drainTotal cX6_drainTotal 1 (some .int) 1 0 0 g (fun r _ => some (.int r)) [ml_rf g 0] M res := by
  refine ml_of [(0, ml_rf g 0)] hst (by decide) (Nat.le_of_ble_eq_true rfl) rfl (fun E F => ?_)
  unfold fX6_drainTotal at h
  refine ml_aload_n (q := 0) F dX6_drainTotal_0 rfl rfl ?_
  refine ml_get (v := ml_rf g (ml_fl 0)) F (pc0 g) rfl iaX6 0 (by decide) lkX6_12 rfl rfl dX6_drainTotal_1 ?_
  refine ml_get (v := ml_rf g (ml_fl 0 + 1)) F (pf0 g (by decide : 0 < 11)) rfl iaX2 0 (by decide) lkX6_70 rfl rfl dX6_drainTotal_4 ?_
  refine ml_get (v := .int (M (ml_fl 0 + 1) 6)) F (pf1 g (by decide : 0 < 11)) rfl iaX5 6 (by decide) lkX6_122 rfl rfl dX6_drainTotal_7 ?_
  exact ml_iret (st := []) F (Option.some.inj h) rfl rfl rfl (by decide) (by decide) dX6_drainTotal_10
set_option maxRecDepth 100000 in
def fX6_spilledTotal (M : ml_M) : Option ml_R :=
  some (.inl (M (ml_fl 0 + 1) 7), M)
set_option maxHeartbeats 4000000 in
set_option maxRecDepth 100000 in
theorem fX6_spilledTotal_c (M : ml_M) (res : ml_R) {g : ml_G} (hst : g.2.2.2.2.2.stackTraces = false) (h : fX6_spilledTotal M = some res) : ml_C yX6_spilledTotal cX6_spilledTotal 1 (some .int) 1 0 0 g (fun r _ => some (.int r)) [ml_rf g 0] M res := by
  refine ml_of [(0, ml_rf g 0)] hst (by decide) (Nat.le_of_ble_eq_true rfl) rfl (fun E F => ?_)
  unfold fX6_spilledTotal at h
  refine ml_aload_n (q := 0) F dX6_spilledTotal_0 rfl rfl ?_
  refine ml_get (v := ml_rf g (ml_fl 0)) F (pc0 g) rfl iaX6 0 (by decide) lkX6_12 rfl rfl dX6_spilledTotal_1 ?_
  refine ml_get (v := ml_rf g (ml_fl 0 + 1)) F (pf0 g (by decide : 0 < 11)) rfl iaX2 0 (by decide) lkX6_70 rfl rfl dX6_spilledTotal_4 ?_
  refine ml_get (v := .int (M (ml_fl 0 + 1) 7)) F (pf1 g (by decide : 0 < 11)) rfl iaX5 7 (by decide) lkX6_125 rfl rfl dX6_spilledTotal_7 ?_
  exact ml_iret (st := []) F (Option.some.inj h) rfl rfl rfl (by decide) (by decide) dX6_spilledTotal_10
set_option maxRecDepth 100000 in
def fX6_basinByLevel_s0 (a0 : Int32) (rec : Int32 → Int32 → ml_M → Option ml_R) (x1 x2 : Int32) (M : ml_M) : Option ml_R :=
  (if 5 ≤ x2 then some (.inr 4, M) else ml_bd (fX5_rankOfBasin 0 x2 M) (fun r1 M2 => (if r1 = x1 then some (.inl x2, M2) else rec x1 (x2 + 1) M2)))
def fX6_basinByLevel_l (a0 : Int32) : Nat → Int32 → Int32 → ml_M → Option ml_R
  | 0 => fun _ _ _ => none
  | n + 1 => fX6_basinByLevel_s0 a0 (fX6_basinByLevel_l a0 n)
set_option maxHeartbeats 4000000 in
set_option maxRecDepth 100000 in
theorem fX6_basinByLevel_w (a0 : Int32) {E : ml_E} {g : ml_G} {res : ml_R} (F : ml_F E g cX6_basinByLevel yX6_basinByLevel.cls 3 4 1 6 (some .int) []) : ∀ fuel : Nat, ∀ (x1 x2 : Int32) (M : ml_M), fX6_basinByLevel_l a0 fuel x1 x2 M = some res → ml_J E g 3 (ml_Z E g (fun r _ => some (.int r)) res 1 6) 0 0 2 [(0, ml_rf g 0), (1, .int x1), (2, .int x2)] [] M := by
  have hst := ml_F_st F
  intro fuel
  induction fuel with
  | zero => intro _ _ _ h; exact nomatch (show (none : Option ml_R) = some res from h)
  | succ fuel ih =>
    intro x1 x2 M h
    replace h : fX6_basinByLevel_s0 a0 (fX6_basinByLevel_l a0 fuel) x1 x2 M = some res := h
    unfold fX6_basinByLevel_s0 at h
    refine ml_iload_n (q := 2) F dX6_basinByLevel_2 rfl rfl ?_
    refine ml_iconst (v := 5) F dX6_basinByLevel_3 (by decide) ?_
    refine ml_icmp_ge (tgt := 30) F dX6_basinByLevel_4 (by decide) h (fun _ h => ?_) (fun _ h => ?_)
    · exact ml_throw4 (text := "no such rank") F (Option.some.inj h) (by decide +kernel) (Nat.le_of_ble_eq_true rfl) (by decide) (by decide) dX6_basinByLevel_30 dX6_basinByLevel_33 dX6_basinByLevel_34 dX6_basinByLevel_36 dX6_basinByLevel_39
    · refine ml_aload_n (q := 0) F dX6_basinByLevel_7 rfl rfl ?_
      refine ml_get (v := ml_rf g (ml_fl 0)) F (pc0 g) rfl iaX6 0 (by decide) lkX6_12 rfl rfl dX6_basinByLevel_8 ?_
      refine ml_get (v := ml_rf g (ml_fl 0 + 1)) F (pf0 g (by decide : 0 < 11)) rfl iaX2 0 (by decide) lkX6_70 rfl rfl dX6_basinByLevel_11 ?_
      refine ml_iload_n (q := 2) F dX6_basinByLevel_14 rfl rfl ?_
      refine ml_callV (av := [.int x2]) (T := TX5) (N := 8) F (pf1 g (by decide : 0 < 11)) rfl h (fun rs h9 => fX5_rankOfBasin_c 0 x2 M rs (by decide : 0 < 11) hst h9) wcX5_rankOfBasin mlX6_128 wdX5_rankOfBasin (by decide) (by decide) (by decide) rfl seX5_rankOfBasin imX5_rankOfBasin rfl (Nat.le_of_ble_eq_true rfl) dX6_basinByLevel_15 (fun r1 M2 h => ?_)
      refine ml_iload_n (q := 1) F dX6_basinByLevel_18 rfl rfl ?_
      refine ml_icmp_ne (tgt := 24) F dX6_basinByLevel_19 (by decide) h (fun _ h => ?_) (fun _ h => ?_)
      · refine ml_iinc (q := 2) (v := x2 + 1) (ls2 := [(2, .int (x2 + 1)), (0, ml_rf g 0), (1, .int x1)]) F dX6_basinByLevel_24 rfl rfl (by decide) rfl ?_
        refine ml_goto (tgt := 2) F dX6_basinByLevel_27 (by decide) ?_
        exact ml_sub [1, 2, 0] rfl (ih _ _ _ h)
      · refine ml_iload_n (q := 2) F dX6_basinByLevel_22 rfl rfl ?_
        exact ml_iret (st := []) F (Option.some.inj h) rfl rfl rfl (by decide) (by decide) dX6_basinByLevel_23
set_option maxRecDepth 100000 in
def fX6_basinByLevel (a0 : Int32) (M : ml_M) : Option ml_R :=
  fX6_basinByLevel_l a0 ml_fuel a0 0 M
set_option maxHeartbeats 4000000 in
set_option maxRecDepth 100000 in
theorem fX6_basinByLevel_c (a0 : Int32) (M : ml_M) (res : ml_R) {g : ml_G} (hst : g.2.2.2.2.2.stackTraces = false) (h : fX6_basinByLevel a0 M = some res) : ml_C yX6_basinByLevel cX6_basinByLevel 3 (some .int) 4 1 6 g (fun r _ => some (.int r)) [ml_rf g 0, .int a0] M res := by
  refine ml_of [(0, ml_rf g 0), (1, .int a0)] hst (by decide) (Nat.le_of_ble_eq_true rfl) rfl (fun E F => ?_)
  unfold fX6_basinByLevel at h
  refine ml_iconst (v := 0) F dX6_basinByLevel_0 (by decide) ?_
  refine ml_istore_n (ls2 := [(2, .int 0), (0, ml_rf g 0), (1, .int a0)]) F dX6_basinByLevel_1 rfl (by decide) rfl ?_
  exact ml_sub [1, 2, 0] rfl ((fX6_basinByLevel_w a0 F ml_fuel) _ _ _ h)
set_option maxRecDepth 100000 in
def fX6_boatCount (M : ml_M) : Option ml_R :=
  some (.inl (M (ml_fl 0 + 5) 0), M)
set_option maxHeartbeats 4000000 in
set_option maxRecDepth 100000 in
theorem fX6_boatCount_c (M : ml_M) (res : ml_R) {g : ml_G} (hst : g.2.2.2.2.2.stackTraces = false) (h : fX6_boatCount M = some res) : ml_C yX6_boatCount cX6_boatCount 1 (some .int) 1 0 0 g (fun r _ => some (.int r)) [ml_rf g 0] M res := by
  refine ml_of [(0, ml_rf g 0)] hst (by decide) (Nat.le_of_ble_eq_true rfl) rfl (fun E F => ?_)
  unfold fX6_boatCount at h
  refine ml_aload_n (q := 0) F dX6_boatCount_0 rfl rfl ?_
  refine ml_get (v := ml_rf g (ml_fl 0)) F (pc0 g) rfl iaX6 0 (by decide) lkX6_12 rfl rfl dX6_boatCount_1 ?_
  refine ml_get (v := ml_rf g (ml_fl 0 + 5)) F (pf0 g (by decide : 0 < 11)) rfl iaX2 1 (by decide) lkX6_138 rfl rfl dX6_boatCount_4 ?_
  refine ml_get (v := .int (M (ml_fl 0 + 5) 0)) F (pf5 g (by decide : 0 < 11)) rfl iaX1 0 (by decide) lkX6_142 rfl rfl dX6_boatCount_7 ?_
  exact ml_iret (st := []) F (Option.some.inj h) rfl rfl rfl (by decide) (by decide) dX6_boatCount_10
set_option maxRecDepth 100000 in
def fX6_needBoat (a0 : Int32) (M : ml_M) : Option ml_R :=
  (if a0 < 0 then some (.inr 1, M) else (if a0 < (M (ml_fl 0 + 5) 0) then some (.inl 0, M) else some (.inr 1, M)))
set_option maxHeartbeats 4000000 in
set_option maxRecDepth 100000 in
theorem fX6_needBoat_c (a0 : Int32) (M : ml_M) (res : ml_R) {g : ml_G} (hst : g.2.2.2.2.2.stackTraces = false) (h : fX6_needBoat a0 M = some res) : ml_C yX6_needBoat cX6_needBoat 2 none 1 1 6 g (fun _ _ => none) [ml_rf g 0, .int a0] M res := by
  refine ml_of [(0, ml_rf g 0), (1, .int a0)] hst (by decide) (Nat.le_of_ble_eq_true rfl) rfl (fun E F => ?_)
  unfold fX6_needBoat at h
  refine ml_iload_n (q := 1) F dX6_needBoat_0 rfl rfl ?_
  refine ml_if_lt (tgt := 18) F dX6_needBoat_1 (by decide) h (fun _ h => ?_) (fun _ h => ?_)
  · exact ml_throwW (text := "no such boat") F (Option.some.inj h) ml_tw1 (by decide +kernel) (Nat.le_of_ble_eq_true rfl) (by decide) (by decide) dX6_needBoat_18 dX6_needBoat_21 dX6_needBoat_22 dX6_needBoat_25 dX6_needBoat_28
  · refine ml_iload_n (q := 1) F dX6_needBoat_4 rfl rfl ?_
    refine ml_aload_n (q := 0) F dX6_needBoat_5 rfl rfl ?_
    refine ml_get (v := ml_rf g (ml_fl 0)) F (pc0 g) rfl iaX6 0 (by decide) lkX6_12 rfl rfl dX6_needBoat_6 ?_
    refine ml_get (v := ml_rf g (ml_fl 0 + 5)) F (pf0 g (by decide : 0 < 11)) rfl iaX2 1 (by decide) lkX6_138 rfl rfl dX6_needBoat_9 ?_
    refine ml_get (v := .int (M (ml_fl 0 + 5) 0)) F (pf5 g (by decide : 0 < 11)) rfl iaX1 0 (by decide) lkX6_142 rfl rfl dX6_needBoat_12 ?_
    refine ml_icmp_lt (tgt := 29) F dX6_needBoat_15 (by decide) h (fun _ h => ?_) (fun _ h => ?_)
    · exact ml_vret (st := []) F (Option.some.inj h) rfl rfl (by decide) (by decide) dX6_needBoat_29
    · exact ml_throwW (text := "no such boat") F (Option.some.inj h) ml_tw1 (by decide +kernel) (Nat.le_of_ble_eq_true rfl) (by decide) (by decide) dX6_needBoat_18 dX6_needBoat_21 dX6_needBoat_22 dX6_needBoat_25 dX6_needBoat_28
set_option maxRecDepth 100000 in
def fX1_signOf (i : Nat) (a0 : Int32) (M : ml_M) : Option ml_R :=
  if ml_ok a0 8 then if ml_ok (M (ml_fl i + 6) a0.toNatClampNeg) 3 then if narrow .char (.int (ml_cs (M (ml_fl i + 6) a0.toNatClampNeg).toNatClampNeg)) = .int (ml_cs (M (ml_fl i + 6) a0.toNatClampNeg).toNatClampNeg) then some (.inl (ml_cs (M (ml_fl i + 6) a0.toNatClampNeg).toNatClampNeg), M) else none else none else none
set_option maxHeartbeats 4000000 in
set_option maxRecDepth 100000 in
theorem fX1_signOf_c (i : Nat) (a0 : Int32) (M : ml_M) (res : ml_R) (hi : i < 11) {g : ml_G} (hst : g.2.2.2.2.2.stackTraces = false) (h : fX1_signOf i a0 M = some res) : ml_C yX1_signOf cX1_signOf 2 (some .char) 1 0 0 g (fun r _ => some (.int r)) [ml_rf g (ml_fl i + 5), .int a0] M res := by
  refine ml_of [(0, ml_rf g (ml_fl i + 5)), (1, .int a0)] hst (by decide) (Nat.le_of_ble_eq_true rfl) rfl (fun E F => ?_)
  unfold fX1_signOf at h
  refine ml_gcsN F (by decide +kernel) dX1_signOf_0 ?_
  refine ml_aload_n (q := 0) F dX1_signOf_3 rfl rfl ?_
  refine ml_get (v := ml_rf g (ml_fl i + 6)) F (pf5 g hi) rfl iaX1 2 (by decide) lkX1_18 rfl rfl dX1_signOf_4 ?_
  refine ml_iload_n (q := 1) F dX1_signOf_7 rfl rfl ?_
  refine ml_iald F (pf6 g hi) h dX1_signOf_8 (fun h => ?_)
  refine ml_csld F h dX1_signOf_9 (fun h => ?_)
  obtain ⟨q1, h⟩ := ml_if h
  exact ml_iret (st := []) F (Option.some.inj h) rfl rfl q1 (by decide) (by decide) dX1_signOf_10
set_option maxRecDepth 100000 in
def fX6_colour (a0 : Int32) (M : ml_M) : Option ml_R :=
  ml_bd (fX6_needBoat a0 M) (fun r1 M2 => ml_bd (fX1_signOf 0 a0 M2) (fun r3 M4 => if narrow .char (.int r3) = .int r3 then some (.inl r3, M4) else none))
set_option maxHeartbeats 4000000 in
set_option maxRecDepth 100000 in
theorem fX6_colour_c (a0 : Int32) (M : ml_M) (res : ml_R) {g : ml_G} (hst : g.2.2.2.2.2.stackTraces = false) (h : fX6_colour a0 M = some res) : ml_C yX6_colour cX6_colour 2 (some .char) 2 1 6 g (fun r _ => some (.int r)) [ml_rf g 0, .int a0] M res := by
  refine ml_of [(0, ml_rf g 0), (1, .int a0)] hst (by decide) (Nat.le_of_ble_eq_true rfl) rfl (fun E F => ?_)
  unfold fX6_colour at h
  refine ml_aload_n (q := 0) F dX6_colour_0 rfl rfl ?_
  refine ml_iload_n (q := 1) F dX6_colour_1 rfl rfl ?_
  refine ml_callV (av := [.int a0]) (T := TX6) (N := 9) F (pc0 g) rfl h (fun rs h9 => fX6_needBoat_c a0 M rs hst h9) wcX6_needBoat mlX6_147 wdX6_needBoat (by decide) (by decide) (by decide) rfl seX6_needBoat imX6_needBoat rfl (Nat.le_of_ble_eq_true rfl) dX6_colour_2 (fun r1 M2 h => ?_)
  refine ml_aload_n (q := 0) F dX6_colour_5 rfl rfl ?_
  refine ml_get (v := ml_rf g (ml_fl 0)) F (pc0 g) rfl iaX6 0 (by decide) lkX6_12 rfl rfl dX6_colour_6 ?_
  refine ml_get (v := ml_rf g (ml_fl 0 + 5)) F (pf0 g (by decide : 0 < 11)) rfl iaX2 1 (by decide) lkX6_138 rfl rfl dX6_colour_9 ?_
  refine ml_iload_n (q := 1) F dX6_colour_12 rfl rfl ?_
  refine ml_callV (av := [.int a0]) (T := TX1) (N := 8) F (pf5 g (by decide : 0 < 11)) rfl h (fun rs h9 => fX1_signOf_c 0 a0 M2 rs (by decide : 0 < 11) hst h9) wcX1_signOf mlX6_150 wdX1_signOf (by decide) (by decide) (by decide) rfl seX1_signOf imX1_signOf rfl (Nat.le_of_ble_eq_true rfl) dX6_colour_13 (fun r3 M4 h => ?_)
  obtain ⟨q5, h⟩ := ml_if h
  exact ml_iret (st := []) F (Option.some.inj h) rfl rfl q5 (by decide) (by decide) dX6_colour_16
set_option maxRecDepth 100000 in
def fX6_draught (a0 : Int32) (M : ml_M) : Option ml_R :=
  ml_bd (fX6_needBoat a0 M) (fun r1 M2 => if ml_ok a0 8 then some (.inl (M2 (ml_fl 0 + 7) a0.toNatClampNeg), M2) else none)
set_option maxHeartbeats 4000000 in
set_option maxRecDepth 100000 in
theorem fX6_draught_c (a0 : Int32) (M : ml_M) (res : ml_R) {g : ml_G} (hst : g.2.2.2.2.2.stackTraces = false) (h : fX6_draught a0 M = some res) : ml_C yX6_draught cX6_draught 2 (some .int) 2 1 6 g (fun r _ => some (.int r)) [ml_rf g 0, .int a0] M res := by
  refine ml_of [(0, ml_rf g 0), (1, .int a0)] hst (by decide) (Nat.le_of_ble_eq_true rfl) rfl (fun E F => ?_)
  unfold fX6_draught at h
  refine ml_aload_n (q := 0) F dX6_draught_0 rfl rfl ?_
  refine ml_iload_n (q := 1) F dX6_draught_1 rfl rfl ?_
  refine ml_callV (av := [.int a0]) (T := TX6) (N := 9) F (pc0 g) rfl h (fun rs h9 => fX6_needBoat_c a0 M rs hst h9) wcX6_needBoat mlX6_147 wdX6_needBoat (by decide) (by decide) (by decide) rfl seX6_needBoat imX6_needBoat rfl (Nat.le_of_ble_eq_true rfl) dX6_draught_2 (fun r1 M2 h => ?_)
  refine ml_aload_n (q := 0) F dX6_draught_5 rfl rfl ?_
  refine ml_get (v := ml_rf g (ml_fl 0)) F (pc0 g) rfl iaX6 0 (by decide) lkX6_12 rfl rfl dX6_draught_6 ?_
  refine ml_get (v := ml_rf g (ml_fl 0 + 5)) F (pf0 g (by decide : 0 < 11)) rfl iaX2 1 (by decide) lkX6_138 rfl rfl dX6_draught_9 ?_
  refine ml_get (v := ml_rf g (ml_fl 0 + 7)) F (pf5 g (by decide : 0 < 11)) rfl iaX1 3 (by decide) lkX6_154 rfl rfl dX6_draught_12 ?_
  refine ml_iload_n (q := 1) F dX6_draught_15 rfl rfl ?_
  refine ml_iald F (pf7 g (by decide : 0 < 11)) h dX6_draught_16 (fun h => ?_)
  exact ml_iret (st := []) F (Option.some.inj h) rfl rfl rfl (by decide) (by decide) dX6_draught_17
set_option maxRecDepth 100000 in
def fX6_isGoingDown (a0 : Int32) (M : ml_M) : Option ml_R :=
  ml_bd (fX6_needBoat a0 M) (fun r1 M2 => if ml_ok a0 8 then if narrow .boolean (.int (M2 (ml_fl 0 + 8) a0.toNatClampNeg)) = .int (M2 (ml_fl 0 + 8) a0.toNatClampNeg) then some (.inl (M2 (ml_fl 0 + 8) a0.toNatClampNeg), M2) else none else none)
set_option maxHeartbeats 4000000 in
set_option maxRecDepth 100000 in
theorem fX6_isGoingDown_c (a0 : Int32) (M : ml_M) (res : ml_R) {g : ml_G} (hst : g.2.2.2.2.2.stackTraces = false) (h : fX6_isGoingDown a0 M = some res) : ml_C yX6_isGoingDown cX6_isGoingDown 2 (some .boolean) 2 1 6 g (fun r _ => some (.int r)) [ml_rf g 0, .int a0] M res := by
  refine ml_of [(0, ml_rf g 0), (1, .int a0)] hst (by decide) (Nat.le_of_ble_eq_true rfl) rfl (fun E F => ?_)
  unfold fX6_isGoingDown at h
  refine ml_aload_n (q := 0) F dX6_isGoingDown_0 rfl rfl ?_
  refine ml_iload_n (q := 1) F dX6_isGoingDown_1 rfl rfl ?_
  refine ml_callV (av := [.int a0]) (T := TX6) (N := 9) F (pc0 g) rfl h (fun rs h9 => fX6_needBoat_c a0 M rs hst h9) wcX6_needBoat mlX6_147 wdX6_needBoat (by decide) (by decide) (by decide) rfl seX6_needBoat imX6_needBoat rfl (Nat.le_of_ble_eq_true rfl) dX6_isGoingDown_2 (fun r1 M2 h => ?_)
  refine ml_aload_n (q := 0) F dX6_isGoingDown_5 rfl rfl ?_
  refine ml_get (v := ml_rf g (ml_fl 0)) F (pc0 g) rfl iaX6 0 (by decide) lkX6_12 rfl rfl dX6_isGoingDown_6 ?_
  refine ml_get (v := ml_rf g (ml_fl 0 + 5)) F (pf0 g (by decide : 0 < 11)) rfl iaX2 1 (by decide) lkX6_138 rfl rfl dX6_isGoingDown_9 ?_
  refine ml_get (v := ml_rf g (ml_fl 0 + 8)) F (pf5 g (by decide : 0 < 11)) rfl iaX1 4 (by decide) lkX6_157 rfl rfl dX6_isGoingDown_12 ?_
  refine ml_iload_n (q := 1) F dX6_isGoingDown_15 rfl rfl ?_
  refine ml_zald F (pf8 g (by decide : 0 < 11)) h dX6_isGoingDown_16 (fun h => ?_)
  obtain ⟨q3, h⟩ := ml_if h
  exact ml_iret (st := []) F (Option.some.inj h) rfl rfl q3 (by decide) (by decide) dX6_isGoingDown_17
set_option maxRecDepth 100000 in
def fX6_basinOf (a0 : Int32) (M : ml_M) : Option ml_R :=
  ml_bd (fX6_needBoat a0 M) (fun r1 M2 => if ml_ok a0 8 then some (.inl (M2 (ml_fl 0 + 9) a0.toNatClampNeg), M2) else none)
set_option maxHeartbeats 4000000 in
set_option maxRecDepth 100000 in
theorem fX6_basinOf_c (a0 : Int32) (M : ml_M) (res : ml_R) {g : ml_G} (hst : g.2.2.2.2.2.stackTraces = false) (h : fX6_basinOf a0 M = some res) : ml_C yX6_basinOf cX6_basinOf 2 (some .int) 2 1 6 g (fun r _ => some (.int r)) [ml_rf g 0, .int a0] M res := by
  refine ml_of [(0, ml_rf g 0), (1, .int a0)] hst (by decide) (Nat.le_of_ble_eq_true rfl) rfl (fun E F => ?_)
  unfold fX6_basinOf at h
  refine ml_aload_n (q := 0) F dX6_basinOf_0 rfl rfl ?_
  refine ml_iload_n (q := 1) F dX6_basinOf_1 rfl rfl ?_
  refine ml_callV (av := [.int a0]) (T := TX6) (N := 9) F (pc0 g) rfl h (fun rs h9 => fX6_needBoat_c a0 M rs hst h9) wcX6_needBoat mlX6_147 wdX6_needBoat (by decide) (by decide) (by decide) rfl seX6_needBoat imX6_needBoat rfl (Nat.le_of_ble_eq_true rfl) dX6_basinOf_2 (fun r1 M2 h => ?_)
  refine ml_aload_n (q := 0) F dX6_basinOf_5 rfl rfl ?_
  refine ml_get (v := ml_rf g (ml_fl 0)) F (pc0 g) rfl iaX6 0 (by decide) lkX6_12 rfl rfl dX6_basinOf_6 ?_
  refine ml_get (v := ml_rf g (ml_fl 0 + 5)) F (pf0 g (by decide : 0 < 11)) rfl iaX2 1 (by decide) lkX6_138 rfl rfl dX6_basinOf_9 ?_
  refine ml_get (v := ml_rf g (ml_fl 0 + 9)) F (pf5 g (by decide : 0 < 11)) rfl iaX1 5 (by decide) lkX6_160 rfl rfl dX6_basinOf_12 ?_
  refine ml_iload_n (q := 1) F dX6_basinOf_15 rfl rfl ?_
  refine ml_iald F (pf9 g (by decide : 0 < 11)) h dX6_basinOf_16 (fun h => ?_)
  exact ml_iret (st := []) F (Option.some.inj h) rfl rfl rfl (by decide) (by decide) dX6_basinOf_17
set_option maxRecDepth 100000 in
def fX6_boatsIn (a0 : Int32) (M : ml_M) : Option ml_R :=
  ml_bd (fX6_needBasin a0 M) (fun r1 M2 => ml_bd (fX1_countIn 0 a0 M2) (fun r3 M4 => some (.inl r3, M4)))
set_option maxHeartbeats 4000000 in
set_option maxRecDepth 100000 in
theorem fX6_boatsIn_c (a0 : Int32) (M : ml_M) (res : ml_R) {g : ml_G} (hst : g.2.2.2.2.2.stackTraces = false) (h : fX6_boatsIn a0 M = some res) : ml_C yX6_boatsIn cX6_boatsIn 2 (some .int) 2 1 6 g (fun r _ => some (.int r)) [ml_rf g 0, .int a0] M res := by
  refine ml_of [(0, ml_rf g 0), (1, .int a0)] hst (by decide) (Nat.le_of_ble_eq_true rfl) rfl (fun E F => ?_)
  unfold fX6_boatsIn at h
  refine ml_iload_n (q := 1) F dX6_boatsIn_0 rfl rfl ?_
  refine ml_callS (av := [.int a0]) F h (fun rs h9 => fX6_needBasin_c a0 M rs hst h9) wcX6_needBasin mlX6_62 wdX6_needBasin (by decide) (by decide) (by decide) rfl stX6_needBasin rfl (Nat.le_of_ble_eq_true rfl) dX6_boatsIn_1 (fun r1 M2 h => ?_)
  refine ml_aload_n (q := 0) F dX6_boatsIn_4 rfl rfl ?_
  refine ml_get (v := ml_rf g (ml_fl 0)) F (pc0 g) rfl iaX6 0 (by decide) lkX6_12 rfl rfl dX6_boatsIn_5 ?_
  refine ml_get (v := ml_rf g (ml_fl 0 + 5)) F (pf0 g (by decide : 0 < 11)) rfl iaX2 1 (by decide) lkX6_138 rfl rfl dX6_boatsIn_8 ?_
  refine ml_iload_n (q := 1) F dX6_boatsIn_11 rfl rfl ?_
  refine ml_callV (av := [.int a0]) (T := TX1) (N := 8) F (pf5 g (by decide : 0 < 11)) rfl h (fun rs h9 => fX1_countIn_c 0 a0 M2 rs (by decide : 0 < 11) hst h9) wcX1_countIn mlX6_163 wdX1_countIn (by decide) (by decide) (by decide) rfl seX1_countIn imX1_countIn rfl (Nat.le_of_ble_eq_true rfl) dX6_boatsIn_12 (fun r3 M4 h => ?_)
  exact ml_iret (st := []) F (Option.some.inj h) rfl rfl rfl (by decide) (by decide) dX6_boatsIn_15
set_option maxRecDepth 100000 in
def fX1_rankOfBoat_s0 (i : Nat) (a0 : Int32) (rec : Int32 → Int32 → Int32 → ml_M → Option ml_R) (x1 x2 x3 : Int32) (M : ml_M) : Option ml_R :=
  (if (M (ml_fl i + 5) 0) ≤ x3 then some (.inl x2, M) else if ml_ok x3 8 then if ml_ok x1 8 then ml_jn (fun (y1 : Int32) => if ml_ok x3 8 then if ml_ok x1 8 then ml_jn (fun (y4 : Int32) => rec x1 y4 (x3 + 1) M) (fun B5 => (if (M (ml_fl i + 6) x3.toNatClampNeg) < (M (ml_fl i + 6) x1.toNatClampNeg) then B5 (x2 + 1) else (if y1 = 0 then B5 x2 else (if x1 ≤ x3 then B5 x2 else B5 (x2 + 1))))) else none else none) (fun B2 => (if (M (ml_fl i + 6) x3.toNatClampNeg) = (M (ml_fl i + 6) x1.toNatClampNeg) then B2 1 else B2 0)) else none else none)
def fX1_rankOfBoat_l (i : Nat) (a0 : Int32) : Nat → Int32 → Int32 → Int32 → ml_M → Option ml_R
  | 0 => fun _ _ _ _ => none
  | n + 1 => fX1_rankOfBoat_s0 i a0 (fX1_rankOfBoat_l i a0 n)
set_option maxHeartbeats 4000000 in
set_option maxRecDepth 100000 in
theorem fX1_rankOfBoat_w (i : Nat) (a0 : Int32) (hi : i < 11) {E : ml_E} {g : ml_G} {res : ml_R} (F : ml_F E g cX1_rankOfBoat yX1_rankOfBoat.cls 5 1 0 0 (some .int) []) : ∀ fuel : Nat, ∀ (x1 x2 x3 : Int32) (M : ml_M), fX1_rankOfBoat_l i a0 fuel x1 x2 x3 M = some res → ml_J E g 5 (ml_Z E g (fun r _ => some (.int r)) res 0 0) 0 0 4 [(0, ml_rf g (ml_fl i + 5)), (1, .int x1), (2, .int x2), (3, .int x3)] [] M := by
  have hst := ml_F_st F
  intro fuel
  induction fuel with
  | zero => intro _ _ _ _ h; exact nomatch (show (none : Option ml_R) = some res from h)
  | succ fuel ih =>
    intro x1 x2 x3 M h
    replace h : fX1_rankOfBoat_s0 i a0 (fX1_rankOfBoat_l i a0 fuel) x1 x2 x3 M = some res := h
    unfold fX1_rankOfBoat_s0 at h
    refine ml_iload_n (q := 3) F dX1_rankOfBoat_4 rfl rfl ?_
    refine ml_aload_n (q := 0) F dX1_rankOfBoat_5 rfl rfl ?_
    refine ml_get (v := .int (M (ml_fl i + 5) 0)) F (pf5 g hi) rfl iaX1 0 (by decide) lkX1_9 rfl rfl dX1_rankOfBoat_6 ?_
    refine ml_icmp_ge (tgt := 68) F dX1_rankOfBoat_9 (by decide) h (fun _ h => ?_) (fun _ h => ?_)
    · refine ml_iload_n (q := 2) F dX1_rankOfBoat_68 rfl rfl ?_
      exact ml_iret (st := []) F (Option.some.inj h) rfl rfl rfl (by decide) (by decide) dX1_rankOfBoat_69
    · refine ml_aload_n (q := 0) F dX1_rankOfBoat_12 rfl rfl ?_
      refine ml_get (v := ml_rf g (ml_fl i + 6)) F (pf5 g hi) rfl iaX1 2 (by decide) lkX1_18 rfl rfl dX1_rankOfBoat_13 ?_
      refine ml_iload_n (q := 3) F dX1_rankOfBoat_16 rfl rfl ?_
      refine ml_iald F (pf6 g hi) h dX1_rankOfBoat_17 (fun h => ?_)
      refine ml_aload_n (q := 0) F dX1_rankOfBoat_18 rfl rfl ?_
      refine ml_get (v := ml_rf g (ml_fl i + 6)) F (pf5 g hi) rfl iaX1 2 (by decide) lkX1_18 rfl rfl dX1_rankOfBoat_19 ?_
      refine ml_iload_n (q := 1) F dX1_rankOfBoat_22 rfl rfl ?_
      refine ml_iald F (pf6 g hi) h dX1_rankOfBoat_23 (fun h => ?_)
      refine ml_jnR (P := fun B => ∀ (y1 : Int32), B y1 = some res → ml_J E g 5 (ml_Z E g (fun r _ => some (.int r)) res 0 0) (0) (0) 32 [(0, ml_rf g (ml_fl i + 5)), (1, .int x1), (2, .int x2), (3, .int x3)] (.int y1 :: []) M) h ?_ (fun jn3 h => ?_)
      · intro y1 h
        dsimp only at h
        refine ml_istore (ls2 := [(4, .int y1), (0, ml_rf g (ml_fl i + 5)), (1, .int x1), (2, .int x2), (3, .int x3)]) F dX1_rankOfBoat_32 (by decide) rfl ?_
        refine ml_aload_n (q := 1) F dX1_rankOfBoat_34 rfl rfl ?_
        refine ml_get (v := ml_rf g (ml_fl i + 6)) F (pf5 g hi) rfl iaX1 2 (by decide) lkX1_18 rfl rfl dX1_rankOfBoat_35 ?_
        refine ml_iload_n (q := 4) F dX1_rankOfBoat_38 rfl rfl ?_
        refine ml_iald F (pf6 g hi) h dX1_rankOfBoat_39 (fun h => ?_)
        refine ml_aload_n (q := 1) F dX1_rankOfBoat_40 rfl rfl ?_
        refine ml_get (v := ml_rf g (ml_fl i + 6)) F (pf5 g hi) rfl iaX1 2 (by decide) lkX1_18 rfl rfl dX1_rankOfBoat_41 ?_
        refine ml_iload_n (q := 2) F dX1_rankOfBoat_44 rfl rfl ?_
        refine ml_iald F (pf6 g hi) h dX1_rankOfBoat_45 (fun h => ?_)
        refine ml_jnR (P := fun B => ∀ (y4 : Int32), B y4 = some res → ml_J E g 5 (ml_Z E g (fun r _ => some (.int r)) res 0 0) (0) (0) 62 [(0, ml_rf g (ml_fl i + 5)), (1, .int x1), (2, .int y4), (3, .int x3), (4, .int y1)] ([]) M) h ?_ (fun jn6 h => ?_)
        · intro y4 h
          dsimp only at h
          refine ml_iinc (q := 3) (v := x3 + 1) (ls2 := [(3, .int (x3 + 1)), (0, ml_rf g (ml_fl i + 5)), (1, .int x1), (2, .int y4), (4, .int y1)]) F dX1_rankOfBoat_62 rfl rfl (by decide) rfl ?_
          refine ml_goto (tgt := 4) F dX1_rankOfBoat_65 (by decide) ?_
          exact ml_sub [1, 2, 3, 0] rfl (ih _ _ _ _ h)
        refine ml_icmp_lt (tgt := 59) F dX1_rankOfBoat_46 (by decide) h (fun _ h => ?_) (fun _ h => ?_)
        · refine ml_iinc (q := 3) (v := x2 + 1) (ls2 := [(2, .int (x2 + 1)), (4, .int y1), (0, ml_rf g (ml_fl i + 5)), (1, .int x1), (3, .int x3)]) F dX1_rankOfBoat_59 rfl rfl (by decide) rfl ?_
          exact ml_sub [2, 3, 0, 4, 1] rfl (jn6 _ h)
        · refine ml_iload (q := 0) F dX1_rankOfBoat_49 rfl ?_
          refine ml_if_eq (tgt := 62) F dX1_rankOfBoat_51 (by decide) h (fun _ h => ?_) (fun _ h => ?_)
          · exact ml_sub [1, 2, 3, 4, 0] rfl (jn6 _ h)
          · refine ml_iload_n (q := 4) F dX1_rankOfBoat_54 rfl rfl ?_
            refine ml_iload_n (q := 2) F dX1_rankOfBoat_55 rfl rfl ?_
            refine ml_icmp_ge (tgt := 62) F dX1_rankOfBoat_56 (by decide) h (fun _ h => ?_) (fun _ h => ?_)
            · exact ml_sub [1, 2, 3, 4, 0] rfl (jn6 _ h)
            · refine ml_iinc (q := 3) (v := x2 + 1) (ls2 := [(2, .int (x2 + 1)), (4, .int y1), (0, ml_rf g (ml_fl i + 5)), (1, .int x1), (3, .int x3)]) F dX1_rankOfBoat_59 rfl rfl (by decide) rfl ?_
              exact ml_sub [2, 3, 0, 4, 1] rfl (jn6 _ h)
      refine ml_icmp_ne (tgt := 31) F dX1_rankOfBoat_24 (by decide) h (fun _ h => ?_) (fun _ h => ?_)
      · refine ml_iconst (v := 0) F dX1_rankOfBoat_31 (by decide) ?_
        exact ml_sub [0, 1, 2, 3] rfl (jn3 _ h)
      · refine ml_iconst (v := 1) F dX1_rankOfBoat_27 (by decide) ?_
        refine ml_goto (tgt := 32) F dX1_rankOfBoat_28 (by decide) ?_
        exact ml_sub [0, 1, 2, 3] rfl (jn3 _ h)
set_option maxRecDepth 100000 in
def fX1_rankOfBoat (i : Nat) (a0 : Int32) (M : ml_M) : Option ml_R :=
  fX1_rankOfBoat_l i a0 ml_fuel a0 0 0 M
set_option maxHeartbeats 4000000 in
set_option maxRecDepth 100000 in
theorem fX1_rankOfBoat_c (i : Nat) (a0 : Int32) (M : ml_M) (res : ml_R) (hi : i < 11) {g : ml_G} (hst : g.2.2.2.2.2.stackTraces = false) (h : fX1_rankOfBoat i a0 M = some res) : ml_C yX1_rankOfBoat cX1_rankOfBoat 5 (some .int) 1 0 0 g (fun r _ => some (.int r)) [ml_rf g (ml_fl i + 5), .int a0] M res := by
  refine ml_of [(0, ml_rf g (ml_fl i + 5)), (1, .int a0)] hst (by decide) (Nat.le_of_ble_eq_true rfl) rfl (fun E F => ?_)
  unfold fX1_rankOfBoat at h
  refine ml_iconst (v := 0) F dX1_rankOfBoat_0 (by decide) ?_
  refine ml_istore_n (ls2 := [(2, .int 0), (0, ml_rf g (ml_fl i + 5)), (1, .int a0)]) F dX1_rankOfBoat_1 rfl (by decide) rfl ?_
  refine ml_iconst (v := 0) F dX1_rankOfBoat_2 (by decide) ?_
  refine ml_istore_n (ls2 := [(3, .int 0), (2, .int 0), (0, ml_rf g (ml_fl i + 5)), (1, .int a0)]) F dX1_rankOfBoat_3 rfl (by decide) rfl ?_
  exact ml_sub [2, 3, 1, 0] rfl ((fX1_rankOfBoat_w i a0 hi F ml_fuel) _ _ _ _ h)
set_option maxRecDepth 100000 in
def fX6_boatInOrder_s0 (a0 : Int32) (rec : Int32 → Int32 → ml_M → Option ml_R) (x1 x2 : Int32) (M : ml_M) : Option ml_R :=
  (if (M (ml_fl 0 + 5) 0) ≤ x2 then some (.inr 4, M) else ml_bd (fX1_rankOfBoat 0 x2 M) (fun r1 M2 => (if r1 = x1 then some (.inl x2, M2) else rec x1 (x2 + 1) M2)))
def fX6_boatInOrder_l (a0 : Int32) : Nat → Int32 → Int32 → ml_M → Option ml_R
  | 0 => fun _ _ _ => none
  | n + 1 => fX6_boatInOrder_s0 a0 (fX6_boatInOrder_l a0 n)
set_option maxHeartbeats 4000000 in
set_option maxRecDepth 100000 in
theorem fX6_boatInOrder_w (a0 : Int32) {E : ml_E} {g : ml_G} {res : ml_R} (F : ml_F E g cX6_boatInOrder yX6_boatInOrder.cls 3 2 1 6 (some .int) []) : ∀ fuel : Nat, ∀ (x1 x2 : Int32) (M : ml_M), fX6_boatInOrder_l a0 fuel x1 x2 M = some res → ml_J E g 3 (ml_Z E g (fun r _ => some (.int r)) res 1 6) 0 0 2 [(0, ml_rf g 0), (1, .int x1), (2, .int x2)] [] M := by
  have hst := ml_F_st F
  intro fuel
  induction fuel with
  | zero => intro _ _ _ h; exact nomatch (show (none : Option ml_R) = some res from h)
  | succ fuel ih =>
    intro x1 x2 M h
    replace h : fX6_boatInOrder_s0 a0 (fX6_boatInOrder_l a0 fuel) x1 x2 M = some res := h
    unfold fX6_boatInOrder_s0 at h
    refine ml_iload_n (q := 2) F dX6_boatInOrder_2 rfl rfl ?_
    refine ml_aload_n (q := 0) F dX6_boatInOrder_3 rfl rfl ?_
    refine ml_get (v := ml_rf g (ml_fl 0)) F (pc0 g) rfl iaX6 0 (by decide) lkX6_12 rfl rfl dX6_boatInOrder_4 ?_
    refine ml_get (v := ml_rf g (ml_fl 0 + 5)) F (pf0 g (by decide : 0 < 11)) rfl iaX2 1 (by decide) lkX6_138 rfl rfl dX6_boatInOrder_7 ?_
    refine ml_get (v := .int (M (ml_fl 0 + 5) 0)) F (pf5 g (by decide : 0 < 11)) rfl iaX1 0 (by decide) lkX6_142 rfl rfl dX6_boatInOrder_10 ?_
    refine ml_icmp_ge (tgt := 39) F dX6_boatInOrder_13 (by decide) h (fun _ h => ?_) (fun _ h => ?_)
    · exact ml_throw4 (text := "no such rank") F (Option.some.inj h) (by decide +kernel) (Nat.le_of_ble_eq_true rfl) (by decide) (by decide) dX6_boatInOrder_39 dX6_boatInOrder_42 dX6_boatInOrder_43 dX6_boatInOrder_45 dX6_boatInOrder_48
    · refine ml_aload_n (q := 0) F dX6_boatInOrder_16 rfl rfl ?_
      refine ml_get (v := ml_rf g (ml_fl 0)) F (pc0 g) rfl iaX6 0 (by decide) lkX6_12 rfl rfl dX6_boatInOrder_17 ?_
      refine ml_get (v := ml_rf g (ml_fl 0 + 5)) F (pf0 g (by decide : 0 < 11)) rfl iaX2 1 (by decide) lkX6_138 rfl rfl dX6_boatInOrder_20 ?_
      refine ml_iload_n (q := 2) F dX6_boatInOrder_23 rfl rfl ?_
      refine ml_callV (av := [.int x2]) (T := TX1) (N := 8) F (pf5 g (by decide : 0 < 11)) rfl h (fun rs h9 => fX1_rankOfBoat_c 0 x2 M rs (by decide : 0 < 11) hst h9) wcX1_rankOfBoat mlX6_166 wdX1_rankOfBoat (by decide) (by decide) (by decide) rfl seX1_rankOfBoat imX1_rankOfBoat rfl (Nat.le_of_ble_eq_true rfl) dX6_boatInOrder_24 (fun r1 M2 h => ?_)
      refine ml_iload_n (q := 1) F dX6_boatInOrder_27 rfl rfl ?_
      refine ml_icmp_ne (tgt := 33) F dX6_boatInOrder_28 (by decide) h (fun _ h => ?_) (fun _ h => ?_)
      · refine ml_iinc (q := 2) (v := x2 + 1) (ls2 := [(2, .int (x2 + 1)), (0, ml_rf g 0), (1, .int x1)]) F dX6_boatInOrder_33 rfl rfl (by decide) rfl ?_
        refine ml_goto (tgt := 2) F dX6_boatInOrder_36 (by decide) ?_
        exact ml_sub [1, 2, 0] rfl (ih _ _ _ h)
      · refine ml_iload_n (q := 2) F dX6_boatInOrder_31 rfl rfl ?_
        exact ml_iret (st := []) F (Option.some.inj h) rfl rfl rfl (by decide) (by decide) dX6_boatInOrder_32
set_option maxRecDepth 100000 in
def fX6_boatInOrder (a0 : Int32) (M : ml_M) : Option ml_R :=
  fX6_boatInOrder_l a0 ml_fuel a0 0 M
set_option maxHeartbeats 4000000 in
set_option maxRecDepth 100000 in
theorem fX6_boatInOrder_c (a0 : Int32) (M : ml_M) (res : ml_R) {g : ml_G} (hst : g.2.2.2.2.2.stackTraces = false) (h : fX6_boatInOrder a0 M = some res) : ml_C yX6_boatInOrder cX6_boatInOrder 3 (some .int) 2 1 6 g (fun r _ => some (.int r)) [ml_rf g 0, .int a0] M res := by
  refine ml_of [(0, ml_rf g 0), (1, .int a0)] hst (by decide) (Nat.le_of_ble_eq_true rfl) rfl (fun E F => ?_)
  unfold fX6_boatInOrder at h
  refine ml_iconst (v := 0) F dX6_boatInOrder_0 (by decide) ?_
  refine ml_istore_n (ls2 := [(2, .int 0), (0, ml_rf g 0), (1, .int a0)]) F dX6_boatInOrder_1 rfl (by decide) rfl ?_
  exact ml_sub [1, 2, 0] rfl ((fX6_boatInOrder_w a0 F ml_fuel) _ _ _ h)
set_option maxRecDepth 100000 in
def fX6_floats (a0 : Int32) (a1 : Int32) (M : ml_M) : Option ml_R :=
  ml_bd (fX6_needBoat a0 M) (fun r1 M2 => ml_bd (fX6_needBasin a1 M2) (fun r3 M4 => if ml_ok a0 8 then ml_bd (fX5_reaches 0 a1 (M4 (ml_fl 0 + 7) a0.toNatClampNeg) M4) (fun r5 M6 => if narrow .boolean (.int r5) = .int r5 then some (.inl r5, M6) else none) else none))
set_option maxHeartbeats 4000000 in
set_option maxRecDepth 100000 in
theorem fX6_floats_c (a0 : Int32) (a1 : Int32) (M : ml_M) (res : ml_R) {g : ml_G} (hst : g.2.2.2.2.2.stackTraces = false) (h : fX6_floats a0 a1 M = some res) : ml_C yX6_floats cX6_floats 3 (some .boolean) 3 2 12 g (fun r _ => some (.int r)) [ml_rf g 0, .int a0, .int a1] M res := by
  refine ml_of [(0, ml_rf g 0), (1, .int a0), (2, .int a1)] hst (by decide) (Nat.le_of_ble_eq_true rfl) rfl (fun E F => ?_)
  unfold fX6_floats at h
  refine ml_aload_n (q := 0) F dX6_floats_0 rfl rfl ?_
  refine ml_iload_n (q := 1) F dX6_floats_1 rfl rfl ?_
  refine ml_callV (av := [.int a0]) (T := TX6) (N := 9) F (pc0 g) rfl h (fun rs h9 => fX6_needBoat_c a0 M rs hst h9) wcX6_needBoat mlX6_147 wdX6_needBoat (by decide) (by decide) (by decide) rfl seX6_needBoat imX6_needBoat rfl (Nat.le_of_ble_eq_true rfl) dX6_floats_2 (fun r1 M2 h => ?_)
  refine ml_iload_n (q := 2) F dX6_floats_5 rfl rfl ?_
  refine ml_callS (av := [.int a1]) F h (fun rs h9 => fX6_needBasin_c a1 M2 rs hst h9) wcX6_needBasin mlX6_62 wdX6_needBasin (by decide) (by decide) (by decide) rfl stX6_needBasin rfl (Nat.le_of_ble_eq_true rfl) dX6_floats_6 (fun r3 M4 h => ?_)
  refine ml_aload_n (q := 0) F dX6_floats_9 rfl rfl ?_
  refine ml_get (v := ml_rf g (ml_fl 0)) F (pc0 g) rfl iaX6 0 (by decide) lkX6_12 rfl rfl dX6_floats_10 ?_
  refine ml_get (v := ml_rf g (ml_fl 0 + 1)) F (pf0 g (by decide : 0 < 11)) rfl iaX2 0 (by decide) lkX6_70 rfl rfl dX6_floats_13 ?_
  refine ml_iload_n (q := 2) F dX6_floats_16 rfl rfl ?_
  refine ml_aload_n (q := 0) F dX6_floats_17 rfl rfl ?_
  refine ml_get (v := ml_rf g (ml_fl 0)) F (pc0 g) rfl iaX6 0 (by decide) lkX6_12 rfl rfl dX6_floats_18 ?_
  refine ml_get (v := ml_rf g (ml_fl 0 + 5)) F (pf0 g (by decide : 0 < 11)) rfl iaX2 1 (by decide) lkX6_138 rfl rfl dX6_floats_21 ?_
  refine ml_get (v := ml_rf g (ml_fl 0 + 7)) F (pf5 g (by decide : 0 < 11)) rfl iaX1 3 (by decide) lkX6_154 rfl rfl dX6_floats_24 ?_
  refine ml_iload_n (q := 1) F dX6_floats_27 rfl rfl ?_
  refine ml_iald F (pf7 g (by decide : 0 < 11)) h dX6_floats_28 (fun h => ?_)
  refine ml_callV (av := [.int a1, .int (M4 (ml_fl 0 + 7) a0.toNatClampNeg)]) (T := TX5) (N := 8) F (pf1 g (by decide : 0 < 11)) rfl h (fun rs h9 => fX5_reaches_c 0 a1 (M4 (ml_fl 0 + 7) a0.toNatClampNeg) M4 rs (by decide : 0 < 11) hst h9) wcX5_reaches mlX6_169 wdX5_reaches (by decide) (by decide) (by decide) rfl seX5_reaches imX5_reaches rfl (Nat.le_of_ble_eq_true rfl) dX6_floats_29 (fun r5 M6 h => ?_)
  obtain ⟨q7, h⟩ := ml_if h
  exact ml_iret (st := []) F (Option.some.inj h) rfl rfl q7 (by decide) (by decide) dX6_floats_32
set_option maxRecDepth 100000 in
def fX6_minutesUntilEqual_s0 (a0 : Int32) (rec : Int32 → Int32 → ml_M → Option ml_R) (x1 x2 : Int32) (M : ml_M) : Option ml_R :=
  (if 200 < x2 then some (.inr 4, M) else ml_bd (fX5_amountByDivision 1 x1 M) (fun r1 M2 => (if r1 = 0 then some (.inl x2, M2) else ml_bd (fX2_passMinutes 1 1 M2) (fun r3 M4 => rec x1 (x2 + 1) M4))))
def fX6_minutesUntilEqual_l (a0 : Int32) : Nat → Int32 → Int32 → ml_M → Option ml_R
  | 0 => fun _ _ _ => none
  | n + 1 => fX6_minutesUntilEqual_s0 a0 (fX6_minutesUntilEqual_l a0 n)
set_option maxHeartbeats 4000000 in
set_option maxRecDepth 100000 in
theorem fX6_minutesUntilEqual_w (a0 : Int32) {E : ml_E} {g : ml_G} {res : ml_R} (F : ml_F E g cX6_minutesUntilEqual yX6_minutesUntilEqual.cls 3 6 2 12 (some .int) []) : ∀ fuel : Nat, ∀ (x1 x2 : Int32) (M : ml_M), fX6_minutesUntilEqual_l a0 fuel x1 x2 M = some res → ml_J E g 3 (ml_Z E g (fun r _ => some (.int r)) res 2 12) 1 6 17 [(0, ml_rf g 0), (1, .int x1), (2, .int x2)] [] M := by
  have hst := ml_F_st F
  intro fuel
  induction fuel with
  | zero => intro _ _ _ h; exact nomatch (show (none : Option ml_R) = some res from h)
  | succ fuel ih =>
    intro x1 x2 M h
    replace h : fX6_minutesUntilEqual_s0 a0 (fX6_minutesUntilEqual_l a0 fuel) x1 x2 M = some res := h
    unfold fX6_minutesUntilEqual_s0 at h
    refine ml_iload_n (q := 2) F dX6_minutesUntilEqual_17 rfl rfl ?_
    refine ml_sipush (v := 200) F dX6_minutesUntilEqual_18 (by decide) ?_
    refine ml_icmp_gt (tgt := 55) F dX6_minutesUntilEqual_21 (by decide) h (fun _ h => ?_) (fun _ h => ?_)
    · exact ml_throw4 (text := "the basins are not equalized within 200 minutes") F (Option.some.inj h) (by decide +kernel) (Nat.le_of_ble_eq_true rfl) (by decide) (by decide) dX6_minutesUntilEqual_55 dX6_minutesUntilEqual_58 dX6_minutesUntilEqual_59 dX6_minutesUntilEqual_61 dX6_minutesUntilEqual_64
    · refine ml_aload_n (q := 0) F dX6_minutesUntilEqual_24 rfl rfl ?_
      refine ml_get (v := ml_rf g (ml_fl 1)) F (pc0 g) rfl iaX6 1 (by decide) lkX6_16 rfl rfl dX6_minutesUntilEqual_25 ?_
      refine ml_get (v := ml_rf g (ml_fl 1 + 1)) F (pf0 g (by decide : 1 < 11)) rfl iaX2 0 (by decide) lkX6_70 rfl rfl dX6_minutesUntilEqual_28 ?_
      refine ml_iload_n (q := 1) F dX6_minutesUntilEqual_31 rfl rfl ?_
      refine ml_callV (av := [.int x1]) (T := TX5) (N := 8) F (pf1 g (by decide : 1 < 11)) rfl h (fun rs h9 => fX5_amountByDivision_c 1 x1 M rs (by decide : 1 < 11) hst h9) wcX5_amountByDivision mlX6_90 wdX5_amountByDivision (by decide) (by decide) (by decide) rfl seX5_amountByDivision imX5_amountByDivision rfl (Nat.le_of_ble_eq_true rfl) dX6_minutesUntilEqual_32 (fun r1 M2 h => ?_)
      refine ml_if_ne (tgt := 40) F dX6_minutesUntilEqual_35 (by decide) h (fun _ h => ?_) (fun _ h => ?_)
      · refine ml_aload_n (q := 0) F dX6_minutesUntilEqual_40 rfl rfl ?_
        refine ml_get (v := ml_rf g (ml_fl 1)) F (pc0 g) rfl iaX6 1 (by decide) lkX6_16 rfl rfl dX6_minutesUntilEqual_41 ?_
        refine ml_iconst (v := 1) F dX6_minutesUntilEqual_44 (by decide) ?_
        refine ml_callV (av := [.int 1]) (T := TX2) (N := 4) F (pf0 g (by decide : 1 < 11)) rfl h (fun rs h9 => fX2_passMinutes_c 1 1 M2 rs (by decide : 1 < 11) hst h9) wcX2_passMinutes mlX6_191 wdX2_passMinutes (by decide) (by decide) (by decide) rfl seX2_passMinutes imX2_passMinutes rfl (Nat.le_of_ble_eq_true rfl) dX6_minutesUntilEqual_45 (fun r3 M4 h => ?_)
        refine ml_pop F dX6_minutesUntilEqual_48 rfl ?_
        refine ml_iinc (q := 2) (v := x2 + 1) (ls2 := [(2, .int (x2 + 1)), (0, ml_rf g 0), (1, .int x1)]) F dX6_minutesUntilEqual_49 rfl rfl (by decide) rfl ?_
        refine ml_goto (tgt := 17) F dX6_minutesUntilEqual_52 (by decide) ?_
        exact ml_sub [1, 2, 0] rfl (ih _ _ _ h)
      · refine ml_iload_n (q := 2) F dX6_minutesUntilEqual_38 rfl rfl ?_
        exact ml_iret (st := []) F (Option.some.inj h) rfl rfl rfl (by decide) (by decide) dX6_minutesUntilEqual_39
set_option maxRecDepth 100000 in
def fX6_minutesUntilEqual (a0 : Int32) (M : ml_M) : Option ml_R :=
  ml_bd (fX6_needGate a0 M) (fun r1 M2 => ml_bd (fX2_copyFrom 1 0 M2) (fun r3 M4 => fX6_minutesUntilEqual_l a0 ml_fuel a0 0 M4))
set_option maxHeartbeats 4000000 in
set_option maxRecDepth 100000 in
theorem fX6_minutesUntilEqual_c (a0 : Int32) (M : ml_M) (res : ml_R) {g : ml_G} (hst : g.2.2.2.2.2.stackTraces = false) (h : fX6_minutesUntilEqual a0 M = some res) : ml_C yX6_minutesUntilEqual cX6_minutesUntilEqual 3 (some .int) 6 2 12 g (fun r _ => some (.int r)) [ml_rf g 0, .int a0] M res := by
  refine ml_of [(0, ml_rf g 0), (1, .int a0)] hst (by decide) (Nat.le_of_ble_eq_true rfl) rfl (fun E F => ?_)
  unfold fX6_minutesUntilEqual at h
  refine ml_iload_n (q := 1) F dX6_minutesUntilEqual_0 rfl rfl ?_
  refine ml_callS (av := [.int a0]) F h (fun rs h9 => fX6_needGate_c a0 M rs hst h9) wcX6_needGate mlX6_87 wdX6_needGate (by decide) (by decide) (by decide) rfl stX6_needGate rfl (Nat.le_of_ble_eq_true rfl) dX6_minutesUntilEqual_1 (fun r1 M2 h => ?_)
  refine ml_aload_n (q := 0) F dX6_minutesUntilEqual_4 rfl rfl ?_
  refine ml_get (v := ml_rf g (ml_fl 1)) F (pc0 g) rfl iaX6 1 (by decide) lkX6_16 rfl rfl dX6_minutesUntilEqual_5 ?_
  refine ml_aload_n (q := 0) F dX6_minutesUntilEqual_8 rfl rfl ?_
  refine ml_get (v := ml_rf g (ml_fl 0)) F (pc0 g) rfl iaX6 0 (by decide) lkX6_12 rfl rfl dX6_minutesUntilEqual_9 ?_
  refine ml_callV (av := [ml_rf g (ml_fl 0)]) (T := TX2) (N := 4) F (pf0 g (by decide : 1 < 11)) rfl h (fun rs h9 => fX2_copyFrom_c 1 0 M2 rs (by decide : 1 < 11) (by decide : 0 < 11) hst h9) wcX2_copyFrom mlX6_187 wdX2_copyFrom (by decide) (by decide) (by decide) rfl seX2_copyFrom imX2_copyFrom rfl (Nat.le_of_ble_eq_true rfl) dX6_minutesUntilEqual_12 (fun r3 M4 h => ?_)
  refine ml_iconst (v := 0) F dX6_minutesUntilEqual_15 (by decide) ?_
  refine ml_istore_n (ls2 := [(2, .int 0), (0, ml_rf g 0), (1, .int a0)]) F dX6_minutesUntilEqual_16 rfl (by decide) rfl ?_
  exact ml_sub [1, 2, 0] rfl ((fX6_minutesUntilEqual_w a0 F ml_fuel) _ _ _ h)
set_option maxRecDepth 100000 in
def fX6_eventCount (M : ml_M) : Option ml_R :=
  some (.inl (M (ml_fl 0 + 12) 3), M)
set_option maxHeartbeats 4000000 in
set_option maxRecDepth 100000 in
theorem fX6_eventCount_c (M : ml_M) (res : ml_R) {g : ml_G} (hst : g.2.2.2.2.2.stackTraces = false) (h : fX6_eventCount M = some res) : ml_C yX6_eventCount cX6_eventCount 1 (some .int) 1 0 0 g (fun r _ => some (.int r)) [ml_rf g 0] M res := by
  refine ml_of [(0, ml_rf g 0)] hst (by decide) (Nat.le_of_ble_eq_true rfl) rfl (fun E F => ?_)
  unfold fX6_eventCount at h
  refine ml_aload_n (q := 0) F dX6_eventCount_0 rfl rfl ?_
  refine ml_get (v := ml_rf g (ml_fl 0)) F (pc0 g) rfl iaX6 0 (by decide) lkX6_12 rfl rfl dX6_eventCount_1 ?_
  refine ml_get (v := ml_rf g (ml_fl 0 + 12)) F (pf0 g (by decide : 0 < 11)) rfl iaX2 2 (by decide) lkX6_204 rfl rfl dX6_eventCount_4 ?_
  refine ml_get (v := .int (M (ml_fl 0 + 12) 3)) F (pf12 g (by decide : 0 < 11)) rfl iaX0 3 (by decide) lkX6_208 rfl rfl dX6_eventCount_7 ?_
  exact ml_iret (st := []) F (Option.some.inj h) rfl rfl rfl (by decide) (by decide) dX6_eventCount_10
set_option maxRecDepth 100000 in
def fX6_needEvent (a0 : Int32) (M : ml_M) : Option ml_R :=
  (if a0 < 0 then some (.inr 4, M) else (if a0 < (M (ml_fl 0 + 12) 3) then some (.inl 0, M) else some (.inr 4, M)))
set_option maxHeartbeats 4000000 in
set_option maxRecDepth 100000 in
theorem fX6_needEvent_c (a0 : Int32) (M : ml_M) (res : ml_R) {g : ml_G} (hst : g.2.2.2.2.2.stackTraces = false) (h : fX6_needEvent a0 M = some res) : ml_C yX6_needEvent cX6_needEvent 2 none 1 1 6 g (fun _ _ => none) [ml_rf g 0, .int a0] M res := by
  refine ml_of [(0, ml_rf g 0), (1, .int a0)] hst (by decide) (Nat.le_of_ble_eq_true rfl) rfl (fun E F => ?_)
  unfold fX6_needEvent at h
  refine ml_iload_n (q := 1) F dX6_needEvent_0 rfl rfl ?_
  refine ml_if_lt (tgt := 18) F dX6_needEvent_1 (by decide) h (fun _ h => ?_) (fun _ h => ?_)
  · exact ml_throw4W (text := "no such event") F (Option.some.inj h) (by decide +kernel) (Nat.le_of_ble_eq_true rfl) (by decide) (by decide) dX6_needEvent_18 dX6_needEvent_21 dX6_needEvent_22 dX6_needEvent_25 dX6_needEvent_28
  · refine ml_iload_n (q := 1) F dX6_needEvent_4 rfl rfl ?_
    refine ml_aload_n (q := 0) F dX6_needEvent_5 rfl rfl ?_
    refine ml_get (v := ml_rf g (ml_fl 0)) F (pc0 g) rfl iaX6 0 (by decide) lkX6_12 rfl rfl dX6_needEvent_6 ?_
    refine ml_get (v := ml_rf g (ml_fl 0 + 12)) F (pf0 g (by decide : 0 < 11)) rfl iaX2 2 (by decide) lkX6_204 rfl rfl dX6_needEvent_9 ?_
    refine ml_get (v := .int (M (ml_fl 0 + 12) 3)) F (pf12 g (by decide : 0 < 11)) rfl iaX0 3 (by decide) lkX6_208 rfl rfl dX6_needEvent_12 ?_
    refine ml_icmp_lt (tgt := 29) F dX6_needEvent_15 (by decide) h (fun _ h => ?_) (fun _ h => ?_)
    · exact ml_vret (st := []) F (Option.some.inj h) rfl rfl (by decide) (by decide) dX6_needEvent_29
    · exact ml_throw4W (text := "no such event") F (Option.some.inj h) (by decide +kernel) (Nat.le_of_ble_eq_true rfl) (by decide) (by decide) dX6_needEvent_18 dX6_needEvent_21 dX6_needEvent_22 dX6_needEvent_25 dX6_needEvent_28
set_option maxRecDepth 100000 in
def fX6_meanLevel (M : ml_M) : Option ml_R :=
  ml_bd (fX5_sumOfVolumes 0 M) (fun r1 M2 => if (FP.fdiv (FP.i2f r1) 1108869120) &&& 0x7fffffff ≤ 0x7f800000 then some (.inl 0, (ml_w (ml_w M2 200 0 r1) 200 1 38)) else none)
set_option maxHeartbeats 4000000 in
set_option maxRecDepth 100000 in
theorem fX6_meanLevel_c (M : ml_M) (res : ml_R) {g : ml_G} (hst : g.2.2.2.2.2.stackTraces = false) (h : fX6_meanLevel M = some res) : ml_C yX6_meanLevel cX6_meanLevel 1 (some .float) 2 0 0 g (fun _ M => some (.float (FP.fdiv (FP.i2f (M 200 0)) (FP.i2f 38)))) [ml_rf g 0] M res := by
  refine ml_of [(0, ml_rf g 0)] hst (by decide) (Nat.le_of_ble_eq_true rfl) rfl (fun E F => ?_)
  unfold fX6_meanLevel at h
  refine ml_aload_n (q := 0) F dX6_meanLevel_0 rfl rfl ?_
  refine ml_get (v := ml_rf g (ml_fl 0)) F (pc0 g) rfl iaX6 0 (by decide) lkX6_12 rfl rfl dX6_meanLevel_1 ?_
  refine ml_get (v := ml_rf g (ml_fl 0 + 1)) F (pf0 g (by decide : 0 < 11)) rfl iaX2 0 (by decide) lkX6_70 rfl rfl dX6_meanLevel_4 ?_
  refine ml_callV (av := []) (T := TX5) (N := 8) F (pf1 g (by decide : 0 < 11)) rfl h (fun rs h9 => fX5_sumOfVolumes_c 0 M rs (by decide : 0 < 11) hst h9) wcX5_sumOfVolumes mlX6_112 wdX5_sumOfVolumes (by decide) (by decide) (by decide) rfl seX5_sumOfVolumes imX5_sumOfVolumes rfl (Nat.le_of_ble_eq_true rfl) dX6_meanLevel_7 (fun r1 M2 h => ?_)
  refine ml_i2f F dX6_meanLevel_10 ?_
  refine ml_ldcf F cfX6_227 dX6_meanLevel_11 ?_
  obtain ⟨q3, h⟩ := ml_if h
  refine ml_fdiv F dX6_meanLevel_13 q3 ?_
  refine ml_scr (ml_w (ml_w M2 200 0 r1) 200 1 38) (fun k hk => by rw [ml_w_ne (by omega), ml_w_ne (by omega)]) ?_
  exact ml_fret (st := []) (v := FP.fdiv (FP.i2f r1) 1108869120) F (Option.some.inj h) (by show some (Value.float _) = some (Value.float _); rfl) rfl (by decide) (by decide) dX6_meanLevel_14
set_option maxRecDepth 100000 in
def fX1_isWithinRoom_s0 (i : Nat) (rec : Int32 → ml_M → Option ml_R) (x1 : Int32) (M : ml_M) : Option ml_R :=
  (if 4 ≤ x1 then some (.inl 1, M) else ml_bd (fX1_countIn i x1 M) (fun r1 M2 => (if r1 ≤ 2 then rec (x1 + 1) M2 else some (.inl 0, M2))))
def fX1_isWithinRoom_l (i : Nat) : Nat → Int32 → ml_M → Option ml_R
  | 0 => fun _ _ => none
  | n + 1 => fX1_isWithinRoom_s0 i (fX1_isWithinRoom_l i n)
set_option maxHeartbeats 4000000 in
set_option maxRecDepth 100000 in
theorem fX1_isWithinRoom_w (i : Nat) (hi : i < 11) {E : ml_E} {g : ml_G} {res : ml_R} (F : ml_F E g cX1_isWithinRoom yX1_isWithinRoom.cls 2 2 0 0 (some .boolean) []) : ∀ fuel : Nat, ∀ (x1 : Int32) (M : ml_M), fX1_isWithinRoom_l i fuel x1 M = some res → ml_J E g 2 (ml_Z E g (fun r _ => some (.int r)) res 0 0) 0 0 2 [(0, ml_rf g (ml_fl i + 5)), (1, .int x1)] [] M := by
  have hst := ml_F_st F
  intro fuel
  induction fuel with
  | zero => intro _ _ h; exact nomatch (show (none : Option ml_R) = some res from h)
  | succ fuel ih =>
    intro x1 M h
    replace h : fX1_isWithinRoom_s0 i (fX1_isWithinRoom_l i fuel) x1 M = some res := h
    unfold fX1_isWithinRoom_s0 at h
    refine ml_iload_n (q := 1) F dX1_isWithinRoom_2 rfl rfl ?_
    refine ml_iconst (v := 4) F dX1_isWithinRoom_3 (by decide) ?_
    refine ml_icmp_ge (tgt := 24) F dX1_isWithinRoom_4 (by decide) h (fun _ h => ?_) (fun _ h => ?_)
    · refine ml_iconst (v := 1) F dX1_isWithinRoom_24 (by decide) ?_
      exact ml_iret (st := []) F (Option.some.inj h) rfl rfl (by decide) (by decide) (by decide) dX1_isWithinRoom_25
    · refine ml_aload_n (q := 0) F dX1_isWithinRoom_7 rfl rfl ?_
      refine ml_iload_n (q := 1) F dX1_isWithinRoom_8 rfl rfl ?_
      refine ml_callV (av := [.int x1]) (T := TX1) (N := 8) F (pf5 g hi) rfl h (fun rs h9 => fX1_countIn_c i x1 M rs hi hst h9) wcX1_countIn mlX1_46 wdX1_countIn (by decide) (by decide) (by decide) rfl seX1_countIn imX1_countIn rfl (Nat.le_of_ble_eq_true rfl) dX1_isWithinRoom_9 (fun r1 M2 h => ?_)
      refine ml_iconst (v := 2) F dX1_isWithinRoom_12 (by decide) ?_
      refine ml_icmp_le (tgt := 18) F dX1_isWithinRoom_13 (by decide) h (fun _ h => ?_) (fun _ h => ?_)
      · refine ml_iinc (q := 1) (v := x1 + 1) (ls2 := [(1, .int (x1 + 1)), (0, ml_rf g (ml_fl i + 5))]) F dX1_isWithinRoom_18 rfl rfl (by decide) rfl ?_
        refine ml_goto (tgt := 2) F dX1_isWithinRoom_21 (by decide) ?_
        exact ml_sub [1, 0] rfl (ih _ _ h)
      · refine ml_iconst (v := 0) F dX1_isWithinRoom_16 (by decide) ?_
        exact ml_iret (st := []) F (Option.some.inj h) rfl rfl (by decide) (by decide) (by decide) dX1_isWithinRoom_17
set_option maxRecDepth 100000 in
def fX1_isWithinRoom (i : Nat) (M : ml_M) : Option ml_R :=
  fX1_isWithinRoom_l i ml_fuel 1 M
set_option maxHeartbeats 4000000 in
set_option maxRecDepth 100000 in
theorem fX1_isWithinRoom_c (i : Nat) (M : ml_M) (res : ml_R) (hi : i < 11) {g : ml_G} (hst : g.2.2.2.2.2.stackTraces = false) (h : fX1_isWithinRoom i M = some res) : ml_C yX1_isWithinRoom cX1_isWithinRoom 2 (some .boolean) 2 0 0 g (fun r _ => some (.int r)) [ml_rf g (ml_fl i + 5)] M res := by
  refine ml_of [(0, ml_rf g (ml_fl i + 5))] hst (by decide) (Nat.le_of_ble_eq_true rfl) rfl (fun E F => ?_)
  unfold fX1_isWithinRoom at h
  refine ml_iconst (v := 1) F dX1_isWithinRoom_0 (by decide) ?_
  refine ml_istore_n (ls2 := [(1, .int 1), (0, ml_rf g (ml_fl i + 5))]) F dX1_isWithinRoom_1 rfl (by decide) rfl ?_
  exact ml_sub [1, 0] rfl ((fX1_isWithinRoom_w i hi F ml_fuel) _ _ h)
set_option maxRecDepth 100000 in
def fX6_isConsistent (M : ml_M) : Option ml_R :=
  ml_bd (fX5_amountsAgree 0 M) (fun r1 M2 => ml_jn (fun (y3 : Int32) (M4 : ml_M) => if narrow .boolean (.int y3) = .int y3 then some (.inl y3, M4) else none) (fun B5 => (if r1 = 0 then B5 0 M2 else ml_bd (fX5_sumOfVolumes 0 M2) (fun r8 M9 => ml_bd (fX5_sumByAccounts 0 M9) (fun r10 M11 => (if r8 = r10 then ml_bd (fX5_isWithinLimits 0 M11) (fun r12 M13 => (if r12 = 0 then B5 0 M13 else ml_bd (fX1_isWithinRoom 0 M13) (fun r14 M15 => (if r14 = 0 then B5 0 M15 else B5 1 M15)))) else B5 0 M11))))))
set_option maxHeartbeats 4000000 in
set_option maxRecDepth 100000 in
theorem fX6_isConsistent_c (M : ml_M) (res : ml_R) {g : ml_G} (hst : g.2.2.2.2.2.stackTraces = false) (h : fX6_isConsistent M = some res) : ml_C yX6_isConsistent cX6_isConsistent 1 (some .boolean) 5 0 0 g (fun r _ => some (.int r)) [ml_rf g 0] M res := by
  refine ml_of [(0, ml_rf g 0)] hst (by decide) (Nat.le_of_ble_eq_true rfl) rfl (fun E F => ?_)
  unfold fX6_isConsistent at h
  refine ml_aload_n (q := 0) F dX6_isConsistent_0 rfl rfl ?_
  refine ml_get (v := ml_rf g (ml_fl 0)) F (pc0 g) rfl iaX6 0 (by decide) lkX6_12 rfl rfl dX6_isConsistent_1 ?_
  refine ml_get (v := ml_rf g (ml_fl 0 + 1)) F (pf0 g (by decide : 0 < 11)) rfl iaX2 0 (by decide) lkX6_70 rfl rfl dX6_isConsistent_4 ?_
  refine ml_callV (av := []) (T := TX5) (N := 8) F (pf1 g (by decide : 0 < 11)) rfl h (fun rs h9 => fX5_amountsAgree_c 0 M rs (by decide : 0 < 11) hst h9) wcX5_amountsAgree mlX6_228 wdX5_amountsAgree (by decide) (by decide) (by decide) rfl seX5_amountsAgree imX5_amountsAgree rfl (Nat.le_of_ble_eq_true rfl) dX6_isConsistent_7 (fun r1 M2 h => ?_)
  refine ml_jnR (P := fun B => ∀ (y3 : Int32) (M4 : ml_M), B y3 M4 = some res → ml_J E g 1 (ml_Z E g (fun r _ => some (.int r)) res 0 0) (0 + 0) (0 + 0) 67 [(0, ml_rf g 0)] (.int y3 :: []) M4) h ?_ (fun jn6 h => ?_)
  · intro y3 M4 h
    dsimp only at h
    obtain ⟨q7, h⟩ := ml_if h
    exact ml_iret (st := []) F (Option.some.inj h) rfl rfl q7 (by decide) (by decide) dX6_isConsistent_67
  refine ml_if_eq (tgt := 66) F dX6_isConsistent_10 (by decide) h (fun _ h => ?_) (fun _ h => ?_)
  · refine ml_iconst (v := 0) F dX6_isConsistent_66 (by decide) ?_
    exact ml_sub [0] rfl (jn6 _ _ h)
  · refine ml_aload_n (q := 0) F dX6_isConsistent_13 rfl rfl ?_
    refine ml_get (v := ml_rf g (ml_fl 0)) F (pc0 g) rfl iaX6 0 (by decide) lkX6_12 rfl rfl dX6_isConsistent_14 ?_
    refine ml_get (v := ml_rf g (ml_fl 0 + 1)) F (pf0 g (by decide : 0 < 11)) rfl iaX2 0 (by decide) lkX6_70 rfl rfl dX6_isConsistent_17 ?_
    refine ml_callV (av := []) (T := TX5) (N := 8) F (pf1 g (by decide : 0 < 11)) rfl h (fun rs h9 => fX5_sumOfVolumes_c 0 M2 rs (by decide : 0 < 11) hst h9) wcX5_sumOfVolumes mlX6_112 wdX5_sumOfVolumes (by decide) (by decide) (by decide) rfl seX5_sumOfVolumes imX5_sumOfVolumes rfl (Nat.le_of_ble_eq_true rfl) dX6_isConsistent_20 (fun r8 M9 h => ?_)
    refine ml_aload_n (q := 0) F dX6_isConsistent_23 rfl rfl ?_
    refine ml_get (v := ml_rf g (ml_fl 0)) F (pc0 g) rfl iaX6 0 (by decide) lkX6_12 rfl rfl dX6_isConsistent_24 ?_
    refine ml_get (v := ml_rf g (ml_fl 0 + 1)) F (pf0 g (by decide : 0 < 11)) rfl iaX2 0 (by decide) lkX6_70 rfl rfl dX6_isConsistent_27 ?_
    refine ml_callV (av := []) (T := TX5) (N := 8) F (pf1 g (by decide : 0 < 11)) rfl h (fun rs h9 => fX5_sumByAccounts_c 0 M9 rs (by decide : 0 < 11) hst h9) wcX5_sumByAccounts mlX6_116 wdX5_sumByAccounts (by decide) (by decide) (by decide) rfl seX5_sumByAccounts imX5_sumByAccounts rfl (Nat.le_of_ble_eq_true rfl) dX6_isConsistent_30 (fun r10 M11 h => ?_)
    refine ml_icmp_ne (tgt := 66) F dX6_isConsistent_33 (by decide) h (fun _ h => ?_) (fun _ h => ?_)
    · refine ml_iconst (v := 0) F dX6_isConsistent_66 (by decide) ?_
      exact ml_sub [0] rfl (jn6 _ _ h)
    · refine ml_aload_n (q := 0) F dX6_isConsistent_36 rfl rfl ?_
      refine ml_get (v := ml_rf g (ml_fl 0)) F (pc0 g) rfl iaX6 0 (by decide) lkX6_12 rfl rfl dX6_isConsistent_37 ?_
      refine ml_get (v := ml_rf g (ml_fl 0 + 1)) F (pf0 g (by decide : 0 < 11)) rfl iaX2 0 (by decide) lkX6_70 rfl rfl dX6_isConsistent_40 ?_
      refine ml_callV (av := []) (T := TX5) (N := 8) F (pf1 g (by decide : 0 < 11)) rfl h (fun rs h9 => fX5_isWithinLimits_c 0 M11 rs (by decide : 0 < 11) hst h9) wcX5_isWithinLimits mlX6_232 wdX5_isWithinLimits (by decide) (by decide) (by decide) rfl seX5_isWithinLimits imX5_isWithinLimits rfl (Nat.le_of_ble_eq_true rfl) dX6_isConsistent_43 (fun r12 M13 h => ?_)
      refine ml_if_eq (tgt := 66) F dX6_isConsistent_46 (by decide) h (fun _ h => ?_) (fun _ h => ?_)
      · refine ml_iconst (v := 0) F dX6_isConsistent_66 (by decide) ?_
        exact ml_sub [0] rfl (jn6 _ _ h)
      · refine ml_aload_n (q := 0) F dX6_isConsistent_49 rfl rfl ?_
        refine ml_get (v := ml_rf g (ml_fl 0)) F (pc0 g) rfl iaX6 0 (by decide) lkX6_12 rfl rfl dX6_isConsistent_50 ?_
        refine ml_get (v := ml_rf g (ml_fl 0 + 5)) F (pf0 g (by decide : 0 < 11)) rfl iaX2 1 (by decide) lkX6_138 rfl rfl dX6_isConsistent_53 ?_
        refine ml_callV (av := []) (T := TX1) (N := 8) F (pf5 g (by decide : 0 < 11)) rfl h (fun rs h9 => fX1_isWithinRoom_c 0 M13 rs (by decide : 0 < 11) hst h9) wcX1_isWithinRoom mlX6_235 wdX1_isWithinRoom (by decide) (by decide) (by decide) rfl seX1_isWithinRoom imX1_isWithinRoom rfl (Nat.le_of_ble_eq_true rfl) dX6_isConsistent_56 (fun r14 M15 h => ?_)
        refine ml_if_eq (tgt := 66) F dX6_isConsistent_59 (by decide) h (fun _ h => ?_) (fun _ h => ?_)
        · refine ml_iconst (v := 0) F dX6_isConsistent_66 (by decide) ?_
          exact ml_sub [0] rfl (jn6 _ _ h)
        · refine ml_iconst (v := 1) F dX6_isConsistent_62 (by decide) ?_
          refine ml_goto (tgt := 67) F dX6_isConsistent_63 (by decide) ?_
          exact ml_sub [0] rfl (jn6 _ _ h)
