set_option maxRecDepth 100000 in
def fX7_thrown (M : ml_M) : Option ml_R :=
  some (.inl (M 11 0), M)
set_option maxHeartbeats 4000000 in
set_option maxRecDepth 100000 in
theorem fX7_thrown_c (M : ml_M) (res : ml_R) {g : ml_G} (hst : g.2.2.2.2.2.stackTraces = false) (h : fX7_thrown M = some res) : ml_C yX7_thrown cX7_thrown 1 (some .int) 1 0 0 g (fun r _ => some (.int r)) [ml_rf g 11] M res := by
  refine ml_of [(0, ml_rf g 11)] hst (by decide) (Nat.le_of_ble_eq_true rfl) rfl (fun E F => ?_)
  unfold fX7_thrown at h
  refine ml_aload_n (q := 0) F dX7_thrown_0 rfl rfl ?_
  refine ml_get (v := .int (M 11 0)) F (pc11 g) rfl iaX7 0 (by decide) lkX7_30 rfl rfl dX7_thrown_1 ?_
  exact ml_iret (st := []) F (Option.some.inj h) rfl rfl rfl (by decide) (by decide) dX7_thrown_4
set_option maxRecDepth 100000 in
def fX7_in (a0 : Int32) (a1 : Int32) (a2 : Int32) (M : ml_M) : Option ml_R :=
  ml_jn (fun (y1 : Int32) => if narrow .boolean (.int y1) = .int y1 then some (.inl y1, M) else none) (fun B2 => (if a0 < a1 then B2 0 else (if a2 < a0 then B2 0 else B2 1)))
set_option maxHeartbeats 4000000 in
set_option maxRecDepth 100000 in
theorem fX7_in_c (a0 : Int32) (a1 : Int32) (a2 : Int32) (M : ml_M) (res : ml_R) {g : ml_G} (hst : g.2.2.2.2.2.stackTraces = false) (h : fX7_in a0 a1 a2 M = some res) : ml_C yX7_in cX7_in 3 (some .boolean) 1 0 0 g (fun r _ => some (.int r)) [.int a0, .int a1, .int a2] M res := by
  refine ml_of [(0, .int a0), (1, .int a1), (2, .int a2)] hst (by decide) (Nat.le_of_ble_eq_true rfl) rfl (fun E F => ?_)
  unfold fX7_in at h
  refine ml_iload_n (q := 0) F dX7_in_0 rfl rfl ?_
  refine ml_iload_n (q := 1) F dX7_in_1 rfl rfl ?_
  refine ml_jnR (P := fun B => ∀ (y1 : Int32), B y1 = some res → ml_J E g 3 (ml_Z E g (fun r _ => some (.int r)) res 0 0) (0) (0) 15 [(0, .int a0), (1, .int a1), (2, .int a2)] (.int y1 :: []) M) h ?_ (fun jn3 h => ?_)
  · intro y1 h
    dsimp only at h
    obtain ⟨q4, h⟩ := ml_if h
    exact ml_iret (st := []) F (Option.some.inj h) rfl rfl q4 (by decide) (by decide) dX7_in_15
  refine ml_icmp_lt (tgt := 14) F dX7_in_2 (by decide) h (fun _ h => ?_) (fun _ h => ?_)
  · refine ml_iconst (v := 0) F dX7_in_14 (by decide) ?_
    exact ml_sub [0, 1, 2] rfl (jn3 _ h)
  · refine ml_iload_n (q := 0) F dX7_in_5 rfl rfl ?_
    refine ml_iload_n (q := 2) F dX7_in_6 rfl rfl ?_
    refine ml_icmp_gt (tgt := 14) F dX7_in_7 (by decide) h (fun _ h => ?_) (fun _ h => ?_)
    · refine ml_iconst (v := 0) F dX7_in_14 (by decide) ?_
      exact ml_sub [0, 1, 2] rfl (jn3 _ h)
    · refine ml_iconst (v := 1) F dX7_in_10 (by decide) ?_
      refine ml_goto (tgt := 15) F dX7_in_11 (by decide) ?_
      exact ml_sub [0, 1, 2] rfl (jn3 _ h)
set_option maxRecDepth 100000 in
def fX7_copies_s0 (a0 : Int32) (a1 : Int32) (rec : Int32 → Int32 → Int32 → ml_M → Option ml_R) (x1 x2 x3 : Int32) (M : ml_M) : Option ml_R :=
  (if 80 ≤ x3 then some (.inl 0, M) else if ml_ok ((80 * x1) + x3) 960 then if ml_ok ((80 * x2) + x3) 960 then ml_lt (ml_w M 12 ((80 * x2) + x3).toNatClampNeg (M 12 ((80 * x1) + x3).toNatClampNeg)) (fun M1 => rec x1 x2 (x3 + 1) M1) else none else none)
def fX7_copies_l (a0 : Int32) (a1 : Int32) : Nat → Int32 → Int32 → Int32 → ml_M → Option ml_R
  | 0 => fun _ _ _ _ => none
  | n + 1 => fX7_copies_s0 a0 a1 (fX7_copies_l a0 a1 n)
set_option maxHeartbeats 4000000 in
set_option maxRecDepth 100000 in
theorem fX7_copies_w (a0 : Int32) (a1 : Int32) {E : ml_E} {g : ml_G} {res : ml_R} (F : ml_F E g cX7_copies yX7_copies.cls 4 1 0 0 none []) : ∀ fuel : Nat, ∀ (x1 x2 x3 : Int32) (M : ml_M), fX7_copies_l a0 a1 fuel x1 x2 x3 M = some res → ml_J E g 4 (ml_Z E g (fun _ _ => none) res 0 0) 0 0 2 [(0, ml_rf g 11), (1, .int x1), (2, .int x2), (3, .int x3)] [] M := by
  have hst := ml_F_st F
  intro fuel
  induction fuel with
  | zero => intro _ _ _ _ h; exact nomatch (show (none : Option ml_R) = some res from h)
  | succ fuel ih =>
    intro x1 x2 x3 M h
    replace h : fX7_copies_s0 a0 a1 (fX7_copies_l a0 a1 fuel) x1 x2 x3 M = some res := h
    unfold fX7_copies_s0 at h
    refine ml_iload_n (q := 3) F dX7_copies_2 rfl rfl ?_
    refine ml_bipush (v := 80) F dX7_copies_3 (by decide) ?_
    refine ml_icmp_ge (tgt := 36) F dX7_copies_5 (by decide) h (fun _ h => ?_) (fun _ h => ?_)
    · exact ml_vret (st := []) F (Option.some.inj h) rfl rfl (by decide) (by decide) dX7_copies_36
    · refine ml_aload_n (q := 0) F dX7_copies_8 rfl rfl ?_
      refine ml_get (v := ml_rf g 12) F (pc11 g) rfl iaX7 1 (by decide) lkX7_9 rfl rfl dX7_copies_9 ?_
      refine ml_bipush (v := 80) F dX7_copies_12 (by decide) ?_
      refine ml_iload_n (q := 2) F dX7_copies_14 rfl rfl ?_
      refine ml_imul F dX7_copies_15 ?_
      refine ml_iload_n (q := 3) F dX7_copies_16 rfl rfl ?_
      refine ml_iadd F dX7_copies_17 ?_
      refine ml_aload_n (q := 0) F dX7_copies_18 rfl rfl ?_
      refine ml_get (v := ml_rf g 12) F (pc11 g) rfl iaX7 1 (by decide) lkX7_9 rfl rfl dX7_copies_19 ?_
      refine ml_bipush (v := 80) F dX7_copies_22 (by decide) ?_
      refine ml_iload_n (q := 1) F dX7_copies_24 rfl rfl ?_
      refine ml_imul F dX7_copies_25 ?_
      refine ml_iload_n (q := 3) F dX7_copies_26 rfl rfl ?_
      refine ml_iadd F dX7_copies_27 ?_
      refine ml_iald F (pc12 g) h dX7_copies_28 (fun h => ?_)
      refine ml_iast F (pc12 g) h dX7_copies_29 (fun h => ?_)
      refine ml_ltM h (fun M1 _ h => ?_)
      refine ml_iinc (q := 3) (v := x3 + 1) (ls2 := [(3, .int (x3 + 1)), (0, ml_rf g 11), (1, .int x1), (2, .int x2)]) F dX7_copies_30 rfl rfl (by decide) rfl ?_
      refine ml_goto (tgt := 2) F dX7_copies_33 (by decide) ?_
      exact ml_sub [1, 2, 3, 0] rfl (ih _ _ _ _ h)
set_option maxRecDepth 100000 in
def fX7_copies (a0 : Int32) (a1 : Int32) (M : ml_M) : Option ml_R :=
  fX7_copies_l a0 a1 ml_fuel a0 a1 0 M
set_option maxHeartbeats 4000000 in
set_option maxRecDepth 100000 in
theorem fX7_copies_c (a0 : Int32) (a1 : Int32) (M : ml_M) (res : ml_R) {g : ml_G} (hst : g.2.2.2.2.2.stackTraces = false) (h : fX7_copies a0 a1 M = some res) : ml_C yX7_copies cX7_copies 4 none 1 0 0 g (fun _ _ => none) [ml_rf g 11, .int a0, .int a1] M res := by
  refine ml_of [(0, ml_rf g 11), (1, .int a0), (2, .int a1)] hst (by decide) (Nat.le_of_ble_eq_true rfl) rfl (fun E F => ?_)
  unfold fX7_copies at h
  refine ml_iconst (v := 0) F dX7_copies_0 (by decide) ?_
  refine ml_istore_n (ls2 := [(3, .int 0), (0, ml_rf g 11), (1, .int a0), (2, .int a1)]) F dX7_copies_1 rfl (by decide) rfl ?_
  exact ml_sub [1, 2, 3, 0] rfl ((fX7_copies_w a0 a1 F ml_fuel) _ _ _ _ h)
set_option maxRecDepth 100000 in
def fX7_begins (M : ml_M) : Option ml_R :=
  ml_bd (fX7_copies 0 10 M) (fun r1 M2 => some (.inl 0, M2))
set_option maxHeartbeats 4000000 in
set_option maxRecDepth 100000 in
theorem fX7_begins_c (M : ml_M) (res : ml_R) {g : ml_G} (hst : g.2.2.2.2.2.stackTraces = false) (h : fX7_begins M = some res) : ml_C yX7_begins cX7_begins 1 none 2 0 0 g (fun _ _ => none) [ml_rf g 11] M res := by
  refine ml_of [(0, ml_rf g 11)] hst (by decide) (Nat.le_of_ble_eq_true rfl) rfl (fun E F => ?_)
  unfold fX7_begins at h
  refine ml_aload_n (q := 0) F dX7_begins_0 rfl rfl ?_
  refine ml_iconst (v := 0) F dX7_begins_1 (by decide) ?_
  refine ml_bipush (v := 10) F dX7_begins_2 (by decide) ?_
  refine ml_callV (av := [.int 0, .int 10]) (T := TX7) (N := 16) F (pc11 g) rfl h (fun rs h9 => fX7_copies_c 0 10 M rs hst h9) wcX7_copies mlX7_33 wdX7_copies (by decide) (by decide) (by decide) rfl seX7_copies imX7_copies rfl (Nat.le_of_ble_eq_true rfl) dX7_begins_4 (fun r1 M2 h => ?_)
  exact ml_vret (st := []) F (Option.some.inj h) rfl rfl (by decide) (by decide) dX7_begins_7
set_option maxRecDepth 100000 in
def fX7_ends_s0 (a0 : Int32) (a1 : Int32) (a2 : Int32) (a3 : Int32) (a4 : Int32) (rec : Int32 → Int32 → Int32 → Int32 → Int32 → Int32 → ml_M → Option ml_R) (x1 x2 x3 x4 x5 x6 : Int32) (M : ml_M) : Option ml_R :=
  (if 8 ≤ x6 then ml_lt (ml_w M 11 2 ((M 11 2) - 1)) (fun M1 => ml_lt (ml_w M1 11 2 ((M1 11 2) + 1)) (fun M2 => ml_bd (fX7_copies 10 (M2 11 2) M2) (fun r3 M4 => some (.inl (M4 11 4), M4)))) else ml_bd (fX7_copies (x6 + 1) x6 M) (fun r5 M6 => rec x1 x2 x3 x4 x5 (x6 + 1) M6))
def fX7_ends_l (a0 : Int32) (a1 : Int32) (a2 : Int32) (a3 : Int32) (a4 : Int32) : Nat → Int32 → Int32 → Int32 → Int32 → Int32 → Int32 → ml_M → Option ml_R
  | 0 => fun _ _ _ _ _ _ _ => none
  | n + 1 => fX7_ends_s0 a0 a1 a2 a3 a4 (fX7_ends_l a0 a1 a2 a3 a4 n)
set_option maxHeartbeats 4000000 in
set_option maxRecDepth 100000 in
theorem fX7_ends_w (a0 : Int32) (a1 : Int32) (a2 : Int32) (a3 : Int32) (a4 : Int32) {E : ml_E} {g : ml_G} {res : ml_R} (F : ml_F E g cX7_ends yX7_ends.cls 7 2 0 0 (some .int) []) : ∀ fuel : Nat, ∀ (x1 x2 x3 x4 x5 x6 : Int32) (M : ml_M), fX7_ends_l a0 a1 a2 a3 a4 fuel x1 x2 x3 x4 x5 x6 M = some res → ml_J E g 7 (ml_Z E g (fun r _ => some (.int r)) res 0 0) 0 0 71 [(0, ml_rf g 11), (1, .int x1), (2, .int x2), (3, .int x3), (4, .int x4), (5, .int x5), (6, .int x6)] [] M := by
  have hst := ml_F_st F
  intro fuel
  induction fuel with
  | zero => intro _ _ _ _ _ _ _ h; exact nomatch (show (none : Option ml_R) = some res from h)
  | succ fuel ih =>
    intro x1 x2 x3 x4 x5 x6 M h
    replace h : fX7_ends_s0 a0 a1 a2 a3 a4 (fX7_ends_l a0 a1 a2 a3 a4 fuel) x1 x2 x3 x4 x5 x6 M = some res := h
    unfold fX7_ends_s0 at h
    refine ml_iload (q := 6) F dX7_ends_71 rfl ?_
    refine ml_bipush (v := 8) F dX7_ends_73 (by decide) ?_
    refine ml_icmp_ge (tgt := 94) F dX7_ends_75 (by decide) h (fun _ h => ?_) (fun _ h => ?_)
    · refine ml_aload_n (q := 0) F dX7_ends_94 rfl rfl ?_
      refine ml_dup F dX7_ends_95 rfl ?_
      refine ml_get (v := .int (M 11 2)) F (pc11 g) rfl iaX7 2 (by decide) lkX7_37 rfl rfl dX7_ends_96 ?_
      refine ml_iconst (v := 1) F dX7_ends_99 (by decide) ?_
      refine ml_isub F dX7_ends_100 ?_
      refine ml_set F (pc11 g) rfl iaX7 tyX7_ok nmX7 2 (by decide) lkX7_37 rfl rfl rfl rfl rfl (Nat.le_of_ble_eq_true rfl) (fun m => by simp [upd]) dX7_ends_101 ?_
      refine ml_ltM h (fun M1 _ h => ?_)
      refine ml_aload_n (q := 0) F dX7_ends_104 rfl rfl ?_
      refine ml_dup F dX7_ends_105 rfl ?_
      refine ml_get (v := .int (M1 11 2)) F (pc11 g) rfl iaX7 2 (by decide) lkX7_37 rfl rfl dX7_ends_106 ?_
      refine ml_iconst (v := 1) F dX7_ends_109 (by decide) ?_
      refine ml_iadd F dX7_ends_110 ?_
      refine ml_set F (pc11 g) rfl iaX7 tyX7_ok nmX7 2 (by decide) lkX7_37 rfl rfl rfl rfl rfl (Nat.le_of_ble_eq_true rfl) (fun m => by simp [upd]) dX7_ends_111 ?_
      refine ml_ltM h (fun M2 _ h => ?_)
      refine ml_aload_n (q := 0) F dX7_ends_114 rfl rfl ?_
      refine ml_bipush (v := 10) F dX7_ends_115 (by decide) ?_
      refine ml_aload_n (q := 0) F dX7_ends_117 rfl rfl ?_
      refine ml_get (v := .int (M2 11 2)) F (pc11 g) rfl iaX7 2 (by decide) lkX7_37 rfl rfl dX7_ends_118 ?_
      refine ml_callV (av := [.int 10, .int (M2 11 2)]) (T := TX7) (N := 16) F (pc11 g) rfl h (fun rs h9 => fX7_copies_c 10 (M2 11 2) M2 rs hst h9) wcX7_copies mlX7_33 wdX7_copies (by decide) (by decide) (by decide) rfl seX7_copies imX7_copies rfl (Nat.le_of_ble_eq_true rfl) dX7_ends_121 (fun r3 M4 h => ?_)
      refine ml_aload_n (q := 0) F dX7_ends_124 rfl rfl ?_
      refine ml_get (v := .int (M4 11 4)) F (pc11 g) rfl iaX7 4 (by decide) lkX7_40 rfl rfl dX7_ends_125 ?_
      exact ml_iret (st := []) F (Option.some.inj h) rfl rfl rfl (by decide) (by decide) dX7_ends_128
    · refine ml_aload_n (q := 0) F dX7_ends_78 rfl rfl ?_
      refine ml_iload (q := 6) F dX7_ends_79 rfl ?_
      refine ml_iconst (v := 1) F dX7_ends_81 (by decide) ?_
      refine ml_iadd F dX7_ends_82 ?_
      refine ml_iload (q := 6) F dX7_ends_83 rfl ?_
      refine ml_callV (av := [.int (x6 + 1), .int x6]) (T := TX7) (N := 16) F (pc11 g) rfl h (fun rs h9 => fX7_copies_c (x6 + 1) x6 M rs hst h9) wcX7_copies mlX7_33 wdX7_copies (by decide) (by decide) (by decide) rfl seX7_copies imX7_copies rfl (Nat.le_of_ble_eq_true rfl) dX7_ends_85 (fun r5 M6 h => ?_)
      refine ml_iinc (q := 6) (v := x6 + 1) (ls2 := [(6, .int (x6 + 1)), (0, ml_rf g 11), (1, .int x1), (2, .int x2), (3, .int x3), (4, .int x4), (5, .int x5)]) F dX7_ends_88 rfl rfl (by decide) rfl ?_
      refine ml_goto (tgt := 71) F dX7_ends_91 (by decide) ?_
      exact ml_sub [1, 2, 3, 4, 5, 6, 0] rfl (ih _ _ _ _ _ _ _ h)
set_option maxRecDepth 100000 in
def fX7_ends (a0 : Int32) (a1 : Int32) (a2 : Int32) (a3 : Int32) (a4 : Int32) (M : ml_M) : Option ml_R :=
  ml_jn (fun (y1 : Int32) => ml_lt (ml_w M 11 0 y1) (fun M4 => (if (M4 11 0) = 0 then (if (M4 11 2) = 8 then fX7_ends_l a0 a1 a2 a3 a4 ml_fuel a0 a1 a2 a3 a4 1 M4 else ml_lt (ml_w M4 11 2 ((M4 11 2) + 1)) (fun M5 => ml_bd (fX7_copies 10 (M5 11 2) M5) (fun r6 M7 => some (.inl (M7 11 4), M7)))) else ml_bd (fX7_copies 10 0 M4) (fun r8 M9 => some (.inl 0, M9))))) (fun B2 => (if a0 = 1 then B2 a1 else (if a0 = 2 then B2 a2 else (if a0 = 3 then B2 a3 else (if a0 = 4 then B2 a4 else B2 0)))))
set_option maxHeartbeats 4000000 in
set_option maxRecDepth 100000 in
theorem fX7_ends_c (a0 : Int32) (a1 : Int32) (a2 : Int32) (a3 : Int32) (a4 : Int32) (M : ml_M) (res : ml_R) {g : ml_G} (hst : g.2.2.2.2.2.stackTraces = false) (h : fX7_ends a0 a1 a2 a3 a4 M = some res) : ml_C yX7_ends cX7_ends 7 (some .int) 2 0 0 g (fun r _ => some (.int r)) [ml_rf g 11, .int a0, .int a1, .int a2, .int a3, .int a4] M res := by
  refine ml_of [(0, ml_rf g 11), (1, .int a0), (2, .int a1), (3, .int a2), (4, .int a3), (5, .int a4)] hst (by decide) (Nat.le_of_ble_eq_true rfl) rfl (fun E F => ?_)
  unfold fX7_ends at h
  refine ml_aload_n (q := 0) F dX7_ends_0 rfl rfl ?_
  refine ml_iload_n (q := 1) F dX7_ends_1 rfl rfl ?_
  refine ml_iconst (v := 1) F dX7_ends_2 (by decide) ?_
  refine ml_jnR (P := fun B => ∀ (y1 : Int32), B y1 = some res → ml_J E g 7 (ml_Z E g (fun r _ => some (.int r)) res 0 0) (0) (0) 40 [(0, ml_rf g 11), (1, .int a0), (2, .int a1), (3, .int a2), (4, .int a3), (5, .int a4)] (.int y1 :: ml_rf g 11 :: []) M) h ?_ (fun jn3 h => ?_)
  · intro y1 h
    dsimp only at h
    refine ml_set F (pc11 g) rfl iaX7 tyX7_ok nmX7 0 (by decide) lkX7_30 rfl rfl rfl rfl rfl (Nat.le_of_ble_eq_true rfl) (fun m => by simp [upd]) dX7_ends_40 ?_
    refine ml_ltM h (fun M4 _ h => ?_)
    refine ml_aload_n (q := 0) F dX7_ends_43 rfl rfl ?_
    refine ml_get (v := .int (M4 11 0)) F (pc11 g) rfl iaX7 0 (by decide) lkX7_30 rfl rfl dX7_ends_44 ?_
    refine ml_if_eq (tgt := 59) F dX7_ends_47 (by decide) h (fun _ h => ?_) (fun _ h => ?_)
    · refine ml_aload_n (q := 0) F dX7_ends_59 rfl rfl ?_
      refine ml_get (v := .int (M4 11 2)) F (pc11 g) rfl iaX7 2 (by decide) lkX7_37 rfl rfl dX7_ends_60 ?_
      refine ml_bipush (v := 8) F dX7_ends_63 (by decide) ?_
      refine ml_icmp_ne (tgt := 104) F dX7_ends_65 (by decide) h (fun _ h => ?_) (fun _ h => ?_)
      · refine ml_aload_n (q := 0) F dX7_ends_104 rfl rfl ?_
        refine ml_dup F dX7_ends_105 rfl ?_
        refine ml_get (v := .int (M4 11 2)) F (pc11 g) rfl iaX7 2 (by decide) lkX7_37 rfl rfl dX7_ends_106 ?_
        refine ml_iconst (v := 1) F dX7_ends_109 (by decide) ?_
        refine ml_iadd F dX7_ends_110 ?_
        refine ml_set F (pc11 g) rfl iaX7 tyX7_ok nmX7 2 (by decide) lkX7_37 rfl rfl rfl rfl rfl (Nat.le_of_ble_eq_true rfl) (fun m => by simp [upd]) dX7_ends_111 ?_
        refine ml_ltM h (fun M5 _ h => ?_)
        refine ml_aload_n (q := 0) F dX7_ends_114 rfl rfl ?_
        refine ml_bipush (v := 10) F dX7_ends_115 (by decide) ?_
        refine ml_aload_n (q := 0) F dX7_ends_117 rfl rfl ?_
        refine ml_get (v := .int (M5 11 2)) F (pc11 g) rfl iaX7 2 (by decide) lkX7_37 rfl rfl dX7_ends_118 ?_
        refine ml_callV (av := [.int 10, .int (M5 11 2)]) (T := TX7) (N := 16) F (pc11 g) rfl h (fun rs h9 => fX7_copies_c 10 (M5 11 2) M5 rs hst h9) wcX7_copies mlX7_33 wdX7_copies (by decide) (by decide) (by decide) rfl seX7_copies imX7_copies rfl (Nat.le_of_ble_eq_true rfl) dX7_ends_121 (fun r6 M7 h => ?_)
        refine ml_aload_n (q := 0) F dX7_ends_124 rfl rfl ?_
        refine ml_get (v := .int (M7 11 4)) F (pc11 g) rfl iaX7 4 (by decide) lkX7_40 rfl rfl dX7_ends_125 ?_
        exact ml_iret (st := []) F (Option.some.inj h) rfl rfl rfl (by decide) (by decide) dX7_ends_128
      · refine ml_iconst (v := 1) F dX7_ends_68 (by decide) ?_
        refine ml_istore (ls2 := [(6, .int 1), (0, ml_rf g 11), (1, .int a0), (2, .int a1), (3, .int a2), (4, .int a3), (5, .int a4)]) F dX7_ends_69 (by decide) rfl ?_
        exact ml_sub [1, 2, 3, 4, 5, 6, 0] rfl ((fX7_ends_w a0 a1 a2 a3 a4 F ml_fuel) _ _ _ _ _ _ _ h)
    · refine ml_aload_n (q := 0) F dX7_ends_50 rfl rfl ?_
      refine ml_bipush (v := 10) F dX7_ends_51 (by decide) ?_
      refine ml_iconst (v := 0) F dX7_ends_53 (by decide) ?_
      refine ml_callV (av := [.int 10, .int 0]) (T := TX7) (N := 16) F (pc11 g) rfl h (fun rs h9 => fX7_copies_c 10 0 M4 rs hst h9) wcX7_copies mlX7_33 wdX7_copies (by decide) (by decide) (by decide) rfl seX7_copies imX7_copies rfl (Nat.le_of_ble_eq_true rfl) dX7_ends_54 (fun r8 M9 h => ?_)
      refine ml_iconst (v := 0) F dX7_ends_57 (by decide) ?_
      exact ml_iret (st := []) F (Option.some.inj h) rfl rfl rfl (by decide) (by decide) dX7_ends_58
  refine ml_icmp_ne (tgt := 10) F dX7_ends_3 (by decide) h (fun _ h => ?_) (fun _ h => ?_)
  · refine ml_iload_n (q := 1) F dX7_ends_10 rfl rfl ?_
    refine ml_iconst (v := 2) F dX7_ends_11 (by decide) ?_
    refine ml_icmp_ne (tgt := 19) F dX7_ends_12 (by decide) h (fun _ h => ?_) (fun _ h => ?_)
    · refine ml_iload_n (q := 1) F dX7_ends_19 rfl rfl ?_
      refine ml_iconst (v := 3) F dX7_ends_20 (by decide) ?_
      refine ml_icmp_ne (tgt := 29) F dX7_ends_21 (by decide) h (fun _ h => ?_) (fun _ h => ?_)
      · refine ml_iload_n (q := 1) F dX7_ends_29 rfl rfl ?_
        refine ml_iconst (v := 4) F dX7_ends_30 (by decide) ?_
        refine ml_icmp_ne (tgt := 39) F dX7_ends_31 (by decide) h (fun _ h => ?_) (fun _ h => ?_)
        · refine ml_iconst (v := 0) F dX7_ends_39 (by decide) ?_
          exact ml_sub [0, 1, 2, 3, 4, 5] rfl (jn3 _ h)
        · refine ml_iload (q := 5) F dX7_ends_34 rfl ?_
          refine ml_goto (tgt := 40) F dX7_ends_36 (by decide) ?_
          exact ml_sub [0, 1, 2, 3, 4, 5] rfl (jn3 _ h)
      · refine ml_iload (q := 4) F dX7_ends_24 rfl ?_
        refine ml_goto (tgt := 40) F dX7_ends_26 (by decide) ?_
        exact ml_sub [0, 1, 2, 3, 4, 5] rfl (jn3 _ h)
    · refine ml_iload_n (q := 3) F dX7_ends_15 rfl rfl ?_
      refine ml_goto (tgt := 40) F dX7_ends_16 (by decide) ?_
      exact ml_sub [0, 1, 2, 3, 4, 5] rfl (jn3 _ h)
  · refine ml_iload_n (q := 2) F dX7_ends_6 rfl rfl ?_
    refine ml_goto (tgt := 40) F dX7_ends_7 (by decide) ?_
    exact ml_sub [0, 1, 2, 3, 4, 5] rfl (jn3 _ h)
set_option maxRecDepth 100000 in
def fX7_isFine (a0 : Int32) (M : ml_M) : Option ml_R :=
  ml_jn (fun (y1 : Int32) => ml_lt (ml_w M 11 0 y1) (fun M4 => if narrow .boolean (.int a0) = .int a0 then some (.inl a0, M4) else none)) (fun B2 => (if a0 = 0 then B2 1 else B2 0))
set_option maxHeartbeats 4000000 in
set_option maxRecDepth 100000 in
theorem fX7_isFine_c (a0 : Int32) (M : ml_M) (res : ml_R) {g : ml_G} (hst : g.2.2.2.2.2.stackTraces = false) (h : fX7_isFine a0 M = some res) : ml_C yX7_isFine cX7_isFine 2 (some .boolean) 1 0 0 g (fun r _ => some (.int r)) [ml_rf g 11, .int a0] M res := by
  refine ml_of [(0, ml_rf g 11), (1, .int a0)] hst (by decide) (Nat.le_of_ble_eq_true rfl) rfl (fun E F => ?_)
  unfold fX7_isFine at h
  refine ml_aload_n (q := 0) F dX7_isFine_0 rfl rfl ?_
  refine ml_iload_n (q := 1) F dX7_isFine_1 rfl rfl ?_
  refine ml_jnR (P := fun B => ∀ (y1 : Int32), B y1 = some res → ml_J E g 2 (ml_Z E g (fun r _ => some (.int r)) res 0 0) (0) (0) 10 [(0, ml_rf g 11), (1, .int a0)] (.int y1 :: ml_rf g 11 :: []) M) h ?_ (fun jn3 h => ?_)
  · intro y1 h
    dsimp only at h
    refine ml_set F (pc11 g) rfl iaX7 tyX7_ok nmX7 0 (by decide) lkX7_30 rfl rfl rfl rfl rfl (Nat.le_of_ble_eq_true rfl) (fun m => by simp [upd]) dX7_isFine_10 ?_
    refine ml_ltM h (fun M4 _ h => ?_)
    refine ml_iload_n (q := 1) F dX7_isFine_13 rfl rfl ?_
    obtain ⟨q5, h⟩ := ml_if h
    exact ml_iret (st := []) F (Option.some.inj h) rfl rfl q5 (by decide) (by decide) dX7_isFine_14
  refine ml_if_eq (tgt := 9) F dX7_isFine_2 (by decide) h (fun _ h => ?_) (fun _ h => ?_)
  · refine ml_iconst (v := 1) F dX7_isFine_9 (by decide) ?_
    exact ml_sub [0, 1] rfl (jn3 _ h)
  · refine ml_iconst (v := 0) F dX7_isFine_5 (by decide) ?_
    refine ml_goto (tgt := 10) F dX7_isFine_6 (by decide) ?_
    exact ml_sub [0, 1] rfl (jn3 _ h)
set_option maxRecDepth 100000 in
def fX7_isBasin (a0 : Int32) (M : ml_M) : Option ml_R :=
  ml_bd (fX7_in a0 0 4 M) (fun r1 M2 => if narrow .boolean (.int r1) = .int r1 then some (.inl r1, M2) else none)
set_option maxHeartbeats 4000000 in
set_option maxRecDepth 100000 in
theorem fX7_isBasin_c (a0 : Int32) (M : ml_M) (res : ml_R) {g : ml_G} (hst : g.2.2.2.2.2.stackTraces = false) (h : fX7_isBasin a0 M = some res) : ml_C yX7_isBasin cX7_isBasin 1 (some .boolean) 2 0 0 g (fun r _ => some (.int r)) [.int a0] M res := by
  refine ml_of [(0, .int a0)] hst (by decide) (Nat.le_of_ble_eq_true rfl) rfl (fun E F => ?_)
  unfold fX7_isBasin at h
  refine ml_iload_n (q := 0) F dX7_isBasin_0 rfl rfl ?_
  refine ml_iconst (v := 0) F dX7_isBasin_1 (by decide) ?_
  refine ml_iconst (v := 4) F dX7_isBasin_2 (by decide) ?_
  refine ml_callS (av := [.int a0, .int 0, .int 4]) F h (fun rs h9 => fX7_in_c a0 0 4 M rs hst h9) wcX7_in mlX7_43 wdX7_in (by decide) (by decide) (by decide) rfl stX7_in rfl (Nat.le_of_ble_eq_true rfl) dX7_isBasin_3 (fun r1 M2 h => ?_)
  obtain ⟨q3, h⟩ := ml_if h
  exact ml_iret (st := []) F (Option.some.inj h) rfl rfl q3 (by decide) (by decide) dX7_isBasin_6
set_option maxRecDepth 100000 in
def fX7_isGate (a0 : Int32) (M : ml_M) : Option ml_R :=
  ml_bd (fX7_in a0 0 3 M) (fun r1 M2 => if narrow .boolean (.int r1) = .int r1 then some (.inl r1, M2) else none)
set_option maxHeartbeats 4000000 in
set_option maxRecDepth 100000 in
theorem fX7_isGate_c (a0 : Int32) (M : ml_M) (res : ml_R) {g : ml_G} (hst : g.2.2.2.2.2.stackTraces = false) (h : fX7_isGate a0 M = some res) : ml_C yX7_isGate cX7_isGate 1 (some .boolean) 2 0 0 g (fun r _ => some (.int r)) [.int a0] M res := by
  refine ml_of [(0, .int a0)] hst (by decide) (Nat.le_of_ble_eq_true rfl) rfl (fun E F => ?_)
  unfold fX7_isGate at h
  refine ml_iload_n (q := 0) F dX7_isGate_0 rfl rfl ?_
  refine ml_iconst (v := 0) F dX7_isGate_1 (by decide) ?_
  refine ml_iconst (v := 3) F dX7_isGate_2 (by decide) ?_
  refine ml_callS (av := [.int a0, .int 0, .int 3]) F h (fun rs h9 => fX7_in_c a0 0 3 M rs hst h9) wcX7_in mlX7_43 wdX7_in (by decide) (by decide) (by decide) rfl stX7_in rfl (Nat.le_of_ble_eq_true rfl) dX7_isGate_3 (fun r1 M2 h => ?_)
  obtain ⟨q3, h⟩ := ml_if h
  exact ml_iret (st := []) F (Option.some.inj h) rfl rfl q3 (by decide) (by decide) dX7_isGate_6
set_option maxRecDepth 100000 in
def fX7_size (a0 : Int32) (M : ml_M) : Option ml_R :=
  ml_jn (fun (y1 : Int32) => some (.inl y1, M)) (fun B2 => (if a0 = 0 then B2 10 else (if a0 = 4 then B2 10 else B2 6)))
set_option maxHeartbeats 4000000 in
set_option maxRecDepth 100000 in
theorem fX7_size_c (a0 : Int32) (M : ml_M) (res : ml_R) {g : ml_G} (hst : g.2.2.2.2.2.stackTraces = false) (h : fX7_size a0 M = some res) : ml_C yX7_size cX7_size 1 (some .int) 1 0 0 g (fun r _ => some (.int r)) [.int a0] M res := by
  refine ml_of [(0, .int a0)] hst (by decide) (Nat.le_of_ble_eq_true rfl) rfl (fun E F => ?_)
  unfold fX7_size at h
  refine ml_iload_n (q := 0) F dX7_size_0 rfl rfl ?_
  refine ml_jnR (P := fun B => ∀ (y1 : Int32), B y1 = some res → ml_J E g 1 (ml_Z E g (fun r _ => some (.int r)) res 0 0) (0) (0) 16 [(0, .int a0)] (.int y1 :: []) M) h ?_ (fun jn3 h => ?_)
  · intro y1 h
    dsimp only at h
    exact ml_iret (st := []) F (Option.some.inj h) rfl rfl rfl (by decide) (by decide) dX7_size_16
  refine ml_if_eq (tgt := 9) F dX7_size_1 (by decide) h (fun _ h => ?_) (fun _ h => ?_)
  · refine ml_bipush (v := 10) F dX7_size_9 (by decide) ?_
    refine ml_goto (tgt := 16) F dX7_size_11 (by decide) ?_
    exact ml_sub [0] rfl (jn3 _ h)
  · refine ml_iload_n (q := 0) F dX7_size_4 rfl rfl ?_
    refine ml_iconst (v := 4) F dX7_size_5 (by decide) ?_
    refine ml_icmp_ne (tgt := 14) F dX7_size_6 (by decide) h (fun _ h => ?_) (fun _ h => ?_)
    · refine ml_bipush (v := 6) F dX7_size_14 (by decide) ?_
      exact ml_sub [0] rfl (jn3 _ h)
    · refine ml_bipush (v := 10) F dX7_size_9 (by decide) ?_
      refine ml_goto (tgt := 16) F dX7_size_11 (by decide) ?_
      exact ml_sub [0] rfl (jn3 _ h)
set_option maxRecDepth 100000 in
def fX7_above (a0 : Int32) (a1 : Int32) (M : ml_M) : Option ml_R :=
  if ml_ok (11 + a0) 960 then ml_bd (fX7_size a1 M) (fun r1 M2 => if ml_ok (11 + a1) 960 then ml_bd (fX7_size a0 M2) (fun r3 M4 => some (.inl (((M 12 (11 + a0).toNatClampNeg) * r1) - ((M2 12 (11 + a1).toNatClampNeg) * r3)), M4)) else none) else none
set_option maxHeartbeats 4000000 in
set_option maxRecDepth 100000 in
theorem fX7_above_c (a0 : Int32) (a1 : Int32) (M : ml_M) (res : ml_R) {g : ml_G} (hst : g.2.2.2.2.2.stackTraces = false) (h : fX7_above a0 a1 M = some res) : ml_C yX7_above cX7_above 3 (some .int) 2 0 0 g (fun r _ => some (.int r)) [ml_rf g 11, .int a0, .int a1] M res := by
  refine ml_of [(0, ml_rf g 11), (1, .int a0), (2, .int a1)] hst (by decide) (Nat.le_of_ble_eq_true rfl) rfl (fun E F => ?_)
  unfold fX7_above at h
  refine ml_aload_n (q := 0) F dX7_above_0 rfl rfl ?_
  refine ml_get (v := ml_rf g 12) F (pc11 g) rfl iaX7 1 (by decide) lkX7_9 rfl rfl dX7_above_1 ?_
  refine ml_bipush (v := 11) F dX7_above_4 (by decide) ?_
  refine ml_iload_n (q := 1) F dX7_above_6 rfl rfl ?_
  refine ml_iadd F dX7_above_7 ?_
  refine ml_iald F (pc12 g) h dX7_above_8 (fun h => ?_)
  refine ml_iload_n (q := 2) F dX7_above_9 rfl rfl ?_
  refine ml_callS (av := [.int a1]) F h (fun rs h9 => fX7_size_c a1 M rs hst h9) wcX7_size mlX7_47 wdX7_size (by decide) (by decide) (by decide) rfl stX7_size rfl (Nat.le_of_ble_eq_true rfl) dX7_above_10 (fun r1 M2 h => ?_)
  refine ml_imul F dX7_above_13 ?_
  refine ml_aload_n (q := 0) F dX7_above_14 rfl rfl ?_
  refine ml_get (v := ml_rf g 12) F (pc11 g) rfl iaX7 1 (by decide) lkX7_9 rfl rfl dX7_above_15 ?_
  refine ml_bipush (v := 11) F dX7_above_18 (by decide) ?_
  refine ml_iload_n (q := 2) F dX7_above_20 rfl rfl ?_
  refine ml_iadd F dX7_above_21 ?_
  refine ml_iald F (pc12 g) h dX7_above_22 (fun h => ?_)
  refine ml_iload_n (q := 1) F dX7_above_23 rfl rfl ?_
  refine ml_callS (av := [.int a0]) F h (fun rs h9 => fX7_size_c a0 M2 rs hst h9) wcX7_size mlX7_47 wdX7_size (by decide) (by decide) (by decide) rfl stX7_size rfl (Nat.le_of_ble_eq_true rfl) dX7_above_24 (fun r3 M4 h => ?_)
  refine ml_imul F dX7_above_27 ?_
  refine ml_isub F dX7_above_28 ?_
  exact ml_iret (st := []) F (Option.some.inj h) rfl rfl rfl (by decide) (by decide) dX7_above_29
set_option maxRecDepth 100000 in
def fX7_equal (a0 : Int32) (M : ml_M) : Option ml_R :=
  ml_bd (fX7_above a0 (a0 + 1) M) (fun r1 M2 => ml_jn (fun (y3 : Int32) => ml_bd (fX7_size a0 M2) (fun r6 M7 => ml_bd (fX7_size (a0 + 1) M7) (fun r8 M9 => if ¬ ((r6 + r8) = 0) then some (.inl (y3 / (r6 + r8)), M9) else none))) (fun B4 => (if 0 ≤ r1 then B4 r1 else B4 (-r1))))
set_option maxHeartbeats 4000000 in
set_option maxRecDepth 100000 in
theorem fX7_equal_c (a0 : Int32) (M : ml_M) (res : ml_R) {g : ml_G} (hst : g.2.2.2.2.2.stackTraces = false) (h : fX7_equal a0 M = some res) : ml_C yX7_equal cX7_equal 3 (some .int) 3 0 0 g (fun r _ => some (.int r)) [ml_rf g 11, .int a0] M res := by
  refine ml_of [(0, ml_rf g 11), (1, .int a0)] hst (by decide) (Nat.le_of_ble_eq_true rfl) rfl (fun E F => ?_)
  unfold fX7_equal at h
  refine ml_aload_n (q := 0) F dX7_equal_0 rfl rfl ?_
  refine ml_iload_n (q := 1) F dX7_equal_1 rfl rfl ?_
  refine ml_iload_n (q := 1) F dX7_equal_2 rfl rfl ?_
  refine ml_iconst (v := 1) F dX7_equal_3 (by decide) ?_
  refine ml_iadd F dX7_equal_4 ?_
  refine ml_callV (av := [.int a0, .int (a0 + 1)]) (T := TX7) (N := 16) F (pc11 g) rfl h (fun rs h9 => fX7_above_c a0 (a0 + 1) M rs hst h9) wcX7_above mlX7_51 wdX7_above (by decide) (by decide) (by decide) rfl seX7_above imX7_above rfl (Nat.le_of_ble_eq_true rfl) dX7_equal_5 (fun r1 M2 h => ?_)
  refine ml_istore_n (ls2 := [(2, .int r1), (0, ml_rf g 11), (1, .int a0)]) F dX7_equal_8 rfl (by decide) rfl ?_
  refine ml_iload_n (q := 0) F dX7_equal_9 rfl rfl ?_
  refine ml_jnR (P := fun B => ∀ (y3 : Int32), B y3 = some res → ml_J E g 3 (ml_Z E g (fun r _ => some (.int r)) res 0 0) (0 + 0) (0 + 0) 19 [(0, ml_rf g 11), (1, .int a0), (2, .int r1)] (.int y3 :: []) M2) h ?_ (fun jn5 h => ?_)
  · intro y3 h
    dsimp only at h
    refine ml_iload_n (q := 1) F dX7_equal_19 rfl rfl ?_
    refine ml_callS (av := [.int a0]) F h (fun rs h9 => fX7_size_c a0 M2 rs hst h9) wcX7_size mlX7_47 wdX7_size (by decide) (by decide) (by decide) rfl stX7_size rfl (Nat.le_of_ble_eq_true rfl) dX7_equal_20 (fun r6 M7 h => ?_)
    refine ml_iload_n (q := 1) F dX7_equal_23 rfl rfl ?_
    refine ml_iconst (v := 1) F dX7_equal_24 (by decide) ?_
    refine ml_iadd F dX7_equal_25 ?_
    refine ml_callS (av := [.int (a0 + 1)]) F h (fun rs h9 => fX7_size_c (a0 + 1) M7 rs hst h9) wcX7_size mlX7_47 wdX7_size (by decide) (by decide) (by decide) rfl stX7_size rfl (Nat.le_of_ble_eq_true rfl) dX7_equal_26 (fun r8 M9 h => ?_)
    refine ml_iadd F dX7_equal_29 ?_
    obtain ⟨q10, h⟩ := ml_if h
    refine ml_idiv F dX7_equal_30 q10 ?_
    exact ml_iret (st := []) F (Option.some.inj h) rfl rfl rfl (by decide) (by decide) dX7_equal_31
  refine ml_if_ge (tgt := 18) F dX7_equal_10 (by decide) h (fun _ h => ?_) (fun _ h => ?_)
  · refine ml_iload_n (q := 0) F dX7_equal_18 rfl rfl ?_
    exact ml_sub [1, 2, 0] rfl (jn5 _ h)
  · refine ml_iload_n (q := 0) F dX7_equal_13 rfl rfl ?_
    refine ml_ineg F dX7_equal_14 ?_
    refine ml_goto (tgt := 19) F dX7_equal_15 (by decide) ?_
    exact ml_sub [1, 2, 0] rfl (jn5 _ h)
set_option maxRecDepth 100000 in
def fX7_flows (a0 : Int32) (M : ml_M) : Option ml_R :=
  ml_bd (fX7_equal a0 M) (fun r1 M2 => if ml_ok (16 + a0) 960 then ml_lt (5 * (M2 12 (16 + a0).toNatClampNeg)) (fun v3 => if ml_ok (20 + a0) 960 then ml_jn (fun (y4 : Int32) => ml_bd (fX7_above a0 (a0 + 1) M2) (fun r7 M8 => ml_jn (fun (y9 : Int32) => some (.inl y9, M8)) (fun B10 => (if 0 ≤ r7 then B10 y4 else B10 (-y4))))) (fun B5 => (if (M2 12 (20 + a0).toNatClampNeg) = 0 then (if r1 ≤ v3 then B5 r1 else B5 v3) else B5 r1)) else none) else none)
set_option maxHeartbeats 4000000 in
set_option maxRecDepth 100000 in
theorem fX7_flows_c (a0 : Int32) (M : ml_M) (res : ml_R) {g : ml_G} (hst : g.2.2.2.2.2.stackTraces = false) (h : fX7_flows a0 M = some res) : ml_C yX7_flows cX7_flows 5 (some .int) 4 0 0 g (fun r _ => some (.int r)) [ml_rf g 11, .int a0] M res := by
  refine ml_of [(0, ml_rf g 11), (1, .int a0)] hst (by decide) (Nat.le_of_ble_eq_true rfl) rfl (fun E F => ?_)
  unfold fX7_flows at h
  refine ml_aload_n (q := 0) F dX7_flows_0 rfl rfl ?_
  refine ml_iload_n (q := 1) F dX7_flows_1 rfl rfl ?_
  refine ml_callV (av := [.int a0]) (T := TX7) (N := 16) F (pc11 g) rfl h (fun rs h9 => fX7_equal_c a0 M rs hst h9) wcX7_equal mlX7_55 wdX7_equal (by decide) (by decide) (by decide) rfl seX7_equal imX7_equal rfl (Nat.le_of_ble_eq_true rfl) dX7_flows_2 (fun r1 M2 h => ?_)
  refine ml_istore_n (ls2 := [(2, .int r1), (0, ml_rf g 11), (1, .int a0)]) F dX7_flows_5 rfl (by decide) rfl ?_
  refine ml_iconst (v := 5) F dX7_flows_6 (by decide) ?_
  refine ml_aload_n (q := 1) F dX7_flows_7 rfl rfl ?_
  refine ml_get (v := ml_rf g 12) F (pc11 g) rfl iaX7 1 (by decide) lkX7_9 rfl rfl dX7_flows_8 ?_
  refine ml_bipush (v := 16) F dX7_flows_11 (by decide) ?_
  refine ml_iload_n (q := 2) F dX7_flows_13 rfl rfl ?_
  refine ml_iadd F dX7_flows_14 ?_
  refine ml_iald F (pc12 g) h dX7_flows_15 (fun h => ?_)
  refine ml_imul F dX7_flows_16 ?_
  refine ml_ltI h (fun v3 _ h => ?_)
  refine ml_istore_n (ls2 := [(3, .int v3), (2, .int r1), (0, ml_rf g 11), (1, .int a0)]) F dX7_flows_17 rfl (by decide) rfl ?_
  refine ml_aload_n (q := 2) F dX7_flows_18 rfl rfl ?_
  refine ml_get (v := ml_rf g 12) F (pc11 g) rfl iaX7 1 (by decide) lkX7_9 rfl rfl dX7_flows_19 ?_
  refine ml_bipush (v := 20) F dX7_flows_22 (by decide) ?_
  refine ml_iload_n (q := 3) F dX7_flows_24 rfl rfl ?_
  refine ml_iadd F dX7_flows_25 ?_
  refine ml_iald F (pc12 g) h dX7_flows_26 (fun h => ?_)
  refine ml_jnR (P := fun B => ∀ (y4 : Int32), B y4 = some res → ml_J E g 5 (ml_Z E g (fun r _ => some (.int r)) res 0 0) (0 + 0) (0 + 0) 40 [(0, ml_rf g 11), (1, .int a0), (2, .int r1), (3, .int v3)] (.int y4 :: []) M2) h ?_ (fun jn6 h => ?_)
  · intro y4 h
    dsimp only at h
    refine ml_istore (ls2 := [(4, .int y4), (0, ml_rf g 11), (1, .int a0), (2, .int r1), (3, .int v3)]) F dX7_flows_40 (by decide) rfl ?_
    refine ml_aload_n (q := 1) F dX7_flows_42 rfl rfl ?_
    refine ml_iload_n (q := 2) F dX7_flows_43 rfl rfl ?_
    refine ml_iload_n (q := 2) F dX7_flows_44 rfl rfl ?_
    refine ml_iconst (v := 1) F dX7_flows_45 (by decide) ?_
    refine ml_iadd F dX7_flows_46 ?_
    refine ml_callV (av := [.int a0, .int (a0 + 1)]) (T := TX7) (N := 16) F (pc11 g) rfl h (fun rs h9 => fX7_above_c a0 (a0 + 1) M2 rs hst h9) wcX7_above mlX7_51 wdX7_above (by decide) (by decide) (by decide) rfl seX7_above imX7_above rfl (Nat.le_of_ble_eq_true rfl) dX7_flows_47 (fun r7 M8 h => ?_)
    refine ml_jnR (P := fun B => ∀ (y9 : Int32), B y9 = some res → ml_J E g 5 (ml_Z E g (fun r _ => some (.int r)) res 0 0) (0 + 0 + 0) (0 + 0 + 0) 61 [(0, ml_rf g 11), (1, .int a0), (2, .int r1), (3, .int v3), (4, .int y4)] (.int y9 :: []) M8) h ?_ (fun jn11 h => ?_)
    · intro y9 h
      dsimp only at h
      exact ml_iret (st := []) F (Option.some.inj h) rfl rfl rfl (by decide) (by decide) dX7_flows_61
    refine ml_if_ge (tgt := 59) F dX7_flows_50 (by decide) h (fun _ h => ?_) (fun _ h => ?_)
    · refine ml_iload (q := 0) F dX7_flows_59 rfl ?_
      exact ml_sub [1, 2, 3, 4, 0] rfl (jn11 _ h)
    · refine ml_iload (q := 0) F dX7_flows_53 rfl ?_
      refine ml_ineg F dX7_flows_55 ?_
      refine ml_goto (tgt := 61) F dX7_flows_56 (by decide) ?_
      exact ml_sub [1, 2, 3, 4, 0] rfl (jn11 _ h)
  refine ml_if_ne (tgt := 39) F dX7_flows_27 (by decide) h (fun _ h => ?_) (fun _ h => ?_)
  · refine ml_iload_n (q := 1) F dX7_flows_39 rfl rfl ?_
    exact ml_sub [2, 3, 1, 0] rfl (jn6 _ h)
  · refine ml_iload_n (q := 0) F dX7_flows_30 rfl rfl ?_
    refine ml_iload_n (q := 1) F dX7_flows_31 rfl rfl ?_
    refine ml_icmp_ge (tgt := 39) F dX7_flows_32 (by decide) h (fun _ h => ?_) (fun _ h => ?_)
    · refine ml_iload_n (q := 1) F dX7_flows_39 rfl rfl ?_
      exact ml_sub [2, 3, 1, 0] rfl (jn6 _ h)
    · refine ml_iload_n (q := 0) F dX7_flows_35 rfl rfl ?_
      refine ml_goto (tgt := 40) F dX7_flows_36 (by decide) ?_
      exact ml_sub [2, 3, 1, 0] rfl (jn6 _ h)
set_option maxRecDepth 100000 in
def fX7_happens_s0 (a0 : Int32) (a1 : Int32) (rec : Int32 → Int32 → Int32 → ml_M → Option ml_R) (x1 x2 x3 : Int32) (M : ml_M) : Option ml_R :=
  (if x3 ≤ 1 then ml_lt (ml_w M 12 24 x1) (fun M1 => ml_lt (ml_w M1 12 25 x2) (fun M2 => ml_jn (fun (y3 : Int32) => ml_lt (ml_w M2 12 7 y3) (fun M6 => some (.inl 0, M6))) (fun B4 => (if 8 ≤ (M2 12 7) then B4 8 else B4 ((M2 12 7) + 1))))) else if ml_ok ((24 + x3) - 2) 960 then if ml_ok (24 + x3) 960 then ml_lt (ml_w M 12 (24 + x3).toNatClampNeg (M 12 ((24 + x3) - 2).toNatClampNeg)) (fun M7 => rec x1 x2 (x3 + (-1)) M7) else none else none)
def fX7_happens_l (a0 : Int32) (a1 : Int32) : Nat → Int32 → Int32 → Int32 → ml_M → Option ml_R
  | 0 => fun _ _ _ _ => none
  | n + 1 => fX7_happens_s0 a0 a1 (fX7_happens_l a0 a1 n)
set_option maxHeartbeats 4000000 in
set_option maxRecDepth 100000 in
theorem fX7_happens_w (a0 : Int32) (a1 : Int32) {E : ml_E} {g : ml_G} {res : ml_R} (F : ml_F E g cX7_happens yX7_happens.cls 4 1 0 0 none []) : ∀ fuel : Nat, ∀ (x1 x2 x3 : Int32) (M : ml_M), fX7_happens_l a0 a1 fuel x1 x2 x3 M = some res → ml_J E g 4 (ml_Z E g (fun _ _ => none) res 0 0) 0 0 3 [(0, ml_rf g 11), (1, .int x1), (2, .int x2), (3, .int x3)] [] M := by
  have hst := ml_F_st F
  intro fuel
  induction fuel with
  | zero => intro _ _ _ _ h; exact nomatch (show (none : Option ml_R) = some res from h)
  | succ fuel ih =>
    intro x1 x2 x3 M h
    replace h : fX7_happens_s0 a0 a1 (fX7_happens_l a0 a1 fuel) x1 x2 x3 M = some res := h
    unfold fX7_happens_s0 at h
    refine ml_iload_n (q := 3) F dX7_happens_3 rfl rfl ?_
    refine ml_iconst (v := 1) F dX7_happens_4 (by decide) ?_
    refine ml_icmp_le (tgt := 34) F dX7_happens_5 (by decide) h (fun _ h => ?_) (fun _ h => ?_)
    · refine ml_aload_n (q := 0) F dX7_happens_34 rfl rfl ?_
      refine ml_get (v := ml_rf g 12) F (pc11 g) rfl iaX7 1 (by decide) lkX7_9 rfl rfl dX7_happens_35 ?_
      refine ml_bipush (v := 24) F dX7_happens_38 (by decide) ?_
      refine ml_iload_n (q := 1) F dX7_happens_40 rfl rfl ?_
      refine ml_iastK (j := 24) F (pc12 g) (by decide) (by decide) dX7_happens_41 ?_
      refine ml_ltM h (fun M1 _ h => ?_)
      refine ml_aload_n (q := 0) F dX7_happens_42 rfl rfl ?_
      refine ml_get (v := ml_rf g 12) F (pc11 g) rfl iaX7 1 (by decide) lkX7_9 rfl rfl dX7_happens_43 ?_
      refine ml_bipush (v := 25) F dX7_happens_46 (by decide) ?_
      refine ml_iload_n (q := 2) F dX7_happens_48 rfl rfl ?_
      refine ml_iastK (j := 25) F (pc12 g) (by decide) (by decide) dX7_happens_49 ?_
      refine ml_ltM h (fun M2 _ h => ?_)
      refine ml_aload_n (q := 0) F dX7_happens_50 rfl rfl ?_
      refine ml_get (v := ml_rf g 12) F (pc11 g) rfl iaX7 1 (by decide) lkX7_9 rfl rfl dX7_happens_51 ?_
      refine ml_bipush (v := 7) F dX7_happens_54 (by decide) ?_
      refine ml_aload_n (q := 0) F dX7_happens_56 rfl rfl ?_
      refine ml_get (v := ml_rf g 12) F (pc11 g) rfl iaX7 1 (by decide) lkX7_9 rfl rfl dX7_happens_57 ?_
      refine ml_bipush (v := 7) F dX7_happens_60 (by decide) ?_
      refine ml_ialdK (j := 7) F (pc12 g) (by decide) (by decide) dX7_happens_62 ?_
      refine ml_bipush (v := 8) F dX7_happens_63 (by decide) ?_
      refine ml_jnR (P := fun B => ∀ (y3 : Int32), B y3 = some res → ml_J E g 4 (ml_Z E g (fun _ _ => none) res 0 0) (0) (0) 82 [(0, ml_rf g 11), (1, .int x1), (2, .int x2), (3, .int x3)] (.int y3 :: .int 7 :: ml_rf g 12 :: []) M2) h ?_ (fun jn5 h => ?_)
      · intro y3 h
        dsimp only at h
        refine ml_iastK (j := 7) F (pc12 g) (by decide) (by decide) dX7_happens_82 ?_
        refine ml_ltM h (fun M6 _ h => ?_)
        exact ml_vret (st := []) F (Option.some.inj h) rfl rfl (by decide) (by decide) dX7_happens_83
      refine ml_icmp_ge (tgt := 80) F dX7_happens_65 (by decide) h (fun _ h => ?_) (fun _ h => ?_)
      · refine ml_bipush (v := 8) F dX7_happens_80 (by decide) ?_
        exact ml_sub [0, 1, 2, 3] rfl (jn5 _ h)
      · refine ml_aload_n (q := 0) F dX7_happens_68 rfl rfl ?_
        refine ml_get (v := ml_rf g 12) F (pc11 g) rfl iaX7 1 (by decide) lkX7_9 rfl rfl dX7_happens_69 ?_
        refine ml_bipush (v := 7) F dX7_happens_72 (by decide) ?_
        refine ml_ialdK (j := 7) F (pc12 g) (by decide) (by decide) dX7_happens_74 ?_
        refine ml_iconst (v := 1) F dX7_happens_75 (by decide) ?_
        refine ml_iadd F dX7_happens_76 ?_
        refine ml_goto (tgt := 82) F dX7_happens_77 (by decide) ?_
        exact ml_sub [0, 1, 2, 3] rfl (jn5 _ h)
    · refine ml_aload_n (q := 0) F dX7_happens_8 rfl rfl ?_
      refine ml_get (v := ml_rf g 12) F (pc11 g) rfl iaX7 1 (by decide) lkX7_9 rfl rfl dX7_happens_9 ?_
      refine ml_bipush (v := 24) F dX7_happens_12 (by decide) ?_
      refine ml_iload_n (q := 3) F dX7_happens_14 rfl rfl ?_
      refine ml_iadd F dX7_happens_15 ?_
      refine ml_aload_n (q := 0) F dX7_happens_16 rfl rfl ?_
      refine ml_get (v := ml_rf g 12) F (pc11 g) rfl iaX7 1 (by decide) lkX7_9 rfl rfl dX7_happens_17 ?_
      refine ml_bipush (v := 24) F dX7_happens_20 (by decide) ?_
      refine ml_iload_n (q := 3) F dX7_happens_22 rfl rfl ?_
      refine ml_iadd F dX7_happens_23 ?_
      refine ml_iconst (v := 2) F dX7_happens_24 (by decide) ?_
      refine ml_isub F dX7_happens_25 ?_
      refine ml_iald F (pc12 g) h dX7_happens_26 (fun h => ?_)
      refine ml_iast F (pc12 g) h dX7_happens_27 (fun h => ?_)
      refine ml_ltM h (fun M7 _ h => ?_)
      refine ml_iinc (q := 3) (v := x3 + (-1)) (ls2 := [(3, .int (x3 + (-1))), (0, ml_rf g 11), (1, .int x1), (2, .int x2)]) F dX7_happens_28 rfl rfl (by decide) rfl ?_
      refine ml_goto (tgt := 3) F dX7_happens_31 (by decide) ?_
      exact ml_sub [1, 2, 3, 0] rfl (ih _ _ _ _ h)
set_option maxRecDepth 100000 in
def fX7_happens (a0 : Int32) (a1 : Int32) (M : ml_M) : Option ml_R :=
  fX7_happens_l a0 a1 ml_fuel a0 a1 15 M
set_option maxHeartbeats 4000000 in
set_option maxRecDepth 100000 in
theorem fX7_happens_c (a0 : Int32) (a1 : Int32) (M : ml_M) (res : ml_R) {g : ml_G} (hst : g.2.2.2.2.2.stackTraces = false) (h : fX7_happens a0 a1 M = some res) : ml_C yX7_happens cX7_happens 4 none 1 0 0 g (fun _ _ => none) [ml_rf g 11, .int a0, .int a1] M res := by
  refine ml_of [(0, ml_rf g 11), (1, .int a0), (2, .int a1)] hst (by decide) (Nat.le_of_ble_eq_true rfl) rfl (fun E F => ?_)
  unfold fX7_happens at h
  refine ml_bipush (v := 15) F dX7_happens_0 (by decide) ?_
  refine ml_istore_n (ls2 := [(3, .int 15), (0, ml_rf g 11), (1, .int a0), (2, .int a1)]) F dX7_happens_2 rfl (by decide) rfl ?_
  exact ml_sub [1, 2, 3, 0] rfl ((fX7_happens_w a0 a1 F ml_fuel) _ _ _ _ h)
set_option maxRecDepth 100000 in
def fX7_rains (M : ml_M) : Option ml_R :=
  ml_lt (ml_w M 12 3 ((M 12 3) + (M 12 1))) (fun M1 => ml_lt (ml_w M1 12 11 ((M1 12 11) + (M1 12 1))) (fun M2 => ml_bd (fX7_size 0 M2) (fun r3 M4 => ml_lt ((M2 12 11) - (40 * r3)) (fun v5 => ml_jn (fun (M6 : ml_M) => ml_jn (fun (y9 : Int32) => ml_lt (ml_w M6 12 15 ((M6 12 15) - y9)) (fun M12 => ml_lt (ml_w M12 12 4 ((M12 12 4) + y9)) (fun M13 => some (.inl 0, M13)))) (fun B10 => (if (M6 12 15) ≤ (M6 12 2) then B10 (M6 12 15) else B10 (M6 12 2)))) (fun B7 => (if v5 ≤ 0 then B7 M4 else ml_lt (ml_w M4 12 11 ((M4 12 11) - v5)) (fun M14 => ml_lt (ml_w M14 12 5 ((M14 12 5) + v5)) (fun M15 => ml_bd (fX7_happens 115 v5 M15) (fun r16 M17 => B7 M17)))))))))
set_option maxHeartbeats 4000000 in
set_option maxRecDepth 100000 in
theorem fX7_rains_c (M : ml_M) (res : ml_R) {g : ml_G} (hst : g.2.2.2.2.2.stackTraces = false) (h : fX7_rains M = some res) : ml_C yX7_rains cX7_rains 4 none 2 0 0 g (fun _ _ => none) [ml_rf g 11] M res := by
  refine ml_of [(0, ml_rf g 11)] hst (by decide) (Nat.le_of_ble_eq_true rfl) rfl (fun E F => ?_)
  unfold fX7_rains at h
  refine ml_aload_n (q := 0) F dX7_rains_0 rfl rfl ?_
  refine ml_get (v := ml_rf g 12) F (pc11 g) rfl iaX7 1 (by decide) lkX7_9 rfl rfl dX7_rains_1 ?_
  refine ml_iconst (v := 3) F dX7_rains_4 (by decide) ?_
  refine ml_dup2 F dX7_rains_5 rfl rfl ?_
  refine ml_ialdK (j := 3) F (pc12 g) (by decide) (by decide) dX7_rains_6 ?_
  refine ml_aload_n (q := 0) F dX7_rains_7 rfl rfl ?_
  refine ml_get (v := ml_rf g 12) F (pc11 g) rfl iaX7 1 (by decide) lkX7_9 rfl rfl dX7_rains_8 ?_
  refine ml_iconst (v := 1) F dX7_rains_11 (by decide) ?_
  refine ml_ialdK (j := 1) F (pc12 g) (by decide) (by decide) dX7_rains_12 ?_
  refine ml_iadd F dX7_rains_13 ?_
  refine ml_iastK (j := 3) F (pc12 g) (by decide) (by decide) dX7_rains_14 ?_
  refine ml_ltM h (fun M1 _ h => ?_)
  refine ml_aload_n (q := 0) F dX7_rains_15 rfl rfl ?_
  refine ml_get (v := ml_rf g 12) F (pc11 g) rfl iaX7 1 (by decide) lkX7_9 rfl rfl dX7_rains_16 ?_
  refine ml_bipush (v := 11) F dX7_rains_19 (by decide) ?_
  refine ml_dup2 F dX7_rains_21 rfl rfl ?_
  refine ml_ialdK (j := 11) F (pc12 g) (by decide) (by decide) dX7_rains_22 ?_
  refine ml_aload_n (q := 0) F dX7_rains_23 rfl rfl ?_
  refine ml_get (v := ml_rf g 12) F (pc11 g) rfl iaX7 1 (by decide) lkX7_9 rfl rfl dX7_rains_24 ?_
  refine ml_iconst (v := 1) F dX7_rains_27 (by decide) ?_
  refine ml_ialdK (j := 1) F (pc12 g) (by decide) (by decide) dX7_rains_28 ?_
  refine ml_iadd F dX7_rains_29 ?_
  refine ml_iastK (j := 11) F (pc12 g) (by decide) (by decide) dX7_rains_30 ?_
  refine ml_ltM h (fun M2 _ h => ?_)
  refine ml_aload_n (q := 0) F dX7_rains_31 rfl rfl ?_
  refine ml_get (v := ml_rf g 12) F (pc11 g) rfl iaX7 1 (by decide) lkX7_9 rfl rfl dX7_rains_32 ?_
  refine ml_bipush (v := 11) F dX7_rains_35 (by decide) ?_
  refine ml_ialdK (j := 11) F (pc12 g) (by decide) (by decide) dX7_rains_37 ?_
  refine ml_bipush (v := 40) F dX7_rains_38 (by decide) ?_
  refine ml_iconst (v := 0) F dX7_rains_40 (by decide) ?_
  refine ml_callS (av := [.int 0]) F h (fun rs h9 => fX7_size_c 0 M2 rs hst h9) wcX7_size mlX7_47 wdX7_size (by decide) (by decide) (by decide) rfl stX7_size rfl (Nat.le_of_ble_eq_true rfl) dX7_rains_41 (fun r3 M4 h => ?_)
  refine ml_imul F dX7_rains_44 ?_
  refine ml_isub F dX7_rains_45 ?_
  refine ml_ltI h (fun v5 _ h => ?_)
  refine ml_istore_n (ls2 := [(1, .int v5), (0, ml_rf g 11)]) F dX7_rains_46 rfl (by decide) rfl ?_
  refine ml_iload_n (q := 0) F dX7_rains_47 rfl rfl ?_
  refine ml_jnR (P := fun B => ∀ (M6 : ml_M), B M6 = some res → ml_J E g 4 (ml_Z E g (fun _ _ => none) res 0 0) (0 + 0) (0 + 0) 79 [(0, ml_rf g 11), (1, .int v5)] ([]) M6) h ?_ (fun jn8 h => ?_)
  · intro M6 h
    dsimp only at h
    refine ml_bipush (v := 15) F dX7_rains_79 (by decide) ?_
    refine ml_istore_n (ls2 := [(2, .int 15), (0, ml_rf g 11), (1, .int v5)]) F dX7_rains_81 rfl (by decide) rfl ?_
    refine ml_aload_n (q := 1) F dX7_rains_82 rfl rfl ?_
    refine ml_get (v := ml_rf g 12) F (pc11 g) rfl iaX7 1 (by decide) lkX7_9 rfl rfl dX7_rains_83 ?_
    refine ml_iconst (v := 2) F dX7_rains_86 (by decide) ?_
    refine ml_ialdK (j := 2) F (pc12 g) (by decide) (by decide) dX7_rains_87 ?_
    refine ml_aload_n (q := 1) F dX7_rains_88 rfl rfl ?_
    refine ml_get (v := ml_rf g 12) F (pc11 g) rfl iaX7 1 (by decide) lkX7_9 rfl rfl dX7_rains_89 ?_
    refine ml_iload_n (q := 0) F dX7_rains_92 rfl rfl ?_
    refine ml_ialdK (j := 15) F (pc12 g) (by decide) (by decide) dX7_rains_93 ?_
    refine ml_jnR (P := fun B => ∀ (y9 : Int32), B y9 = some res → ml_J E g 4 (ml_Z E g (fun _ _ => none) res 0 0) (0 + 0) (0 + 0) 112 [(0, ml_rf g 11), (1, .int v5), (2, .int 15)] (.int y9 :: []) M6) h ?_ (fun jn11 h => ?_)
    · intro y9 h
      dsimp only at h
      refine ml_istore_n (ls2 := [(3, .int y9), (0, ml_rf g 11), (1, .int v5), (2, .int 15)]) F dX7_rains_112 rfl (by decide) rfl ?_
      refine ml_aload_n (q := 1) F dX7_rains_113 rfl rfl ?_
      refine ml_get (v := ml_rf g 12) F (pc11 g) rfl iaX7 1 (by decide) lkX7_9 rfl rfl dX7_rains_114 ?_
      refine ml_iload_n (q := 3) F dX7_rains_117 rfl rfl ?_
      refine ml_dup2 F dX7_rains_118 rfl rfl ?_
      refine ml_ialdK (j := 15) F (pc12 g) (by decide) (by decide) dX7_rains_119 ?_
      refine ml_iload_n (q := 0) F dX7_rains_120 rfl rfl ?_
      refine ml_isub F dX7_rains_121 ?_
      refine ml_iastK (j := 15) F (pc12 g) (by decide) (by decide) dX7_rains_122 ?_
      refine ml_ltM h (fun M12 _ h => ?_)
      refine ml_aload_n (q := 1) F dX7_rains_123 rfl rfl ?_
      refine ml_get (v := ml_rf g 12) F (pc11 g) rfl iaX7 1 (by decide) lkX7_9 rfl rfl dX7_rains_124 ?_
      refine ml_iconst (v := 4) F dX7_rains_127 (by decide) ?_
      refine ml_dup2 F dX7_rains_128 rfl rfl ?_
      refine ml_ialdK (j := 4) F (pc12 g) (by decide) (by decide) dX7_rains_129 ?_
      refine ml_iload_n (q := 0) F dX7_rains_130 rfl rfl ?_
      refine ml_iadd F dX7_rains_131 ?_
      refine ml_iastK (j := 4) F (pc12 g) (by decide) (by decide) dX7_rains_132 ?_
      refine ml_ltM h (fun M13 _ h => ?_)
      exact ml_vret (st := []) F (Option.some.inj h) rfl rfl (by decide) (by decide) dX7_rains_133
    refine ml_icmp_ge (tgt := 106) F dX7_rains_94 (by decide) h (fun _ h => ?_) (fun _ h => ?_)
    · refine ml_aload_n (q := 1) F dX7_rains_106 rfl rfl ?_
      refine ml_get (v := ml_rf g 12) F (pc11 g) rfl iaX7 1 (by decide) lkX7_9 rfl rfl dX7_rains_107 ?_
      refine ml_iload_n (q := 0) F dX7_rains_110 rfl rfl ?_
      refine ml_ialdK (j := 15) F (pc12 g) (by decide) (by decide) dX7_rains_111 ?_
      exact ml_sub [1, 2, 0] rfl (jn11 _ h)
    · refine ml_aload_n (q := 1) F dX7_rains_97 rfl rfl ?_
      refine ml_get (v := ml_rf g 12) F (pc11 g) rfl iaX7 1 (by decide) lkX7_9 rfl rfl dX7_rains_98 ?_
      refine ml_iconst (v := 2) F dX7_rains_101 (by decide) ?_
      refine ml_ialdK (j := 2) F (pc12 g) (by decide) (by decide) dX7_rains_102 ?_
      refine ml_goto (tgt := 112) F dX7_rains_103 (by decide) ?_
      exact ml_sub [1, 2, 0] rfl (jn11 _ h)
  refine ml_if_le (tgt := 79) F dX7_rains_48 (by decide) h (fun _ h => ?_) (fun _ h => ?_)
  · exact ml_sub [1, 0] rfl (jn8 _ h)
  · refine ml_aload_n (q := 1) F dX7_rains_51 rfl rfl ?_
    refine ml_get (v := ml_rf g 12) F (pc11 g) rfl iaX7 1 (by decide) lkX7_9 rfl rfl dX7_rains_52 ?_
    refine ml_bipush (v := 11) F dX7_rains_55 (by decide) ?_
    refine ml_dup2 F dX7_rains_57 rfl rfl ?_
    refine ml_ialdK (j := 11) F (pc12 g) (by decide) (by decide) dX7_rains_58 ?_
    refine ml_iload_n (q := 0) F dX7_rains_59 rfl rfl ?_
    refine ml_isub F dX7_rains_60 ?_
    refine ml_iastK (j := 11) F (pc12 g) (by decide) (by decide) dX7_rains_61 ?_
    refine ml_ltM h (fun M14 _ h => ?_)
    refine ml_aload_n (q := 1) F dX7_rains_62 rfl rfl ?_
    refine ml_get (v := ml_rf g 12) F (pc11 g) rfl iaX7 1 (by decide) lkX7_9 rfl rfl dX7_rains_63 ?_
    refine ml_iconst (v := 5) F dX7_rains_66 (by decide) ?_
    refine ml_dup2 F dX7_rains_67 rfl rfl ?_
    refine ml_ialdK (j := 5) F (pc12 g) (by decide) (by decide) dX7_rains_68 ?_
    refine ml_iload_n (q := 0) F dX7_rains_69 rfl rfl ?_
    refine ml_iadd F dX7_rains_70 ?_
    refine ml_iastK (j := 5) F (pc12 g) (by decide) (by decide) dX7_rains_71 ?_
    refine ml_ltM h (fun M15 _ h => ?_)
    refine ml_aload_n (q := 1) F dX7_rains_72 rfl rfl ?_
    refine ml_bipush (v := 115) F dX7_rains_73 (by decide) ?_
    refine ml_iload_n (q := 0) F dX7_rains_75 rfl rfl ?_
    refine ml_callV (av := [.int 115, .int v5]) (T := TX7) (N := 16) F (pc11 g) rfl h (fun rs h9 => fX7_happens_c 115 v5 M15 rs hst h9) wcX7_happens mlX7_58 wdX7_happens (by decide) (by decide) (by decide) rfl seX7_happens imX7_happens rfl (Nat.le_of_ble_eq_true rfl) dX7_rains_76 (fun r16 M17 h => ?_)
    exact ml_sub [1, 0] rfl (jn8 _ h)
set_option maxRecDepth 100000 in
def fX7_b (a0 : Int32) (a1 : Int32) (M : ml_M) : Option ml_R :=
  if ml_ok ((40 + (5 * a0)) + a1) 960 then some (.inl (M 12 ((40 + (5 * a0)) + a1).toNatClampNeg), M) else none
set_option maxHeartbeats 4000000 in
set_option maxRecDepth 100000 in
theorem fX7_b_c (a0 : Int32) (a1 : Int32) (M : ml_M) (res : ml_R) {g : ml_G} (hst : g.2.2.2.2.2.stackTraces = false) (h : fX7_b a0 a1 M = some res) : ml_C yX7_b cX7_b 3 (some .int) 1 0 0 g (fun r _ => some (.int r)) [ml_rf g 11, .int a0, .int a1] M res := by
  refine ml_of [(0, ml_rf g 11), (1, .int a0), (2, .int a1)] hst (by decide) (Nat.le_of_ble_eq_true rfl) rfl (fun E F => ?_)
  unfold fX7_b at h
  refine ml_aload_n (q := 0) F dX7_b_0 rfl rfl ?_
  refine ml_get (v := ml_rf g 12) F (pc11 g) rfl iaX7 1 (by decide) lkX7_9 rfl rfl dX7_b_1 ?_
  refine ml_bipush (v := 40) F dX7_b_4 (by decide) ?_
  refine ml_iconst (v := 5) F dX7_b_6 (by decide) ?_
  refine ml_iload_n (q := 1) F dX7_b_7 rfl rfl ?_
  refine ml_imul F dX7_b_8 ?_
  refine ml_iadd F dX7_b_9 ?_
  refine ml_iload_n (q := 2) F dX7_b_10 rfl rfl ?_
  refine ml_iadd F dX7_b_11 ?_
  refine ml_iald F (pc12 g) h dX7_b_12 (fun h => ?_)
  exact ml_iret (st := []) F (Option.some.inj h) rfl rfl rfl (by decide) (by decide) dX7_b_13
set_option maxRecDepth 100000 in
def fX7_set (a0 : Int32) (a1 : Int32) (a2 : Int32) (M : ml_M) : Option ml_R :=
  if ml_ok ((40 + (5 * a0)) + a1) 960 then ml_lt (ml_w M 12 ((40 + (5 * a0)) + a1).toNatClampNeg a2) (fun M1 => some (.inl 0, M1)) else none
set_option maxHeartbeats 4000000 in
set_option maxRecDepth 100000 in
theorem fX7_set_c (a0 : Int32) (a1 : Int32) (a2 : Int32) (M : ml_M) (res : ml_R) {g : ml_G} (hst : g.2.2.2.2.2.stackTraces = false) (h : fX7_set a0 a1 a2 M = some res) : ml_C yX7_set cX7_set 4 none 1 0 0 g (fun _ _ => none) [ml_rf g 11, .int a0, .int a1, .int a2] M res := by
  refine ml_of [(0, ml_rf g 11), (1, .int a0), (2, .int a1), (3, .int a2)] hst (by decide) (Nat.le_of_ble_eq_true rfl) rfl (fun E F => ?_)
  unfold fX7_set at h
  refine ml_aload_n (q := 0) F dX7_set_0 rfl rfl ?_
  refine ml_get (v := ml_rf g 12) F (pc11 g) rfl iaX7 1 (by decide) lkX7_9 rfl rfl dX7_set_1 ?_
  refine ml_bipush (v := 40) F dX7_set_4 (by decide) ?_
  refine ml_iconst (v := 5) F dX7_set_6 (by decide) ?_
  refine ml_iload_n (q := 1) F dX7_set_7 rfl rfl ?_
  refine ml_imul F dX7_set_8 ?_
  refine ml_iadd F dX7_set_9 ?_
  refine ml_iload_n (q := 2) F dX7_set_10 rfl rfl ?_
  refine ml_iadd F dX7_set_11 ?_
  refine ml_iload_n (q := 3) F dX7_set_12 rfl rfl ?_
  refine ml_iast F (pc12 g) h dX7_set_13 (fun h => ?_)
  refine ml_ltM h (fun M1 _ h => ?_)
  exact ml_vret (st := []) F (Option.some.inj h) rfl rfl (by decide) (by decide) dX7_set_14
set_option maxRecDepth 100000 in
def fX7_isBoat (a0 : Int32) (M : ml_M) : Option ml_R :=
  ml_bd (fX7_in a0 0 ((M 12 6) - 1) M) (fun r1 M2 => if narrow .boolean (.int r1) = .int r1 then some (.inl r1, M2) else none)
set_option maxHeartbeats 4000000 in
set_option maxRecDepth 100000 in
theorem fX7_isBoat_c (a0 : Int32) (M : ml_M) (res : ml_R) {g : ml_G} (hst : g.2.2.2.2.2.stackTraces = false) (h : fX7_isBoat a0 M = some res) : ml_C yX7_isBoat cX7_isBoat 2 (some .boolean) 2 0 0 g (fun r _ => some (.int r)) [ml_rf g 11, .int a0] M res := by
  refine ml_of [(0, ml_rf g 11), (1, .int a0)] hst (by decide) (Nat.le_of_ble_eq_true rfl) rfl (fun E F => ?_)
  unfold fX7_isBoat at h
  refine ml_iload_n (q := 1) F dX7_isBoat_0 rfl rfl ?_
  refine ml_iconst (v := 0) F dX7_isBoat_1 (by decide) ?_
  refine ml_aload_n (q := 0) F dX7_isBoat_2 rfl rfl ?_
  refine ml_get (v := ml_rf g 12) F (pc11 g) rfl iaX7 1 (by decide) lkX7_9 rfl rfl dX7_isBoat_3 ?_
  refine ml_bipush (v := 6) F dX7_isBoat_6 (by decide) ?_
  refine ml_ialdK (j := 6) F (pc12 g) (by decide) (by decide) dX7_isBoat_8 ?_
  refine ml_iconst (v := 1) F dX7_isBoat_9 (by decide) ?_
  refine ml_isub F dX7_isBoat_10 ?_
  refine ml_callS (av := [.int a0, .int 0, .int ((M 12 6) - 1)]) F h (fun rs h9 => fX7_in_c a0 0 ((M 12 6) - 1) M rs hst h9) wcX7_in mlX7_43 wdX7_in (by decide) (by decide) (by decide) rfl stX7_in rfl (Nat.le_of_ble_eq_true rfl) dX7_isBoat_11 (fun r1 M2 h => ?_)
  obtain ⟨q3, h⟩ := ml_if h
  exact ml_iret (st := []) F (Option.some.inj h) rfl rfl q3 (by decide) (by decide) dX7_isBoat_14
set_option maxRecDepth 100000 in
def fX7_inBasin_s0 (a0 : Int32) (rec : Int32 → Int32 → Int32 → ml_M → Option ml_R) (x1 x2 x3 : Int32) (M : ml_M) : Option ml_R :=
  (if (M 12 6) ≤ x3 then some (.inl x2, M) else ml_bd (fX7_b x3 3 M) (fun r1 M2 => ml_jn (fun (y3 : Int32) => rec x1 (x2 + y3) (x3 + 1) M2) (fun B4 => (if r1 = x1 then B4 1 else B4 0))))
def fX7_inBasin_l (a0 : Int32) : Nat → Int32 → Int32 → Int32 → ml_M → Option ml_R
  | 0 => fun _ _ _ _ => none
  | n + 1 => fX7_inBasin_s0 a0 (fX7_inBasin_l a0 n)
set_option maxHeartbeats 4000000 in
set_option maxRecDepth 100000 in
theorem fX7_inBasin_w (a0 : Int32) {E : ml_E} {g : ml_G} {res : ml_R} (F : ml_F E g cX7_inBasin yX7_inBasin.cls 4 2 0 0 (some .int) []) : ∀ fuel : Nat, ∀ (x1 x2 x3 : Int32) (M : ml_M), fX7_inBasin_l a0 fuel x1 x2 x3 M = some res → ml_J E g 4 (ml_Z E g (fun r _ => some (.int r)) res 0 0) 0 0 4 [(0, ml_rf g 11), (1, .int x1), (2, .int x2), (3, .int x3)] [] M := by
  have hst := ml_F_st F
  intro fuel
  induction fuel with
  | zero => intro _ _ _ _ h; exact nomatch (show (none : Option ml_R) = some res from h)
  | succ fuel ih =>
    intro x1 x2 x3 M h
    replace h : fX7_inBasin_s0 a0 (fX7_inBasin_l a0 fuel) x1 x2 x3 M = some res := h
    unfold fX7_inBasin_s0 at h
    refine ml_iload_n (q := 3) F dX7_inBasin_4 rfl rfl ?_
    refine ml_aload_n (q := 0) F dX7_inBasin_5 rfl rfl ?_
    refine ml_get (v := ml_rf g 12) F (pc11 g) rfl iaX7 1 (by decide) lkX7_9 rfl rfl dX7_inBasin_6 ?_
    refine ml_bipush (v := 6) F dX7_inBasin_9 (by decide) ?_
    refine ml_ialdK (j := 6) F (pc12 g) (by decide) (by decide) dX7_inBasin_11 ?_
    refine ml_icmp_ge (tgt := 39) F dX7_inBasin_12 (by decide) h (fun _ h => ?_) (fun _ h => ?_)
    · refine ml_iload_n (q := 2) F dX7_inBasin_39 rfl rfl ?_
      exact ml_iret (st := []) F (Option.some.inj h) rfl rfl rfl (by decide) (by decide) dX7_inBasin_40
    · refine ml_iload_n (q := 2) F dX7_inBasin_15 rfl rfl ?_
      refine ml_aload_n (q := 0) F dX7_inBasin_16 rfl rfl ?_
      refine ml_iload_n (q := 3) F dX7_inBasin_17 rfl rfl ?_
      refine ml_iconst (v := 3) F dX7_inBasin_18 (by decide) ?_
      refine ml_callV (av := [.int x3, .int 3]) (T := TX7) (N := 16) F (pc11 g) rfl h (fun rs h9 => fX7_b_c x3 3 M rs hst h9) wcX7_b mlX7_61 wdX7_b (by decide) (by decide) (by decide) rfl seX7_b imX7_b rfl (Nat.le_of_ble_eq_true rfl) dX7_inBasin_19 (fun r1 M2 h => ?_)
      refine ml_iload_n (q := 1) F dX7_inBasin_22 rfl rfl ?_
      refine ml_jnR (P := fun B => ∀ (y3 : Int32), B y3 = some res → ml_J E g 4 (ml_Z E g (fun r _ => some (.int r)) res 0 0) (0 + 0) (0 + 0) 31 [(0, ml_rf g 11), (1, .int x1), (2, .int x2), (3, .int x3)] (.int y3 :: .int x2 :: []) M2) h ?_ (fun jn5 h => ?_)
      · intro y3 h
        dsimp only at h
        refine ml_iadd F dX7_inBasin_31 ?_
        refine ml_istore_n (ls2 := [(2, .int (x2 + y3)), (0, ml_rf g 11), (1, .int x1), (3, .int x3)]) F dX7_inBasin_32 rfl (by decide) rfl ?_
        refine ml_iinc (q := 3) (v := x3 + 1) (ls2 := [(3, .int (x3 + 1)), (2, .int (x2 + y3)), (0, ml_rf g 11), (1, .int x1)]) F dX7_inBasin_33 rfl rfl (by decide) rfl ?_
        refine ml_goto (tgt := 4) F dX7_inBasin_36 (by decide) ?_
        exact ml_sub [2, 3, 1, 0] rfl (ih _ _ _ _ h)
      refine ml_icmp_ne (tgt := 30) F dX7_inBasin_23 (by decide) h (fun _ h => ?_) (fun _ h => ?_)
      · refine ml_iconst (v := 0) F dX7_inBasin_30 (by decide) ?_
        exact ml_sub [0, 1, 2, 3] rfl (jn5 _ h)
      · refine ml_iconst (v := 1) F dX7_inBasin_26 (by decide) ?_
        refine ml_goto (tgt := 31) F dX7_inBasin_27 (by decide) ?_
        exact ml_sub [0, 1, 2, 3] rfl (jn5 _ h)
set_option maxRecDepth 100000 in
def fX7_inBasin (a0 : Int32) (M : ml_M) : Option ml_R :=
  fX7_inBasin_l a0 ml_fuel a0 0 0 M
set_option maxHeartbeats 4000000 in
set_option maxRecDepth 100000 in
theorem fX7_inBasin_c (a0 : Int32) (M : ml_M) (res : ml_R) {g : ml_G} (hst : g.2.2.2.2.2.stackTraces = false) (h : fX7_inBasin a0 M = some res) : ml_C yX7_inBasin cX7_inBasin 4 (some .int) 2 0 0 g (fun r _ => some (.int r)) [ml_rf g 11, .int a0] M res := by
  refine ml_of [(0, ml_rf g 11), (1, .int a0)] hst (by decide) (Nat.le_of_ble_eq_true rfl) rfl (fun E F => ?_)
  unfold fX7_inBasin at h
  refine ml_iconst (v := 0) F dX7_inBasin_0 (by decide) ?_
  refine ml_istore_n (ls2 := [(2, .int 0), (0, ml_rf g 11), (1, .int a0)]) F dX7_inBasin_1 rfl (by decide) rfl ?_
  refine ml_iconst (v := 0) F dX7_inBasin_2 (by decide) ?_
  refine ml_istore_n (ls2 := [(3, .int 0), (2, .int 0), (0, ml_rf g 11), (1, .int a0)]) F dX7_inBasin_3 rfl (by decide) rfl ?_
  exact ml_sub [2, 3, 1, 0] rfl ((fX7_inBasin_w a0 F ml_fuel) _ _ _ _ h)
set_option maxRecDepth 100000 in
def fX7_isDeep (a0 : Int32) (a1 : Int32) (M : ml_M) : Option ml_R :=
  if ml_ok (11 + a0) 960 then ml_bd (fX7_size a0 M) (fun r1 M2 => ml_jn (fun (y3 : Int32) => if narrow .boolean (.int y3) = .int y3 then some (.inl y3, M2) else none) (fun B4 => (if (M 12 (11 + a0).toNatClampNeg) < (a1 * r1) then B4 0 else B4 1))) else none
set_option maxHeartbeats 4000000 in
set_option maxRecDepth 100000 in
theorem fX7_isDeep_c (a0 : Int32) (a1 : Int32) (M : ml_M) (res : ml_R) {g : ml_G} (hst : g.2.2.2.2.2.stackTraces = false) (h : fX7_isDeep a0 a1 M = some res) : ml_C yX7_isDeep cX7_isDeep 3 (some .boolean) 2 0 0 g (fun r _ => some (.int r)) [ml_rf g 11, .int a0, .int a1] M res := by
  refine ml_of [(0, ml_rf g 11), (1, .int a0), (2, .int a1)] hst (by decide) (Nat.le_of_ble_eq_true rfl) rfl (fun E F => ?_)
  unfold fX7_isDeep at h
  refine ml_aload_n (q := 0) F dX7_isDeep_0 rfl rfl ?_
  refine ml_get (v := ml_rf g 12) F (pc11 g) rfl iaX7 1 (by decide) lkX7_9 rfl rfl dX7_isDeep_1 ?_
  refine ml_bipush (v := 11) F dX7_isDeep_4 (by decide) ?_
  refine ml_iload_n (q := 1) F dX7_isDeep_6 rfl rfl ?_
  refine ml_iadd F dX7_isDeep_7 ?_
  refine ml_iald F (pc12 g) h dX7_isDeep_8 (fun h => ?_)
  refine ml_iload_n (q := 2) F dX7_isDeep_9 rfl rfl ?_
  refine ml_iload_n (q := 1) F dX7_isDeep_10 rfl rfl ?_
  refine ml_callS (av := [.int a0]) F h (fun rs h9 => fX7_size_c a0 M rs hst h9) wcX7_size mlX7_47 wdX7_size (by decide) (by decide) (by decide) rfl stX7_size rfl (Nat.le_of_ble_eq_true rfl) dX7_isDeep_11 (fun r1 M2 h => ?_)
  refine ml_imul F dX7_isDeep_14 ?_
  refine ml_jnR (P := fun B => ∀ (y3 : Int32), B y3 = some res → ml_J E g 3 (ml_Z E g (fun r _ => some (.int r)) res 0 0) (0 + 0) (0 + 0) 23 [(0, ml_rf g 11), (1, .int a0), (2, .int a1)] (.int y3 :: []) M2) h ?_ (fun jn5 h => ?_)
  · intro y3 h
    dsimp only at h
    obtain ⟨q6, h⟩ := ml_if h
    exact ml_iret (st := []) F (Option.some.inj h) rfl rfl q6 (by decide) (by decide) dX7_isDeep_23
  refine ml_icmp_lt (tgt := 22) F dX7_isDeep_15 (by decide) h (fun _ h => ?_) (fun _ h => ?_)
  · refine ml_iconst (v := 0) F dX7_isDeep_22 (by decide) ?_
    exact ml_sub [0, 1, 2] rfl (jn5 _ h)
  · refine ml_iconst (v := 1) F dX7_isDeep_18 (by decide) ?_
    refine ml_goto (tgt := 23) F dX7_isDeep_19 (by decide) ?_
    exact ml_sub [0, 1, 2] rfl (jn5 _ h)
set_option maxRecDepth 100000 in
def fX7_leaves_s0 (a0 : Int32) (rec : Nat → Int32 → Int32 → Int32 → ml_M → Option ml_R) (x1 x2 x3 : Int32) (M : ml_M) : Option ml_R :=
  (if (5 * x2) ≤ x3 then rec 1 x1 x2 0 M else if ml_ok ((40 + x3) + 5) 960 then if ml_ok (40 + x3) 960 then ml_lt (ml_w M 12 (40 + x3).toNatClampNeg (M 12 ((40 + x3) + 5).toNatClampNeg)) (fun M1 => rec 0 x1 x2 (x3 + 1) M1) else none else none)
set_option maxRecDepth 100000 in
def fX7_leaves_s1 (a0 : Int32) (rec : Nat → Int32 → Int32 → Int32 → ml_M → Option ml_R) (x1 x2 x3 : Int32) (M : ml_M) : Option ml_R :=
  (if 5 ≤ x3 then ml_lt (ml_w M 12 6 x2) (fun M1 => some (.inl 0, M1)) else ml_bd (fX7_set x2 x3 0 M) (fun r2 M3 => rec 1 x1 x2 (x3 + 1) M3))
def fX7_leaves_l (a0 : Int32) : Nat → Nat → Int32 → Int32 → Int32 → ml_M → Option ml_R
  | 0, _ => fun _ _ _ _ => none
  | n + 1, 0 => fX7_leaves_s0 a0 (fX7_leaves_l a0 n)
  | n + 1, _ => fX7_leaves_s1 a0 (fX7_leaves_l a0 n)
set_option maxHeartbeats 4000000 in
set_option maxRecDepth 100000 in
theorem fX7_leaves_w (a0 : Int32) {E : ml_E} {g : ml_G} {res : ml_R} (F : ml_F E g cX7_leaves yX7_leaves.cls 4 2 0 0 none []) : ∀ fuel : Nat, (∀ (x1 x2 x3 : Int32) (M : ml_M), fX7_leaves_l a0 fuel 0 x1 x2 x3 M = some res → ml_J E g 4 (ml_Z E g (fun _ _ => none) res 0 0) 0 0 14 [(0, ml_rf g 11), (1, .int x1), (2, .int x2), (3, .int x3)] [] M) ∧ (∀ (x1 x2 x3 : Int32) (M : ml_M), fX7_leaves_l a0 fuel 1 x1 x2 x3 M = some res → ml_J E g 4 (ml_Z E g (fun _ _ => none) res 0 0) 0 0 49 [(0, ml_rf g 11), (1, .int x1), (2, .int x2), (3, .int x3)] [] M) := by
  have hst := ml_F_st F
  intro fuel
  induction fuel with
  | zero => exact ⟨fun _ _ _ _ h => (nomatch (show (none : Option ml_R) = some res from h)), fun _ _ _ _ h => (nomatch (show (none : Option ml_R) = some res from h))⟩
  | succ fuel ih =>
    refine ⟨?_, ?_⟩
    · intro x1 x2 x3 M h
      replace h : fX7_leaves_s0 a0 (fX7_leaves_l a0 fuel) x1 x2 x3 M = some res := h
      unfold fX7_leaves_s0 at h
      refine ml_iload_n (q := 3) F dX7_leaves_14 rfl rfl ?_
      refine ml_iconst (v := 5) F dX7_leaves_15 (by decide) ?_
      refine ml_iload_n (q := 2) F dX7_leaves_16 rfl rfl ?_
      refine ml_imul F dX7_leaves_17 ?_
      refine ml_icmp_ge (tgt := 47) F dX7_leaves_18 (by decide) h (fun _ h => ?_) (fun _ h => ?_)
      · refine ml_iconst (v := 0) F dX7_leaves_47 (by decide) ?_
        refine ml_istore_n (ls2 := [(3, .int 0), (0, ml_rf g 11), (1, .int x1), (2, .int x2)]) F dX7_leaves_48 rfl (by decide) rfl ?_
        exact ml_sub [1, 2, 3, 0] rfl ((ih.2) _ _ _ _ h)
      · refine ml_aload_n (q := 0) F dX7_leaves_21 rfl rfl ?_
        refine ml_get (v := ml_rf g 12) F (pc11 g) rfl iaX7 1 (by decide) lkX7_9 rfl rfl dX7_leaves_22 ?_
        refine ml_bipush (v := 40) F dX7_leaves_25 (by decide) ?_
        refine ml_iload_n (q := 3) F dX7_leaves_27 rfl rfl ?_
        refine ml_iadd F dX7_leaves_28 ?_
        refine ml_aload_n (q := 0) F dX7_leaves_29 rfl rfl ?_
        refine ml_get (v := ml_rf g 12) F (pc11 g) rfl iaX7 1 (by decide) lkX7_9 rfl rfl dX7_leaves_30 ?_
        refine ml_bipush (v := 40) F dX7_leaves_33 (by decide) ?_
        refine ml_iload_n (q := 3) F dX7_leaves_35 rfl rfl ?_
        refine ml_iadd F dX7_leaves_36 ?_
        refine ml_iconst (v := 5) F dX7_leaves_37 (by decide) ?_
        refine ml_iadd F dX7_leaves_38 ?_
        refine ml_iald F (pc12 g) h dX7_leaves_39 (fun h => ?_)
        refine ml_iast F (pc12 g) h dX7_leaves_40 (fun h => ?_)
        refine ml_ltM h (fun M1 _ h => ?_)
        refine ml_iinc (q := 3) (v := x3 + 1) (ls2 := [(3, .int (x3 + 1)), (0, ml_rf g 11), (1, .int x1), (2, .int x2)]) F dX7_leaves_41 rfl rfl (by decide) rfl ?_
        refine ml_goto (tgt := 14) F dX7_leaves_44 (by decide) ?_
        exact ml_sub [1, 2, 3, 0] rfl ((ih.1) _ _ _ _ h)
    · intro x1 x2 x3 M h
      replace h : fX7_leaves_s1 a0 (fX7_leaves_l a0 fuel) x1 x2 x3 M = some res := h
      unfold fX7_leaves_s1 at h
      refine ml_iload_n (q := 3) F dX7_leaves_49 rfl rfl ?_
      refine ml_iconst (v := 5) F dX7_leaves_50 (by decide) ?_
      refine ml_icmp_ge (tgt := 67) F dX7_leaves_51 (by decide) h (fun _ h => ?_) (fun _ h => ?_)
      · refine ml_aload_n (q := 0) F dX7_leaves_67 rfl rfl ?_
        refine ml_get (v := ml_rf g 12) F (pc11 g) rfl iaX7 1 (by decide) lkX7_9 rfl rfl dX7_leaves_68 ?_
        refine ml_bipush (v := 6) F dX7_leaves_71 (by decide) ?_
        refine ml_iload_n (q := 2) F dX7_leaves_73 rfl rfl ?_
        refine ml_iastK (j := 6) F (pc12 g) (by decide) (by decide) dX7_leaves_74 ?_
        refine ml_ltM h (fun M1 _ h => ?_)
        exact ml_vret (st := []) F (Option.some.inj h) rfl rfl (by decide) (by decide) dX7_leaves_75
      · refine ml_aload_n (q := 0) F dX7_leaves_54 rfl rfl ?_
        refine ml_iload_n (q := 2) F dX7_leaves_55 rfl rfl ?_
        refine ml_iload_n (q := 3) F dX7_leaves_56 rfl rfl ?_
        refine ml_iconst (v := 0) F dX7_leaves_57 (by decide) ?_
        refine ml_callV (av := [.int x2, .int x3, .int 0]) (T := TX7) (N := 16) F (pc11 g) rfl h (fun rs h9 => fX7_set_c x2 x3 0 M rs hst h9) wcX7_set mlX7_64 wdX7_set (by decide) (by decide) (by decide) rfl seX7_set imX7_set rfl (Nat.le_of_ble_eq_true rfl) dX7_leaves_58 (fun r2 M3 h => ?_)
        refine ml_iinc (q := 3) (v := x3 + 1) (ls2 := [(3, .int (x3 + 1)), (0, ml_rf g 11), (1, .int x1), (2, .int x2)]) F dX7_leaves_61 rfl rfl (by decide) rfl ?_
        refine ml_goto (tgt := 49) F dX7_leaves_64 (by decide) ?_
        exact ml_sub [1, 2, 3, 0] rfl ((ih.2) _ _ _ _ h)
set_option maxRecDepth 100000 in
def fX7_leaves (a0 : Int32) (M : ml_M) : Option ml_R :=
  fX7_leaves_l a0 ml_fuel 0 a0 ((M 12 6) - 1) (5 * a0) M
set_option maxHeartbeats 4000000 in
set_option maxRecDepth 100000 in
theorem fX7_leaves_c (a0 : Int32) (M : ml_M) (res : ml_R) {g : ml_G} (hst : g.2.2.2.2.2.stackTraces = false) (h : fX7_leaves a0 M = some res) : ml_C yX7_leaves cX7_leaves 4 none 2 0 0 g (fun _ _ => none) [ml_rf g 11, .int a0] M res := by
  refine ml_of [(0, ml_rf g 11), (1, .int a0)] hst (by decide) (Nat.le_of_ble_eq_true rfl) rfl (fun E F => ?_)
  unfold fX7_leaves at h
  refine ml_aload_n (q := 0) F dX7_leaves_0 rfl rfl ?_
  refine ml_get (v := ml_rf g 12) F (pc11 g) rfl iaX7 1 (by decide) lkX7_9 rfl rfl dX7_leaves_1 ?_
  refine ml_bipush (v := 6) F dX7_leaves_4 (by decide) ?_
  refine ml_ialdK (j := 6) F (pc12 g) (by decide) (by decide) dX7_leaves_6 ?_
  refine ml_iconst (v := 1) F dX7_leaves_7 (by decide) ?_
  refine ml_isub F dX7_leaves_8 ?_
  refine ml_istore_n (ls2 := [(2, .int ((M 12 6) - 1)), (0, ml_rf g 11), (1, .int a0)]) F dX7_leaves_9 rfl (by decide) rfl ?_
  refine ml_iconst (v := 5) F dX7_leaves_10 (by decide) ?_
  refine ml_iload_n (q := 2) F dX7_leaves_11 rfl rfl ?_
  refine ml_imul F dX7_leaves_12 ?_
  refine ml_istore_n (ls2 := [(3, .int (5 * a0)), (2, .int ((M 12 6) - 1)), (0, ml_rf g 11), (1, .int a0)]) F dX7_leaves_13 rfl (by decide) rfl ?_
  exact ml_sub [2, 3, 1, 0] rfl ((fX7_leaves_w a0 F ml_fuel).1 _ _ _ _ h)
set_option maxRecDepth 100000 in
def fX7_passes (a0 : Int32) (M : ml_M) : Option ml_R :=
  ml_bd (fX7_b a0 3 M) (fun r1 M2 => ml_bd (fX7_b a0 2 M2) (fun r3 M4 => ml_jn (fun (y5 : Int32) => ml_bd (fX7_b a0 2 M4) (fun r8 M9 => ml_jn (fun (y10 : Int32) => ml_jn (fun (y13 : Int32) => if ml_ok (20 + y10) 960 then (if (M9 12 (20 + y10).toNatClampNeg) = 0 then some (.inl 0, M9) else (if (((M9 11 5) >>> (y10 &&& 31)) &&& 1) = 1 then some (.inl 0, M9) else ml_jn (fun (M16 : ml_M) => ml_bd (fX7_b a0 1 M16) (fun r19 M20 => ml_bd (fX7_isDeep y5 r19 M20) (fun r21 M22 => (if r21 = 0 then some (.inl 0, M22) else ml_lt (ml_w M22 11 5 ((M22 11 5) ||| (1 <<< (y10 &&& 31)))) (fun M23 => (if y13 = 0 then ml_bd (fX7_set a0 3 y5 M23) (fun r33 M34 => ml_bd (fX7_happens 112 y10 M34) (fun r35 M36 => some (.inl 0, M36))) else ml_bd (fX7_b a0 0 M23) (fun r24 M25 => if ml_ok (8 + r24) 960 then if ml_ok (8 + r24) 960 then ml_lt (ml_w M25 12 (8 + r24).toNatClampNeg ((M25 12 (8 + r24).toNatClampNeg) + 1)) (fun M26 => ml_bd (fX7_b a0 1 M26) (fun r27 M28 => ml_bd (fX7_happens 108 r27 M28) (fun r29 M30 => ml_bd (fX7_leaves a0 M30) (fun r31 M32 => some (.inl 1, M32))))) else none else none))))))) (fun B17 => (if y13 = 0 then ml_bd (fX7_inBasin y5 M9) (fun r37 M38 => (if 1 < r37 then some (.inl 0, M38) else B17 M38)) else B17 M9)))) else none) (fun B14 => (if y5 = 0 then B14 1 else (if y5 = 4 then B14 1 else B14 0)))) (fun B11 => (if r8 = 1 then B11 r1 else B11 y5)))) (fun B6 => (if r3 = 1 then B6 (r1 + 1) else B6 (r1 - 1)))))
set_option maxHeartbeats 4000000 in
set_option maxRecDepth 100000 in
theorem fX7_passes_c (a0 : Int32) (M : ml_M) (res : ml_R) {g : ml_G} (hst : g.2.2.2.2.2.stackTraces = false) (h : fX7_passes a0 M = some res) : ml_C yX7_passes cX7_passes 6 (some .boolean) 3 0 0 g (fun r _ => some (.int r)) [ml_rf g 11, .int a0] M res := by
  refine ml_of [(0, ml_rf g 11), (1, .int a0)] hst (by decide) (Nat.le_of_ble_eq_true rfl) rfl (fun E F => ?_)
  unfold fX7_passes at h
  refine ml_aload_n (q := 0) F dX7_passes_0 rfl rfl ?_
  refine ml_iload_n (q := 1) F dX7_passes_1 rfl rfl ?_
  refine ml_iconst (v := 3) F dX7_passes_2 (by decide) ?_
  refine ml_callV (av := [.int a0, .int 3]) (T := TX7) (N := 16) F (pc11 g) rfl h (fun rs h9 => fX7_b_c a0 3 M rs hst h9) wcX7_b mlX7_61 wdX7_b (by decide) (by decide) (by decide) rfl seX7_b imX7_b rfl (Nat.le_of_ble_eq_true rfl) dX7_passes_3 (fun r1 M2 h => ?_)
  refine ml_istore_n (ls2 := [(2, .int r1), (0, ml_rf g 11), (1, .int a0)]) F dX7_passes_6 rfl (by decide) rfl ?_
  refine ml_aload_n (q := 1) F dX7_passes_7 rfl rfl ?_
  refine ml_iload_n (q := 2) F dX7_passes_8 rfl rfl ?_
  refine ml_iconst (v := 2) F dX7_passes_9 (by decide) ?_
  refine ml_callV (av := [.int a0, .int 2]) (T := TX7) (N := 16) F (pc11 g) rfl h (fun rs h9 => fX7_b_c a0 2 M2 rs hst h9) wcX7_b mlX7_61 wdX7_b (by decide) (by decide) (by decide) rfl seX7_b imX7_b rfl (Nat.le_of_ble_eq_true rfl) dX7_passes_10 (fun r3 M4 h => ?_)
  refine ml_iconst (v := 1) F dX7_passes_13 (by decide) ?_
  refine ml_jnR (P := fun B => ∀ (y5 : Int32), B y5 = some res → ml_J E g 6 (ml_Z E g (fun r _ => some (.int r)) res 0 0) (0 + 0 + 0) (0 + 0 + 0) 26 [(0, ml_rf g 11), (1, .int a0), (2, .int r1)] (.int y5 :: []) M4) h ?_ (fun jn7 h => ?_)
  · intro y5 h
    dsimp only at h
    refine ml_istore_n (ls2 := [(3, .int y5), (0, ml_rf g 11), (1, .int a0), (2, .int r1)]) F dX7_passes_26 rfl (by decide) rfl ?_
    refine ml_aload_n (q := 1) F dX7_passes_27 rfl rfl ?_
    refine ml_iload_n (q := 2) F dX7_passes_28 rfl rfl ?_
    refine ml_iconst (v := 2) F dX7_passes_29 (by decide) ?_
    refine ml_callV (av := [.int a0, .int 2]) (T := TX7) (N := 16) F (pc11 g) rfl h (fun rs h9 => fX7_b_c a0 2 M4 rs hst h9) wcX7_b mlX7_61 wdX7_b (by decide) (by decide) (by decide) rfl seX7_b imX7_b rfl (Nat.le_of_ble_eq_true rfl) dX7_passes_30 (fun r8 M9 h => ?_)
    refine ml_iconst (v := 1) F dX7_passes_33 (by decide) ?_
    refine ml_jnR (P := fun B => ∀ (y10 : Int32), B y10 = some res → ml_J E g 6 (ml_Z E g (fun r _ => some (.int r)) res 0 0) (0 + 0 + 0 + 0) (0 + 0 + 0 + 0) 42 [(0, ml_rf g 11), (1, .int a0), (2, .int r1), (3, .int y5)] (.int y10 :: []) M9) h ?_ (fun jn12 h => ?_)
    · intro y10 h
      dsimp only at h
      refine ml_istore (ls2 := [(4, .int y10), (0, ml_rf g 11), (1, .int a0), (2, .int r1), (3, .int y5)]) F dX7_passes_42 (by decide) rfl ?_
      refine ml_iload_n (q := 4) F dX7_passes_44 rfl rfl ?_
      refine ml_jnR (P := fun B => ∀ (y13 : Int32), B y13 = some res → ml_J E g 6 (ml_Z E g (fun r _ => some (.int r)) res 0 0) (0 + 0 + 0 + 0) (0 + 0 + 0 + 0) 58 [(0, ml_rf g 11), (1, .int a0), (2, .int r1), (3, .int y5), (4, .int y10)] (.int y13 :: []) M9) h ?_ (fun jn15 h => ?_)
      · intro y13 h
        dsimp only at h
        refine ml_istore (ls2 := [(5, .int y13), (0, ml_rf g 11), (1, .int a0), (2, .int r1), (3, .int y5), (4, .int y10)]) F dX7_passes_58 (by decide) rfl ?_
        refine ml_aload_n (q := 1) F dX7_passes_60 rfl rfl ?_
        refine ml_get (v := ml_rf g 12) F (pc11 g) rfl iaX7 1 (by decide) lkX7_9 rfl rfl dX7_passes_61 ?_
        refine ml_bipush (v := 20) F dX7_passes_64 (by decide) ?_
        refine ml_iload (q := 5) F dX7_passes_66 rfl ?_
        refine ml_iadd F dX7_passes_68 ?_
        refine ml_iald F (pc12 g) h dX7_passes_69 (fun h => ?_)
        refine ml_if_eq (tgt := 86) F dX7_passes_70 (by decide) h (fun _ h => ?_) (fun _ h => ?_)
        · refine ml_iconst (v := 0) F dX7_passes_86 (by decide) ?_
          exact ml_iret (st := []) F (Option.some.inj h) rfl rfl (by decide) (by decide) (by decide) dX7_passes_87
        · refine ml_aload_n (q := 1) F dX7_passes_73 rfl rfl ?_
          refine ml_get (v := .int (M9 11 5)) F (pc11 g) rfl iaX7 5 (by decide) lkX7_68 rfl rfl dX7_passes_74 ?_
          refine ml_iload (q := 5) F dX7_passes_77 rfl ?_
          refine ml_ishr F dX7_passes_79 ?_
          refine ml_iconst (v := 1) F dX7_passes_80 (by decide) ?_
          refine ml_iand F dX7_passes_81 ?_
          refine ml_iconst (v := 1) F dX7_passes_82 (by decide) ?_
          refine ml_icmp_ne (tgt := 88) F dX7_passes_83 (by decide) h (fun _ h => ?_) (fun _ h => ?_)
          · refine ml_iload (q := 0) F dX7_passes_88 rfl ?_
            refine ml_jnR (P := fun B => ∀ (M16 : ml_M), B M16 = some res → ml_J E g 6 (ml_Z E g (fun r _ => some (.int r)) res 0 0) (0 + 0 + 0 + 0) (0 + 0 + 0 + 0) 102 [(0, ml_rf g 11), (1, .int a0), (2, .int r1), (3, .int y5), (4, .int y10), (5, .int y13)] ([]) M16) h ?_ (fun jn18 h => ?_)
            · intro M16 h
              dsimp only at h
              refine ml_aload_n (q := 0) F dX7_passes_102 rfl rfl ?_
              refine ml_iload_n (q := 3) F dX7_passes_103 rfl rfl ?_
              refine ml_aload_n (q := 0) F dX7_passes_104 rfl rfl ?_
              refine ml_iload_n (q := 1) F dX7_passes_105 rfl rfl ?_
              refine ml_iconst (v := 1) F dX7_passes_106 (by decide) ?_
              refine ml_callV (av := [.int a0, .int 1]) (T := TX7) (N := 16) F (pc11 g) rfl h (fun rs h9 => fX7_b_c a0 1 M16 rs hst h9) wcX7_b mlX7_61 wdX7_b (by decide) (by decide) (by decide) rfl seX7_b imX7_b rfl (Nat.le_of_ble_eq_true rfl) dX7_passes_107 (fun r19 M20 h => ?_)
              refine ml_callV (av := [.int y5, .int r19]) (T := TX7) (N := 16) F (pc11 g) rfl h (fun rs h9 => fX7_isDeep_c y5 r19 M20 rs hst h9) wcX7_isDeep mlX7_74 wdX7_isDeep (by decide) (by decide) (by decide) rfl seX7_isDeep imX7_isDeep rfl (Nat.le_of_ble_eq_true rfl) dX7_passes_110 (fun r21 M22 h => ?_)
              refine ml_if_ne (tgt := 118) F dX7_passes_113 (by decide) h (fun _ h => ?_) (fun _ h => ?_)
              · refine ml_aload_n (q := 0) F dX7_passes_118 rfl rfl ?_
                refine ml_dup F dX7_passes_119 rfl ?_
                refine ml_get (v := .int (M22 11 5)) F (pc11 g) rfl iaX7 5 (by decide) lkX7_68 rfl rfl dX7_passes_120 ?_
                refine ml_iconst (v := 1) F dX7_passes_123 (by decide) ?_
                refine ml_iload (q := 4) F dX7_passes_124 rfl ?_
                refine ml_ishl F dX7_passes_126 ?_
                refine ml_ior F dX7_passes_127 ?_
                refine ml_set F (pc11 g) rfl iaX7 tyX7_ok nmX7 5 (by decide) lkX7_68 rfl rfl rfl rfl rfl (Nat.le_of_ble_eq_true rfl) (fun m => by simp [upd]) dX7_passes_128 ?_
                refine ml_ltM h (fun M23 _ h => ?_)
                refine ml_iload (q := 5) F dX7_passes_131 rfl ?_
                refine ml_if_ne (tgt := 153) F dX7_passes_133 (by decide) h (fun _ h => ?_) (fun _ h => ?_)
                · refine ml_aload_n (q := 0) F dX7_passes_153 rfl rfl ?_
                  refine ml_get (v := ml_rf g 12) F (pc11 g) rfl iaX7 1 (by decide) lkX7_9 rfl rfl dX7_passes_154 ?_
                  refine ml_bipush (v := 8) F dX7_passes_157 (by decide) ?_
                  refine ml_aload_n (q := 0) F dX7_passes_159 rfl rfl ?_
                  refine ml_iload_n (q := 1) F dX7_passes_160 rfl rfl ?_
                  refine ml_iconst (v := 0) F dX7_passes_161 (by decide) ?_
                  refine ml_callV (av := [.int a0, .int 0]) (T := TX7) (N := 16) F (pc11 g) rfl h (fun rs h9 => fX7_b_c a0 0 M23 rs hst h9) wcX7_b mlX7_61 wdX7_b (by decide) (by decide) (by decide) rfl seX7_b imX7_b rfl (Nat.le_of_ble_eq_true rfl) dX7_passes_162 (fun r24 M25 h => ?_)
                  refine ml_iadd F dX7_passes_165 ?_
                  refine ml_dup2 F dX7_passes_166 rfl rfl ?_
                  refine ml_iald F (pc12 g) h dX7_passes_167 (fun h => ?_)
                  refine ml_iconst (v := 1) F dX7_passes_168 (by decide) ?_
                  refine ml_iadd F dX7_passes_169 ?_
                  refine ml_iast F (pc12 g) h dX7_passes_170 (fun h => ?_)
                  refine ml_ltM h (fun M26 _ h => ?_)
                  refine ml_aload_n (q := 0) F dX7_passes_171 rfl rfl ?_
                  refine ml_bipush (v := 108) F dX7_passes_172 (by decide) ?_
                  refine ml_aload_n (q := 0) F dX7_passes_174 rfl rfl ?_
                  refine ml_iload_n (q := 1) F dX7_passes_175 rfl rfl ?_
                  refine ml_iconst (v := 1) F dX7_passes_176 (by decide) ?_
                  refine ml_callV (av := [.int a0, .int 1]) (T := TX7) (N := 16) F (pc11 g) rfl h (fun rs h9 => fX7_b_c a0 1 M26 rs hst h9) wcX7_b mlX7_61 wdX7_b (by decide) (by decide) (by decide) rfl seX7_b imX7_b rfl (Nat.le_of_ble_eq_true rfl) dX7_passes_177 (fun r27 M28 h => ?_)
                  refine ml_callV (av := [.int 108, .int r27]) (T := TX7) (N := 16) F (pc11 g) rfl h (fun rs h9 => fX7_happens_c 108 r27 M28 rs hst h9) wcX7_happens mlX7_58 wdX7_happens (by decide) (by decide) (by decide) rfl seX7_happens imX7_happens rfl (Nat.le_of_ble_eq_true rfl) dX7_passes_180 (fun r29 M30 h => ?_)
                  refine ml_aload_n (q := 0) F dX7_passes_183 rfl rfl ?_
                  refine ml_iload_n (q := 1) F dX7_passes_184 rfl rfl ?_
                  refine ml_callV (av := [.int a0]) (T := TX7) (N := 16) F (pc11 g) rfl h (fun rs h9 => fX7_leaves_c a0 M30 rs hst h9) wcX7_leaves mlX7_78 wdX7_leaves (by decide) (by decide) (by decide) rfl seX7_leaves imX7_leaves rfl (Nat.le_of_ble_eq_true rfl) dX7_passes_185 (fun r31 M32 h => ?_)
                  refine ml_iconst (v := 1) F dX7_passes_188 (by decide) ?_
                  exact ml_iret (st := []) F (Option.some.inj h) rfl rfl (by decide) (by decide) (by decide) dX7_passes_189
                · refine ml_aload_n (q := 0) F dX7_passes_136 rfl rfl ?_
                  refine ml_iload_n (q := 1) F dX7_passes_137 rfl rfl ?_
                  refine ml_iconst (v := 3) F dX7_passes_138 (by decide) ?_
                  refine ml_iload_n (q := 3) F dX7_passes_139 rfl rfl ?_
                  refine ml_callV (av := [.int a0, .int 3, .int y5]) (T := TX7) (N := 16) F (pc11 g) rfl h (fun rs h9 => fX7_set_c a0 3 y5 M23 rs hst h9) wcX7_set mlX7_64 wdX7_set (by decide) (by decide) (by decide) rfl seX7_set imX7_set rfl (Nat.le_of_ble_eq_true rfl) dX7_passes_140 (fun r33 M34 h => ?_)
                  refine ml_aload_n (q := 0) F dX7_passes_143 rfl rfl ?_
                  refine ml_bipush (v := 112) F dX7_passes_144 (by decide) ?_
                  refine ml_iload (q := 4) F dX7_passes_146 rfl ?_
                  refine ml_callV (av := [.int 112, .int y10]) (T := TX7) (N := 16) F (pc11 g) rfl h (fun rs h9 => fX7_happens_c 112 y10 M34 rs hst h9) wcX7_happens mlX7_58 wdX7_happens (by decide) (by decide) (by decide) rfl seX7_happens imX7_happens rfl (Nat.le_of_ble_eq_true rfl) dX7_passes_148 (fun r35 M36 h => ?_)
                  refine ml_iconst (v := 0) F dX7_passes_151 (by decide) ?_
                  exact ml_iret (st := []) F (Option.some.inj h) rfl rfl (by decide) (by decide) (by decide) dX7_passes_152
              · refine ml_iconst (v := 0) F dX7_passes_116 (by decide) ?_
                exact ml_iret (st := []) F (Option.some.inj h) rfl rfl (by decide) (by decide) (by decide) dX7_passes_117
            refine ml_if_ne (tgt := 102) F dX7_passes_90 (by decide) h (fun _ h => ?_) (fun _ h => ?_)
            · exact ml_sub [1, 2, 3, 4, 5, 0] rfl (jn18 _ h)
            · refine ml_aload_n (q := 1) F dX7_passes_93 rfl rfl ?_
              refine ml_iload_n (q := 4) F dX7_passes_94 rfl rfl ?_
              refine ml_callV (av := [.int y5]) (T := TX7) (N := 16) F (pc11 g) rfl h (fun rs h9 => fX7_inBasin_c y5 M9 rs hst h9) wcX7_inBasin mlX7_71 wdX7_inBasin (by decide) (by decide) (by decide) rfl seX7_inBasin imX7_inBasin rfl (Nat.le_of_ble_eq_true rfl) dX7_passes_95 (fun r37 M38 h => ?_)
              refine ml_iconst (v := 1) F dX7_passes_98 (by decide) ?_
              refine ml_icmp_gt (tgt := 116) F dX7_passes_99 (by decide) h (fun _ h => ?_) (fun _ h => ?_)
              · refine ml_iconst (v := 0) F dX7_passes_116 (by decide) ?_
                exact ml_iret (st := []) F (Option.some.inj h) rfl rfl (by decide) (by decide) (by decide) dX7_passes_117
              · exact ml_sub [1, 2, 3, 4, 5, 0] rfl (jn18 _ h)
          · refine ml_iconst (v := 0) F dX7_passes_86 (by decide) ?_
            exact ml_iret (st := []) F (Option.some.inj h) rfl rfl (by decide) (by decide) (by decide) dX7_passes_87
      refine ml_if_eq (tgt := 53) F dX7_passes_45 (by decide) h (fun _ h => ?_) (fun _ h => ?_)
      · refine ml_iconst (v := 1) F dX7_passes_53 (by decide) ?_
        refine ml_goto (tgt := 58) F dX7_passes_54 (by decide) ?_
        exact ml_sub [1, 2, 3, 4, 0] rfl (jn15 _ h)
      · refine ml_iload_n (q := 4) F dX7_passes_48 rfl rfl ?_
        refine ml_iconst (v := 4) F dX7_passes_49 (by decide) ?_
        refine ml_icmp_ne (tgt := 57) F dX7_passes_50 (by decide) h (fun _ h => ?_) (fun _ h => ?_)
        · refine ml_iconst (v := 0) F dX7_passes_57 (by decide) ?_
          exact ml_sub [1, 2, 3, 4, 0] rfl (jn15 _ h)
        · refine ml_iconst (v := 1) F dX7_passes_53 (by decide) ?_
          refine ml_goto (tgt := 58) F dX7_passes_54 (by decide) ?_
          exact ml_sub [1, 2, 3, 4, 0] rfl (jn15 _ h)
    refine ml_icmp_ne (tgt := 41) F dX7_passes_34 (by decide) h (fun _ h => ?_) (fun _ h => ?_)
    · refine ml_iload_n (q := 0) F dX7_passes_41 rfl rfl ?_
      exact ml_sub [1, 2, 3, 0] rfl (jn12 _ h)
    · refine ml_iload_n (q := 3) F dX7_passes_37 rfl rfl ?_
      refine ml_goto (tgt := 42) F dX7_passes_38 (by decide) ?_
      exact ml_sub [1, 2, 3, 0] rfl (jn12 _ h)
  refine ml_icmp_ne (tgt := 23) F dX7_passes_14 (by decide) h (fun _ h => ?_) (fun _ h => ?_)
  · refine ml_iload_n (q := 0) F dX7_passes_23 rfl rfl ?_
    refine ml_iconst (v := 1) F dX7_passes_24 (by decide) ?_
    refine ml_isub F dX7_passes_25 ?_
    exact ml_sub [1, 2, 0] rfl (jn7 _ h)
  · refine ml_iload_n (q := 0) F dX7_passes_17 rfl rfl ?_
    refine ml_iconst (v := 1) F dX7_passes_18 (by decide) ?_
    refine ml_iadd F dX7_passes_19 ?_
    refine ml_goto (tgt := 26) F dX7_passes_20 (by decide) ?_
    exact ml_sub [1, 2, 0] rfl (jn7 _ h)
set_option maxRecDepth 100000 in
def fX7_ticks_s0 (rec : Nat → Int32 → Int32 → Int32 → ml_M → Option ml_R) (x1 x2 x3 : Int32) (M : ml_M) : Option ml_R :=
  (if 4 ≤ x2 then ml_lt (ml_w M 11 5 0) (fun M1 => rec 1 x1 0 0 M1) else ml_bd (fX7_flows x2 M) (fun r2 M3 => if ml_ok (11 + x2) 960 then if ml_ok (11 + x2) 960 then ml_lt (ml_w M3 12 (11 + x2).toNatClampNeg ((M3 12 (11 + x2).toNatClampNeg) - r2)) (fun M4 => if ml_ok ((11 + x2) + 1) 960 then if ml_ok ((11 + x2) + 1) 960 then ml_lt (ml_w M4 12 ((11 + x2) + 1).toNatClampNeg ((M4 12 ((11 + x2) + 1).toNatClampNeg) + r2)) (fun M5 => rec 0 x1 (x2 + 1) 0 M5) else none else none) else none else none))
set_option maxRecDepth 100000 in
def fX7_ticks_s1 (rec : Nat → Int32 → Int32 → Int32 → ml_M → Option ml_R) (x1 x2 x3 : Int32) (M : ml_M) : Option ml_R :=
  (if 3 ≤ x2 then some (.inl x1, M) else rec 2 x1 x2 0 M)
set_option maxRecDepth 100000 in
def fX7_ticks_s2 (rec : Nat → Int32 → Int32 → Int32 → ml_M → Option ml_R) (x1 x2 x3 : Int32) (M : ml_M) : Option ml_R :=
  (if (M 12 6) ≤ x3 then rec 1 x1 (x2 + 1) 0 M else ml_bd (fX7_b x3 0 M) (fun r1 M2 => ml_jn (fun (y3 : Int32) (y4 : Int32) (M5 : ml_M) => rec 2 y3 x2 (y4 + 1) M5) (fun B6 => (if r1 = x2 then ml_bd (fX7_passes x3 M2) (fun r8 M9 => ml_jn (fun (y10 : Int32) => ml_jn (fun (y13 : Int32) => B6 (x1 + y10) (x3 - y13) M9) (fun B14 => (if r8 = 0 then B14 0 else B14 1))) (fun B11 => (if r8 = 0 then B11 0 else B11 1))) else B6 x1 x3 M2))))
def fX7_ticks_l : Nat → Nat → Int32 → Int32 → Int32 → ml_M → Option ml_R
  | 0, _ => fun _ _ _ _ => none
  | n + 1, 0 => fX7_ticks_s0 (fX7_ticks_l n)
  | n + 1, 1 => fX7_ticks_s1 (fX7_ticks_l n)
  | n + 1, _ => fX7_ticks_s2 (fX7_ticks_l n)
set_option maxHeartbeats 4000000 in
set_option maxRecDepth 100000 in
theorem fX7_ticks_w {E : ml_E} {g : ml_G} {res : ml_R} (F : ml_F E g cX7_ticks yX7_ticks.cls 5 5 0 0 (some .int) []) : ∀ fuel : Nat, (∀ (x1 x2 x3 : Int32) (M : ml_M), fX7_ticks_l fuel 0 x1 x2 x3 M = some res → ml_J E g 5 (ml_Z E g (fun r _ => some (.int r)) res 0 0) 0 0 18 [(0, ml_rf g 11), (1, .int x1), (2, .int x2)] [] M) ∧ (∀ (x1 x2 x3 : Int32) (M : ml_M), fX7_ticks_l fuel 1 x1 x2 x3 M = some res → ml_J E g 5 (ml_Z E g (fun r _ => some (.int r)) res 0 0) 0 0 70 [(0, ml_rf g 11), (1, .int x1), (2, .int x2)] [] M) ∧ (∀ (x1 x2 x3 : Int32) (M : ml_M), fX7_ticks_l fuel 2 x1 x2 x3 M = some res → ml_J E g 5 (ml_Z E g (fun r _ => some (.int r)) res 0 0) 0 0 77 [(0, ml_rf g 11), (1, .int x1), (2, .int x2), (3, .int x3)] [] M) := by
  have hst := ml_F_st F
  intro fuel
  induction fuel with
  | zero => exact ⟨fun _ _ _ _ h => (nomatch (show (none : Option ml_R) = some res from h)), fun _ _ _ _ h => (nomatch (show (none : Option ml_R) = some res from h)), fun _ _ _ _ h => (nomatch (show (none : Option ml_R) = some res from h))⟩
  | succ fuel ih =>
    refine ⟨?_, ?_, ?_⟩
    · intro x1 x2 x3 M h
      replace h : fX7_ticks_s0 (fX7_ticks_l fuel) x1 x2 x3 M = some res := h
      unfold fX7_ticks_s0 at h
      refine ml_iload_n (q := 2) F dX7_ticks_18 rfl rfl ?_
      refine ml_iconst (v := 4) F dX7_ticks_19 (by decide) ?_
      refine ml_icmp_ge (tgt := 63) F dX7_ticks_20 (by decide) h (fun _ h => ?_) (fun _ h => ?_)
      · refine ml_aload_n (q := 0) F dX7_ticks_63 rfl rfl ?_
        refine ml_iconst (v := 0) F dX7_ticks_64 (by decide) ?_
        refine ml_set F (pc11 g) rfl iaX7 tyX7_ok nmX7 5 (by decide) lkX7_68 rfl rfl rfl rfl rfl (Nat.le_of_ble_eq_true rfl) (fun m => by simp [upd]) dX7_ticks_65 ?_
        refine ml_ltM h (fun M1 _ h => ?_)
        refine ml_iconst (v := 0) F dX7_ticks_68 (by decide) ?_
        refine ml_istore_n (ls2 := [(2, .int 0), (0, ml_rf g 11), (1, .int x1)]) F dX7_ticks_69 rfl (by decide) rfl ?_
        exact ml_sub [1, 2, 0] rfl ((ih.2.1) _ _ _ _ h)
      · refine ml_aload_n (q := 0) F dX7_ticks_23 rfl rfl ?_
        refine ml_iload_n (q := 2) F dX7_ticks_24 rfl rfl ?_
        refine ml_callV (av := [.int x2]) (T := TX7) (N := 16) F (pc11 g) rfl h (fun rs h9 => fX7_flows_c x2 M rs hst h9) wcX7_flows mlX7_85 wdX7_flows (by decide) (by decide) (by decide) rfl seX7_flows imX7_flows rfl (Nat.le_of_ble_eq_true rfl) dX7_ticks_25 (fun r2 M3 h => ?_)
        refine ml_istore_n (ls2 := [(3, .int r2), (0, ml_rf g 11), (1, .int x1), (2, .int x2)]) F dX7_ticks_28 rfl (by decide) rfl ?_
        refine ml_aload_n (q := 1) F dX7_ticks_29 rfl rfl ?_
        refine ml_get (v := ml_rf g 12) F (pc11 g) rfl iaX7 1 (by decide) lkX7_9 rfl rfl dX7_ticks_30 ?_
        refine ml_bipush (v := 11) F dX7_ticks_33 (by decide) ?_
        refine ml_iload_n (q := 3) F dX7_ticks_35 rfl rfl ?_
        refine ml_iadd F dX7_ticks_36 ?_
        refine ml_dup2 F dX7_ticks_37 rfl rfl ?_
        refine ml_iald F (pc12 g) h dX7_ticks_38 (fun h => ?_)
        refine ml_iload_n (q := 0) F dX7_ticks_39 rfl rfl ?_
        refine ml_isub F dX7_ticks_40 ?_
        refine ml_iast F (pc12 g) h dX7_ticks_41 (fun h => ?_)
        refine ml_ltM h (fun M4 _ h => ?_)
        refine ml_aload_n (q := 1) F dX7_ticks_42 rfl rfl ?_
        refine ml_get (v := ml_rf g 12) F (pc11 g) rfl iaX7 1 (by decide) lkX7_9 rfl rfl dX7_ticks_43 ?_
        refine ml_bipush (v := 11) F dX7_ticks_46 (by decide) ?_
        refine ml_iload_n (q := 3) F dX7_ticks_48 rfl rfl ?_
        refine ml_iadd F dX7_ticks_49 ?_
        refine ml_iconst (v := 1) F dX7_ticks_50 (by decide) ?_
        refine ml_iadd F dX7_ticks_51 ?_
        refine ml_dup2 F dX7_ticks_52 rfl rfl ?_
        refine ml_iald F (pc12 g) h dX7_ticks_53 (fun h => ?_)
        refine ml_iload_n (q := 0) F dX7_ticks_54 rfl rfl ?_
        refine ml_iadd F dX7_ticks_55 ?_
        refine ml_iast F (pc12 g) h dX7_ticks_56 (fun h => ?_)
        refine ml_ltM h (fun M5 _ h => ?_)
        refine ml_iinc (q := 3) (v := x2 + 1) (ls2 := [(2, .int (x2 + 1)), (3, .int r2), (0, ml_rf g 11), (1, .int x1)]) F dX7_ticks_57 rfl rfl (by decide) rfl ?_
        refine ml_goto (tgt := 18) F dX7_ticks_60 (by decide) ?_
        exact ml_sub [2, 3, 0] rfl ((ih.1) _ _ _ _ h)
    · intro x1 x2 x3 M h
      replace h : fX7_ticks_s1 (fX7_ticks_l fuel) x1 x2 x3 M = some res := h
      unfold fX7_ticks_s1 at h
      refine ml_iload_n (q := 2) F dX7_ticks_70 rfl rfl ?_
      refine ml_iconst (v := 3) F dX7_ticks_71 (by decide) ?_
      refine ml_icmp_ge (tgt := 146) F dX7_ticks_72 (by decide) h (fun _ h => ?_) (fun _ h => ?_)
      · refine ml_iload_n (q := 1) F dX7_ticks_146 rfl rfl ?_
        exact ml_iret (st := []) F (Option.some.inj h) rfl rfl rfl (by decide) (by decide) dX7_ticks_147
      · refine ml_iconst (v := 0) F dX7_ticks_75 (by decide) ?_
        refine ml_istore_n (ls2 := [(3, .int 0), (0, ml_rf g 11), (1, .int x1), (2, .int x2)]) F dX7_ticks_76 rfl (by decide) rfl ?_
        exact ml_sub [1, 2, 3, 0] rfl ((ih.2.2) _ _ _ _ h)
    · intro x1 x2 x3 M h
      replace h : fX7_ticks_s2 (fX7_ticks_l fuel) x1 x2 x3 M = some res := h
      unfold fX7_ticks_s2 at h
      refine ml_iload_n (q := 3) F dX7_ticks_77 rfl rfl ?_
      refine ml_aload_n (q := 0) F dX7_ticks_78 rfl rfl ?_
      refine ml_get (v := ml_rf g 12) F (pc11 g) rfl iaX7 1 (by decide) lkX7_9 rfl rfl dX7_ticks_79 ?_
      refine ml_bipush (v := 6) F dX7_ticks_82 (by decide) ?_
      refine ml_ialdK (j := 6) F (pc12 g) (by decide) (by decide) dX7_ticks_84 ?_
      refine ml_icmp_ge (tgt := 140) F dX7_ticks_85 (by decide) h (fun _ h => ?_) (fun _ h => ?_)
      · refine ml_iinc (q := 2) (v := x2 + 1) (ls2 := [(2, .int (x2 + 1)), (0, ml_rf g 11), (1, .int x1), (3, .int x3)]) F dX7_ticks_140 rfl rfl (by decide) rfl ?_
        refine ml_goto (tgt := 70) F dX7_ticks_143 (by decide) ?_
        exact ml_sub [1, 2, 0] rfl ((ih.2.1) _ _ _ _ h)
      · refine ml_aload_n (q := 0) F dX7_ticks_88 rfl rfl ?_
        refine ml_iload_n (q := 3) F dX7_ticks_89 rfl rfl ?_
        refine ml_iconst (v := 0) F dX7_ticks_90 (by decide) ?_
        refine ml_callV (av := [.int x3, .int 0]) (T := TX7) (N := 16) F (pc11 g) rfl h (fun rs h9 => fX7_b_c x3 0 M rs hst h9) wcX7_b mlX7_61 wdX7_b (by decide) (by decide) (by decide) rfl seX7_b imX7_b rfl (Nat.le_of_ble_eq_true rfl) dX7_ticks_91 (fun r1 M2 h => ?_)
        refine ml_iload_n (q := 2) F dX7_ticks_94 rfl rfl ?_
        refine ml_jnR (P := fun B => ∀ (y3 : Int32) (y4 : Int32) (M5 : ml_M), B y3 y4 M5 = some res → ml_J E g 5 (ml_Z E g (fun r _ => some (.int r)) res 0 0) (0 + 0 + 0) (0 + 0 + 0) 134 [(0, ml_rf g 11), (1, .int y3), (2, .int x2), (3, .int y4)] ([]) M5) h ?_ (fun jn7 h => ?_)
        · intro y3 y4 M5 h
          dsimp only at h
          refine ml_iinc (q := 3) (v := y4 + 1) (ls2 := [(3, .int (y4 + 1)), (0, ml_rf g 11), (1, .int y3), (2, .int x2)]) F dX7_ticks_134 rfl rfl (by decide) rfl ?_
          refine ml_goto (tgt := 77) F dX7_ticks_137 (by decide) ?_
          exact ml_sub [1, 2, 3, 0] rfl ((ih.2.2) _ _ _ _ h)
        refine ml_icmp_eq (tgt := 101) F dX7_ticks_95 (by decide) h (fun _ h => ?_) (fun _ h => ?_)
        · refine ml_aload_n (q := 0) F dX7_ticks_101 rfl rfl ?_
          refine ml_iload_n (q := 3) F dX7_ticks_102 rfl rfl ?_
          refine ml_callV (av := [.int x3]) (T := TX7) (N := 16) F (pc11 g) rfl h (fun rs h9 => fX7_passes_c x3 M2 rs hst h9) wcX7_passes mlX7_88 wdX7_passes (by decide) (by decide) (by decide) rfl seX7_passes imX7_passes rfl (Nat.le_of_ble_eq_true rfl) dX7_ticks_103 (fun r8 M9 h => ?_)
          refine ml_istore (ls2 := [(4, .int r8), (0, ml_rf g 11), (1, .int x1), (2, .int x2), (3, .int x3)]) F dX7_ticks_106 (by decide) rfl ?_
          refine ml_iload_n (q := 2) F dX7_ticks_108 rfl rfl ?_
          refine ml_iload (q := 0) F dX7_ticks_109 rfl ?_
          refine ml_jnR (P := fun B => ∀ (y10 : Int32), B y10 = some res → ml_J E g 5 (ml_Z E g (fun r _ => some (.int r)) res 0 0) (0 + 0 + 0) (0 + 0 + 0) 119 [(0, ml_rf g 11), (1, .int x1), (2, .int x2), (3, .int x3), (4, .int r8)] (.int y10 :: .int x1 :: []) M9) h ?_ (fun jn12 h => ?_)
          · intro y10 h
            dsimp only at h
            refine ml_iadd F dX7_ticks_119 ?_
            refine ml_istore_n (ls2 := [(1, .int (x1 + y10)), (0, ml_rf g 11), (2, .int x2), (3, .int x3), (4, .int r8)]) F dX7_ticks_120 rfl (by decide) rfl ?_
            refine ml_iload_n (q := 3) F dX7_ticks_121 rfl rfl ?_
            refine ml_iload (q := 4) F dX7_ticks_122 rfl ?_
            refine ml_jnR (P := fun B => ∀ (y13 : Int32), B y13 = some res → ml_J E g 5 (ml_Z E g (fun r _ => some (.int r)) res 0 0) (0 + 0 + 0) (0 + 0 + 0) 132 [(0, ml_rf g 11), (1, .int (x1 + y10)), (2, .int x2), (3, .int x3), (4, .int r8)] (.int y13 :: .int x3 :: []) M9) h ?_ (fun jn15 h => ?_)
            · intro y13 h
              dsimp only at h
              refine ml_isub F dX7_ticks_132 ?_
              refine ml_istore_n (ls2 := [(3, .int (x3 - y13)), (0, ml_rf g 11), (1, .int (x1 + y10)), (2, .int x2), (4, .int r8)]) F dX7_ticks_133 rfl (by decide) rfl ?_
              exact ml_sub [1, 2, 3, 0] rfl (jn7 _ _ _ h)
            refine ml_if_eq (tgt := 131) F dX7_ticks_124 (by decide) h (fun _ h => ?_) (fun _ h => ?_)
            · refine ml_iconst (v := 0) F dX7_ticks_131 (by decide) ?_
              exact ml_sub [1, 0, 2, 3, 4] rfl (jn15 _ h)
            · refine ml_iconst (v := 1) F dX7_ticks_127 (by decide) ?_
              refine ml_goto (tgt := 132) F dX7_ticks_128 (by decide) ?_
              exact ml_sub [1, 0, 2, 3, 4] rfl (jn15 _ h)
          refine ml_if_eq (tgt := 118) F dX7_ticks_111 (by decide) h (fun _ h => ?_) (fun _ h => ?_)
          · refine ml_iconst (v := 0) F dX7_ticks_118 (by decide) ?_
            exact ml_sub [1, 2, 3, 4, 0] rfl (jn12 _ h)
          · refine ml_iconst (v := 1) F dX7_ticks_114 (by decide) ?_
            refine ml_goto (tgt := 119) F dX7_ticks_115 (by decide) ?_
            exact ml_sub [1, 2, 3, 4, 0] rfl (jn12 _ h)
        · refine ml_goto (tgt := 134) F dX7_ticks_98 (by decide) ?_
          exact ml_sub [0, 1, 2, 3] rfl (jn7 _ _ _ h)
set_option maxRecDepth 100000 in
def fX7_ticks (M : ml_M) : Option ml_R :=
  ml_lt (ml_w M 12 0 ((M 12 0) + 1)) (fun M1 => ml_bd (fX7_rains M1) (fun r2 M3 => fX7_ticks_l ml_fuel 0 0 0 0 M3))
set_option maxHeartbeats 4000000 in
set_option maxRecDepth 100000 in
theorem fX7_ticks_c (M : ml_M) (res : ml_R) {g : ml_G} (hst : g.2.2.2.2.2.stackTraces = false) (h : fX7_ticks M = some res) : ml_C yX7_ticks cX7_ticks 5 (some .int) 5 0 0 g (fun r _ => some (.int r)) [ml_rf g 11] M res := by
  refine ml_of [(0, ml_rf g 11)] hst (by decide) (Nat.le_of_ble_eq_true rfl) rfl (fun E F => ?_)
  unfold fX7_ticks at h
  refine ml_iconst (v := 0) F dX7_ticks_0 (by decide) ?_
  refine ml_istore_n (ls2 := [(1, .int 0), (0, ml_rf g 11)]) F dX7_ticks_1 rfl (by decide) rfl ?_
  refine ml_aload_n (q := 1) F dX7_ticks_2 rfl rfl ?_
  refine ml_get (v := ml_rf g 12) F (pc11 g) rfl iaX7 1 (by decide) lkX7_9 rfl rfl dX7_ticks_3 ?_
  refine ml_iconst (v := 0) F dX7_ticks_6 (by decide) ?_
  refine ml_dup2 F dX7_ticks_7 rfl rfl ?_
  refine ml_ialdK (j := 0) F (pc12 g) (by decide) (by decide) dX7_ticks_8 ?_
  refine ml_iconst (v := 1) F dX7_ticks_9 (by decide) ?_
  refine ml_iadd F dX7_ticks_10 ?_
  refine ml_iastK (j := 0) F (pc12 g) (by decide) (by decide) dX7_ticks_11 ?_
  refine ml_ltM h (fun M1 _ h => ?_)
  refine ml_aload_n (q := 1) F dX7_ticks_12 rfl rfl ?_
  refine ml_callV (av := []) (T := TX7) (N := 16) F (pc11 g) rfl h (fun rs h9 => fX7_rains_c M1 rs hst h9) wcX7_rains mlX7_82 wdX7_rains (by decide) (by decide) (by decide) rfl seX7_rains imX7_rains rfl (Nat.le_of_ble_eq_true rfl) dX7_ticks_13 (fun r2 M3 h => ?_)
  refine ml_iconst (v := 0) F dX7_ticks_16 (by decide) ?_
  refine ml_istore_n (ls2 := [(2, .int 0), (1, .int 0), (0, ml_rf g 11)]) F dX7_ticks_17 rfl (by decide) rfl ?_
  exact ml_sub [2, 1, 0] rfl ((fX7_ticks_w F ml_fuel).1 _ _ _ _ h)
set_option maxRecDepth 100000 in
def fX7_colourOf (a0 : Int32) (M : ml_M) : Option ml_R :=
  ml_jn (fun (y1 : Int32) => some (.inl y1, M)) (fun B2 => (if a0 = 114 then B2 0 else (if a0 = 103 then B2 1 else (if a0 = 98 then B2 2 else B2 (-1)))))
set_option maxHeartbeats 4000000 in
set_option maxRecDepth 100000 in
theorem fX7_colourOf_c (a0 : Int32) (M : ml_M) (res : ml_R) {g : ml_G} (hst : g.2.2.2.2.2.stackTraces = false) (h : fX7_colourOf a0 M = some res) : ml_C yX7_colourOf cX7_colourOf 1 (some .int) 1 0 0 g (fun r _ => some (.int r)) [.int a0] M res := by
  refine ml_of [(0, .int a0)] hst (by decide) (Nat.le_of_ble_eq_true rfl) rfl (fun E F => ?_)
  unfold fX7_colourOf at h
  refine ml_iload_n (q := 0) F dX7_colourOf_0 rfl rfl ?_
  refine ml_bipush (v := 114) F dX7_colourOf_1 (by decide) ?_
  refine ml_jnR (P := fun B => ∀ (y1 : Int32), B y1 = some res → ml_J E g 1 (ml_Z E g (fun r _ => some (.int r)) res 0 0) (0) (0) 31 [(0, .int a0)] (.int y1 :: []) M) h ?_ (fun jn3 h => ?_)
  · intro y1 h
    dsimp only at h
    exact ml_iret (st := []) F (Option.some.inj h) rfl rfl rfl (by decide) (by decide) dX7_colourOf_31
  refine ml_icmp_ne (tgt := 10) F dX7_colourOf_3 (by decide) h (fun _ h => ?_) (fun _ h => ?_)
  · refine ml_iload_n (q := 0) F dX7_colourOf_10 rfl rfl ?_
    refine ml_bipush (v := 103) F dX7_colourOf_11 (by decide) ?_
    refine ml_icmp_ne (tgt := 20) F dX7_colourOf_13 (by decide) h (fun _ h => ?_) (fun _ h => ?_)
    · refine ml_iload_n (q := 0) F dX7_colourOf_20 rfl rfl ?_
      refine ml_bipush (v := 98) F dX7_colourOf_21 (by decide) ?_
      refine ml_icmp_ne (tgt := 30) F dX7_colourOf_23 (by decide) h (fun _ h => ?_) (fun _ h => ?_)
      · refine ml_iconst (v := (-1)) F dX7_colourOf_30 (by decide) ?_
        exact ml_sub [0] rfl (jn3 _ h)
      · refine ml_iconst (v := 2) F dX7_colourOf_26 (by decide) ?_
        refine ml_goto (tgt := 31) F dX7_colourOf_27 (by decide) ?_
        exact ml_sub [0] rfl (jn3 _ h)
    · refine ml_iconst (v := 1) F dX7_colourOf_16 (by decide) ?_
      refine ml_goto (tgt := 31) F dX7_colourOf_17 (by decide) ?_
      exact ml_sub [0] rfl (jn3 _ h)
  · refine ml_iconst (v := 0) F dX7_colourOf_6 (by decide) ?_
    refine ml_goto (tgt := 31) F dX7_colourOf_7 (by decide) ?_
    exact ml_sub [0] rfl (jn3 _ h)
set_option maxRecDepth 100000 in
def fX7_signOf (a0 : Int32) (M : ml_M) : Option ml_R :=
  ml_jn (fun (y1 : Int32) => if narrow .char (.int y1) = .int y1 then some (.inl y1, M) else none) (fun B2 => (if a0 = 0 then B2 114 else (if a0 = 1 then B2 103 else B2 98)))
set_option maxHeartbeats 4000000 in
set_option maxRecDepth 100000 in
theorem fX7_signOf_c (a0 : Int32) (M : ml_M) (res : ml_R) {g : ml_G} (hst : g.2.2.2.2.2.stackTraces = false) (h : fX7_signOf a0 M = some res) : ml_C yX7_signOf cX7_signOf 1 (some .char) 1 0 0 g (fun r _ => some (.int r)) [.int a0] M res := by
  refine ml_of [(0, .int a0)] hst (by decide) (Nat.le_of_ble_eq_true rfl) rfl (fun E F => ?_)
  unfold fX7_signOf at h
  refine ml_iload_n (q := 0) F dX7_signOf_0 rfl rfl ?_
  refine ml_jnR (P := fun B => ∀ (y1 : Int32), B y1 = some res → ml_J E g 1 (ml_Z E g (fun r _ => some (.int r)) res 0 0) (0) (0) 21 [(0, .int a0)] (.int y1 :: []) M) h ?_ (fun jn3 h => ?_)
  · intro y1 h
    dsimp only at h
    obtain ⟨q4, h⟩ := ml_if h
    exact ml_iret (st := []) F (Option.some.inj h) rfl rfl q4 (by decide) (by decide) dX7_signOf_21
  refine ml_if_ne (tgt := 9) F dX7_signOf_1 (by decide) h (fun _ h => ?_) (fun _ h => ?_)
  · refine ml_iload_n (q := 0) F dX7_signOf_9 rfl rfl ?_
    refine ml_iconst (v := 1) F dX7_signOf_10 (by decide) ?_
    refine ml_icmp_ne (tgt := 19) F dX7_signOf_11 (by decide) h (fun _ h => ?_) (fun _ h => ?_)
    · refine ml_bipush (v := 98) F dX7_signOf_19 (by decide) ?_
      exact ml_sub [0] rfl (jn3 _ h)
    · refine ml_bipush (v := 103) F dX7_signOf_14 (by decide) ?_
      refine ml_goto (tgt := 21) F dX7_signOf_16 (by decide) ?_
      exact ml_sub [0] rfl (jn3 _ h)
  · refine ml_bipush (v := 114) F dX7_signOf_4 (by decide) ?_
    refine ml_goto (tgt := 21) F dX7_signOf_6 (by decide) ?_
    exact ml_sub [0] rfl (jn3 _ h)
set_option maxRecDepth 100000 in
def fX7_adds (a0 : Int32) (a1 : Int32) (a2 : Int32) (M : ml_M) : Option ml_R :=
  (if a0 < 0 then some (.inl 2, M) else ml_bd (fX7_in a1 1 9 M) (fun r1 M2 => (if r1 = 0 then some (.inl 2, M2) else (if (M2 12 6) = 8 then some (.inl 3, M2) else ml_lt (ml_w M2 12 6 ((M2 12 6) + 1)) (fun M3 => ml_bd (fX7_set (M2 12 6) 0 a0 M3) (fun r4 M5 => ml_bd (fX7_set (M2 12 6) 1 a1 M5) (fun r6 M7 => ml_bd (fX7_set (M2 12 6) 2 a2 M7) (fun r8 M9 => ml_jn (fun (y10 : Int32) => ml_bd (fX7_set (M2 12 6) 3 y10 M9) (fun r13 M14 => ml_bd (fX7_set (M2 12 6) 4 0 M14) (fun r15 M16 => ml_lt (ml_w M16 11 4 (M2 12 6)) (fun M17 => some (.inl 0, M17))))) (fun B11 => (if a2 = 1 then B11 0 else B11 4))))))))))
set_option maxHeartbeats 4000000 in
set_option maxRecDepth 100000 in
theorem fX7_adds_c (a0 : Int32) (a1 : Int32) (a2 : Int32) (M : ml_M) (res : ml_R) {g : ml_G} (hst : g.2.2.2.2.2.stackTraces = false) (h : fX7_adds a0 a1 a2 M = some res) : ml_C yX7_adds cX7_adds 5 (some .int) 2 0 0 g (fun r _ => some (.int r)) [ml_rf g 11, .int a0, .int a1, .int a2] M res := by
  refine ml_of [(0, ml_rf g 11), (1, .int a0), (2, .int a1), (3, .int a2)] hst (by decide) (Nat.le_of_ble_eq_true rfl) rfl (fun E F => ?_)
  unfold fX7_adds at h
  refine ml_iload_n (q := 1) F dX7_adds_0 rfl rfl ?_
  refine ml_if_lt (tgt := 14) F dX7_adds_1 (by decide) h (fun _ h => ?_) (fun _ h => ?_)
  · refine ml_iconst (v := 2) F dX7_adds_14 (by decide) ?_
    exact ml_iret (st := []) F (Option.some.inj h) rfl rfl rfl (by decide) (by decide) dX7_adds_15
  · refine ml_iload_n (q := 2) F dX7_adds_4 rfl rfl ?_
    refine ml_iconst (v := 1) F dX7_adds_5 (by decide) ?_
    refine ml_bipush (v := 9) F dX7_adds_6 (by decide) ?_
    refine ml_callS (av := [.int a1, .int 1, .int 9]) F h (fun rs h9 => fX7_in_c a1 1 9 M rs hst h9) wcX7_in mlX7_43 wdX7_in (by decide) (by decide) (by decide) rfl stX7_in rfl (Nat.le_of_ble_eq_true rfl) dX7_adds_8 (fun r1 M2 h => ?_)
    refine ml_if_ne (tgt := 16) F dX7_adds_11 (by decide) h (fun _ h => ?_) (fun _ h => ?_)
    · refine ml_aload_n (q := 0) F dX7_adds_16 rfl rfl ?_
      refine ml_get (v := ml_rf g 12) F (pc11 g) rfl iaX7 1 (by decide) lkX7_9 rfl rfl dX7_adds_17 ?_
      refine ml_bipush (v := 6) F dX7_adds_20 (by decide) ?_
      refine ml_ialdK (j := 6) F (pc12 g) (by decide) (by decide) dX7_adds_22 ?_
      refine ml_istore (ls2 := [(4, .int (M2 12 6)), (0, ml_rf g 11), (1, .int a0), (2, .int a1), (3, .int a2)]) F dX7_adds_23 (by decide) rfl ?_
      refine ml_iload (q := 0) F dX7_adds_25 rfl ?_
      refine ml_bipush (v := 8) F dX7_adds_27 (by decide) ?_
      refine ml_icmp_ne (tgt := 34) F dX7_adds_29 (by decide) h (fun _ h => ?_) (fun _ h => ?_)
      · refine ml_aload_n (q := 1) F dX7_adds_34 rfl rfl ?_
        refine ml_get (v := ml_rf g 12) F (pc11 g) rfl iaX7 1 (by decide) lkX7_9 rfl rfl dX7_adds_35 ?_
        refine ml_bipush (v := 6) F dX7_adds_38 (by decide) ?_
        refine ml_dup2 F dX7_adds_40 rfl rfl ?_
        refine ml_ialdK (j := 6) F (pc12 g) (by decide) (by decide) dX7_adds_41 ?_
        refine ml_iconst (v := 1) F dX7_adds_42 (by decide) ?_
        refine ml_iadd F dX7_adds_43 ?_
        refine ml_iastK (j := 6) F (pc12 g) (by decide) (by decide) dX7_adds_44 ?_
        refine ml_ltM h (fun M3 _ h => ?_)
        refine ml_aload_n (q := 1) F dX7_adds_45 rfl rfl ?_
        refine ml_iload (q := 0) F dX7_adds_46 rfl ?_
        refine ml_iconst (v := 0) F dX7_adds_48 (by decide) ?_
        refine ml_iload_n (q := 2) F dX7_adds_49 rfl rfl ?_
        refine ml_callV (av := [.int (M2 12 6), .int 0, .int a0]) (T := TX7) (N := 16) F (pc11 g) rfl h (fun rs h9 => fX7_set_c (M2 12 6) 0 a0 M3 rs hst h9) wcX7_set mlX7_64 wdX7_set (by decide) (by decide) (by decide) rfl seX7_set imX7_set rfl (Nat.le_of_ble_eq_true rfl) dX7_adds_50 (fun r4 M5 h => ?_)
        refine ml_aload_n (q := 1) F dX7_adds_53 rfl rfl ?_
        refine ml_iload (q := 0) F dX7_adds_54 rfl ?_
        refine ml_iconst (v := 1) F dX7_adds_56 (by decide) ?_
        refine ml_iload_n (q := 3) F dX7_adds_57 rfl rfl ?_
        refine ml_callV (av := [.int (M2 12 6), .int 1, .int a1]) (T := TX7) (N := 16) F (pc11 g) rfl h (fun rs h9 => fX7_set_c (M2 12 6) 1 a1 M5 rs hst h9) wcX7_set mlX7_64 wdX7_set (by decide) (by decide) (by decide) rfl seX7_set imX7_set rfl (Nat.le_of_ble_eq_true rfl) dX7_adds_58 (fun r6 M7 h => ?_)
        refine ml_aload_n (q := 1) F dX7_adds_61 rfl rfl ?_
        refine ml_iload (q := 0) F dX7_adds_62 rfl ?_
        refine ml_iconst (v := 2) F dX7_adds_64 (by decide) ?_
        refine ml_iload_n (q := 4) F dX7_adds_65 rfl rfl ?_
        refine ml_callV (av := [.int (M2 12 6), .int 2, .int a2]) (T := TX7) (N := 16) F (pc11 g) rfl h (fun rs h9 => fX7_set_c (M2 12 6) 2 a2 M7 rs hst h9) wcX7_set mlX7_64 wdX7_set (by decide) (by decide) (by decide) rfl seX7_set imX7_set rfl (Nat.le_of_ble_eq_true rfl) dX7_adds_66 (fun r8 M9 h => ?_)
        refine ml_aload_n (q := 1) F dX7_adds_69 rfl rfl ?_
        refine ml_iload (q := 0) F dX7_adds_70 rfl ?_
        refine ml_iconst (v := 3) F dX7_adds_72 (by decide) ?_
        refine ml_iload_n (q := 4) F dX7_adds_73 rfl rfl ?_
        refine ml_iconst (v := 1) F dX7_adds_74 (by decide) ?_
        refine ml_jnR (P := fun B => ∀ (y10 : Int32), B y10 = some res → ml_J E g 5 (ml_Z E g (fun r _ => some (.int r)) res 0 0) (0 + 0 + 0 + 0 + 0) (0 + 0 + 0 + 0 + 0) 83 [(0, ml_rf g 11), (1, .int a0), (2, .int a1), (3, .int a2), (4, .int (M2 12 6))] (.int y10 :: .int 3 :: .int (M2 12 6) :: ml_rf g 11 :: []) M9) h ?_ (fun jn12 h => ?_)
        · intro y10 h
          dsimp only at h
          refine ml_callV (av := [.int (M2 12 6), .int 3, .int y10]) (T := TX7) (N := 16) F (pc11 g) rfl h (fun rs h9 => fX7_set_c (M2 12 6) 3 y10 M9 rs hst h9) wcX7_set mlX7_64 wdX7_set (by decide) (by decide) (by decide) rfl seX7_set imX7_set rfl (Nat.le_of_ble_eq_true rfl) dX7_adds_83 (fun r13 M14 h => ?_)
          refine ml_aload_n (q := 0) F dX7_adds_86 rfl rfl ?_
          refine ml_iload (q := 4) F dX7_adds_87 rfl ?_
          refine ml_iconst (v := 4) F dX7_adds_89 (by decide) ?_
          refine ml_iconst (v := 0) F dX7_adds_90 (by decide) ?_
          refine ml_callV (av := [.int (M2 12 6), .int 4, .int 0]) (T := TX7) (N := 16) F (pc11 g) rfl h (fun rs h9 => fX7_set_c (M2 12 6) 4 0 M14 rs hst h9) wcX7_set mlX7_64 wdX7_set (by decide) (by decide) (by decide) rfl seX7_set imX7_set rfl (Nat.le_of_ble_eq_true rfl) dX7_adds_91 (fun r15 M16 h => ?_)
          refine ml_aload_n (q := 0) F dX7_adds_94 rfl rfl ?_
          refine ml_iload (q := 4) F dX7_adds_95 rfl ?_
          refine ml_set F (pc11 g) rfl iaX7 tyX7_ok nmX7 4 (by decide) lkX7_40 rfl rfl rfl rfl rfl (Nat.le_of_ble_eq_true rfl) (fun m => by simp [upd]) dX7_adds_97 ?_
          refine ml_ltM h (fun M17 _ h => ?_)
          refine ml_iconst (v := 0) F dX7_adds_100 (by decide) ?_
          exact ml_iret (st := []) F (Option.some.inj h) rfl rfl rfl (by decide) (by decide) dX7_adds_101
        refine ml_icmp_ne (tgt := 82) F dX7_adds_75 (by decide) h (fun _ h => ?_) (fun _ h => ?_)
        · refine ml_iconst (v := 4) F dX7_adds_82 (by decide) ?_
          exact ml_sub [1, 2, 3, 4, 0] rfl (jn12 _ h)
        · refine ml_iconst (v := 0) F dX7_adds_78 (by decide) ?_
          refine ml_goto (tgt := 83) F dX7_adds_79 (by decide) ?_
          exact ml_sub [1, 2, 3, 4, 0] rfl (jn12 _ h)
      · refine ml_iconst (v := 3) F dX7_adds_32 (by decide) ?_
        exact ml_iret (st := []) F (Option.some.inj h) rfl rfl rfl (by decide) (by decide) dX7_adds_33
    · refine ml_iconst (v := 2) F dX7_adds_14 (by decide) ?_
      exact ml_iret (st := []) F (Option.some.inj h) rfl rfl rfl (by decide) (by decide) dX7_adds_15
set_option maxRecDepth 100000 in
def fX7_addBoat (a0 : Int32) (a1 : Int32) (a2 : Int32) (M : ml_M) : Option ml_R :=
  ml_bd (fX7_begins M) (fun r1 M2 => ml_bd (fX7_colourOf a0 M2) (fun r3 M4 => ml_jn (fun (y5 : Int32) => ml_bd (fX7_adds r3 a1 y5 M4) (fun r8 M9 => ml_bd (fX7_ends r8 0 1 2 0 M9) (fun r10 M11 => some (.inl r10, M11)))) (fun B6 => (if a2 = 0 then B6 0 else B6 1))))
set_option maxHeartbeats 4000000 in
set_option maxRecDepth 100000 in
theorem fX7_addBoat_c (a0 : Int32) (a1 : Int32) (a2 : Int32) (M : ml_M) (res : ml_R) {g : ml_G} (hst : g.2.2.2.2.2.stackTraces = false) (h : fX7_addBoat a0 a1 a2 M = some res) : ml_C yX7_addBoat cX7_addBoat 4 (some .int) 3 0 0 g (fun r _ => some (.int r)) [ml_rf g 11, .int a0, .int a1, .int a2] M res := by
  refine ml_of [(0, ml_rf g 11), (1, .int a0), (2, .int a1), (3, .int a2)] hst (by decide) (Nat.le_of_ble_eq_true rfl) rfl (fun E F => ?_)
  unfold fX7_addBoat at h
  refine ml_aload_n (q := 0) F dX7_addBoat_0 rfl rfl ?_
  refine ml_callV (av := []) (T := TX7) (N := 16) F (pc11 g) rfl h (fun rs h9 => fX7_begins_c M rs hst h9) wcX7_begins mlX7_92 wdX7_begins (by decide) (by decide) (by decide) rfl seX7_begins imX7_begins rfl (Nat.le_of_ble_eq_true rfl) dX7_addBoat_1 (fun r1 M2 h => ?_)
  refine ml_aload_n (q := 0) F dX7_addBoat_4 rfl rfl ?_
  refine ml_aload_n (q := 0) F dX7_addBoat_5 rfl rfl ?_
  refine ml_iload_n (q := 1) F dX7_addBoat_6 rfl rfl ?_
  refine ml_callS (av := [.int a0]) F h (fun rs h9 => fX7_colourOf_c a0 M2 rs hst h9) wcX7_colourOf mlX7_95 wdX7_colourOf (by decide) (by decide) (by decide) rfl stX7_colourOf rfl (Nat.le_of_ble_eq_true rfl) dX7_addBoat_7 (fun r3 M4 h => ?_)
  refine ml_iload_n (q := 2) F dX7_addBoat_10 rfl rfl ?_
  refine ml_iload_n (q := 3) F dX7_addBoat_11 rfl rfl ?_
  refine ml_jnR (P := fun B => ∀ (y5 : Int32), B y5 = some res → ml_J E g 4 (ml_Z E g (fun r _ => some (.int r)) res 0 0) (0 + 0 + 0) (0 + 0 + 0) 20 [(0, ml_rf g 11), (1, .int a0), (2, .int a1), (3, .int a2)] (.int y5 :: .int a1 :: .int r3 :: ml_rf g 11 :: ml_rf g 11 :: []) M4) h ?_ (fun jn7 h => ?_)
  · intro y5 h
    dsimp only at h
    refine ml_callV (av := [.int r3, .int a1, .int y5]) (T := TX7) (N := 16) F (pc11 g) rfl h (fun rs h9 => fX7_adds_c r3 a1 y5 M4 rs hst h9) wcX7_adds mlX7_98 wdX7_adds (by decide) (by decide) (by decide) rfl seX7_adds imX7_adds rfl (Nat.le_of_ble_eq_true rfl) dX7_addBoat_20 (fun r8 M9 h => ?_)
    refine ml_iconst (v := 0) F dX7_addBoat_23 (by decide) ?_
    refine ml_iconst (v := 1) F dX7_addBoat_24 (by decide) ?_
    refine ml_iconst (v := 2) F dX7_addBoat_25 (by decide) ?_
    refine ml_iconst (v := 0) F dX7_addBoat_26 (by decide) ?_
    refine ml_callV (av := [.int r8, .int 0, .int 1, .int 2, .int 0]) (T := TX7) (N := 16) F (pc11 g) rfl h (fun rs h9 => fX7_ends_c r8 0 1 2 0 M9 rs hst h9) wcX7_ends mlX7_102 wdX7_ends (by decide) (by decide) (by decide) rfl seX7_ends imX7_ends rfl (Nat.le_of_ble_eq_true rfl) dX7_addBoat_27 (fun r10 M11 h => ?_)
    exact ml_iret (st := []) F (Option.some.inj h) rfl rfl rfl (by decide) (by decide) dX7_addBoat_30
  refine ml_if_eq (tgt := 19) F dX7_addBoat_12 (by decide) h (fun _ h => ?_) (fun _ h => ?_)
  · refine ml_iconst (v := 0) F dX7_addBoat_19 (by decide) ?_
    exact ml_sub [0, 1, 2, 3] rfl (jn7 _ h)
  · refine ml_iconst (v := 1) F dX7_addBoat_15 (by decide) ?_
    refine ml_goto (tgt := 20) F dX7_addBoat_16 (by decide) ?_
    exact ml_sub [0, 1, 2, 3] rfl (jn7 _ h)
set_option maxRecDepth 100000 in
def fX7_turns (a0 : Int32) (a1 : Int32) (M : ml_M) : Option ml_R :=
  ml_bd (fX7_isGate a0 M) (fun r1 M2 => (if r1 = 0 then some (.inl 1, M2) else ml_bd (fX7_in a1 0 3 M2) (fun r3 M4 => (if r3 = 0 then some (.inl 2, M4) else if ml_ok (16 + a0) 960 then ml_lt (ml_w M4 11 4 (M4 12 (16 + a0).toNatClampNeg)) (fun M5 => if ml_ok (16 + a0) 960 then ml_lt (ml_w M5 12 (16 + a0).toNatClampNeg a1) (fun M6 => some (.inl 0, M6)) else none) else none))))
set_option maxHeartbeats 4000000 in
set_option maxRecDepth 100000 in
theorem fX7_turns_c (a0 : Int32) (a1 : Int32) (M : ml_M) (res : ml_R) {g : ml_G} (hst : g.2.2.2.2.2.stackTraces = false) (h : fX7_turns a0 a1 M = some res) : ml_C yX7_turns cX7_turns 3 (some .int) 3 0 0 g (fun r _ => some (.int r)) [ml_rf g 11, .int a0, .int a1] M res := by
  refine ml_of [(0, ml_rf g 11), (1, .int a0), (2, .int a1)] hst (by decide) (Nat.le_of_ble_eq_true rfl) rfl (fun E F => ?_)
  unfold fX7_turns at h
  refine ml_iload_n (q := 1) F dX7_turns_0 rfl rfl ?_
  refine ml_callS (av := [.int a0]) F h (fun rs h9 => fX7_isGate_c a0 M rs hst h9) wcX7_isGate mlX7_106 wdX7_isGate (by decide) (by decide) (by decide) rfl stX7_isGate rfl (Nat.le_of_ble_eq_true rfl) dX7_turns_1 (fun r1 M2 h => ?_)
  refine ml_if_ne (tgt := 9) F dX7_turns_4 (by decide) h (fun _ h => ?_) (fun _ h => ?_)
  · refine ml_iload_n (q := 2) F dX7_turns_9 rfl rfl ?_
    refine ml_iconst (v := 0) F dX7_turns_10 (by decide) ?_
    refine ml_iconst (v := 3) F dX7_turns_11 (by decide) ?_
    refine ml_callS (av := [.int a1, .int 0, .int 3]) F h (fun rs h9 => fX7_in_c a1 0 3 M2 rs hst h9) wcX7_in mlX7_43 wdX7_in (by decide) (by decide) (by decide) rfl stX7_in rfl (Nat.le_of_ble_eq_true rfl) dX7_turns_12 (fun r3 M4 h => ?_)
    refine ml_if_ne (tgt := 20) F dX7_turns_15 (by decide) h (fun _ h => ?_) (fun _ h => ?_)
    · refine ml_aload_n (q := 0) F dX7_turns_20 rfl rfl ?_
      refine ml_aload_n (q := 0) F dX7_turns_21 rfl rfl ?_
      refine ml_get (v := ml_rf g 12) F (pc11 g) rfl iaX7 1 (by decide) lkX7_9 rfl rfl dX7_turns_22 ?_
      refine ml_bipush (v := 16) F dX7_turns_25 (by decide) ?_
      refine ml_iload_n (q := 1) F dX7_turns_27 rfl rfl ?_
      refine ml_iadd F dX7_turns_28 ?_
      refine ml_iald F (pc12 g) h dX7_turns_29 (fun h => ?_)
      refine ml_set F (pc11 g) rfl iaX7 tyX7_ok nmX7 4 (by decide) lkX7_40 rfl rfl rfl rfl rfl (Nat.le_of_ble_eq_true rfl) (fun m => by simp [upd]) dX7_turns_30 ?_
      refine ml_ltM h (fun M5 _ h => ?_)
      refine ml_aload_n (q := 0) F dX7_turns_33 rfl rfl ?_
      refine ml_get (v := ml_rf g 12) F (pc11 g) rfl iaX7 1 (by decide) lkX7_9 rfl rfl dX7_turns_34 ?_
      refine ml_bipush (v := 16) F dX7_turns_37 (by decide) ?_
      refine ml_iload_n (q := 1) F dX7_turns_39 rfl rfl ?_
      refine ml_iadd F dX7_turns_40 ?_
      refine ml_iload_n (q := 2) F dX7_turns_41 rfl rfl ?_
      refine ml_iast F (pc12 g) h dX7_turns_42 (fun h => ?_)
      refine ml_ltM h (fun M6 _ h => ?_)
      refine ml_iconst (v := 0) F dX7_turns_43 (by decide) ?_
      exact ml_iret (st := []) F (Option.some.inj h) rfl rfl rfl (by decide) (by decide) dX7_turns_44
    · refine ml_iconst (v := 2) F dX7_turns_18 (by decide) ?_
      exact ml_iret (st := []) F (Option.some.inj h) rfl rfl rfl (by decide) (by decide) dX7_turns_19
  · refine ml_iconst (v := 1) F dX7_turns_7 (by decide) ?_
    exact ml_iret (st := []) F (Option.some.inj h) rfl rfl rfl (by decide) (by decide) dX7_turns_8
set_option maxRecDepth 100000 in
def fX7_setValve (a0 : Int32) (a1 : Int32) (M : ml_M) : Option ml_R :=
  ml_bd (fX7_begins M) (fun r1 M2 => ml_bd (fX7_turns a0 a1 M2) (fun r3 M4 => ml_bd (fX7_ends r3 1 2 0 0 M4) (fun r5 M6 => some (.inl r5, M6))))
set_option maxHeartbeats 4000000 in
set_option maxRecDepth 100000 in
theorem fX7_setValve_c (a0 : Int32) (a1 : Int32) (M : ml_M) (res : ml_R) {g : ml_G} (hst : g.2.2.2.2.2.stackTraces = false) (h : fX7_setValve a0 a1 M = some res) : ml_C yX7_setValve cX7_setValve 3 (some .int) 4 0 0 g (fun r _ => some (.int r)) [ml_rf g 11, .int a0, .int a1] M res := by
  refine ml_of [(0, ml_rf g 11), (1, .int a0), (2, .int a1)] hst (by decide) (Nat.le_of_ble_eq_true rfl) rfl (fun E F => ?_)
  unfold fX7_setValve at h
  refine ml_aload_n (q := 0) F dX7_setValve_0 rfl rfl ?_
  refine ml_callV (av := []) (T := TX7) (N := 16) F (pc11 g) rfl h (fun rs h9 => fX7_begins_c M rs hst h9) wcX7_begins mlX7_92 wdX7_begins (by decide) (by decide) (by decide) rfl seX7_begins imX7_begins rfl (Nat.le_of_ble_eq_true rfl) dX7_setValve_1 (fun r1 M2 h => ?_)
  refine ml_aload_n (q := 0) F dX7_setValve_4 rfl rfl ?_
  refine ml_aload_n (q := 0) F dX7_setValve_5 rfl rfl ?_
  refine ml_iload_n (q := 1) F dX7_setValve_6 rfl rfl ?_
  refine ml_iload_n (q := 2) F dX7_setValve_7 rfl rfl ?_
  refine ml_callV (av := [.int a0, .int a1]) (T := TX7) (N := 16) F (pc11 g) rfl h (fun rs h9 => fX7_turns_c a0 a1 M2 rs hst h9) wcX7_turns mlX7_109 wdX7_turns (by decide) (by decide) (by decide) rfl seX7_turns imX7_turns rfl (Nat.le_of_ble_eq_true rfl) dX7_setValve_8 (fun r3 M4 h => ?_)
  refine ml_iconst (v := 1) F dX7_setValve_11 (by decide) ?_
  refine ml_iconst (v := 2) F dX7_setValve_12 (by decide) ?_
  refine ml_iconst (v := 0) F dX7_setValve_13 (by decide) ?_
  refine ml_iconst (v := 0) F dX7_setValve_14 (by decide) ?_
  refine ml_callV (av := [.int r3, .int 1, .int 2, .int 0, .int 0]) (T := TX7) (N := 16) F (pc11 g) rfl h (fun rs h9 => fX7_ends_c r3 1 2 0 0 M4 rs hst h9) wcX7_ends mlX7_102 wdX7_ends (by decide) (by decide) (by decide) rfl seX7_ends imX7_ends rfl (Nat.le_of_ble_eq_true rfl) dX7_setValve_15 (fun r5 M6 h => ?_)
  exact ml_iret (st := []) F (Option.some.inj h) rfl rfl rfl (by decide) (by decide) dX7_setValve_18
set_option maxRecDepth 100000 in
def fX7_openGates (M : ml_M) : Option ml_R :=
  some (.inl ((((M 12 20) + (M 12 21)) + (M 12 22)) + (M 12 23)), M)
set_option maxHeartbeats 4000000 in
set_option maxRecDepth 100000 in
theorem fX7_openGates_c (M : ml_M) (res : ml_R) {g : ml_G} (hst : g.2.2.2.2.2.stackTraces = false) (h : fX7_openGates M = some res) : ml_C yX7_openGates cX7_openGates 1 (some .int) 1 0 0 g (fun r _ => some (.int r)) [ml_rf g 11] M res := by
  refine ml_of [(0, ml_rf g 11)] hst (by decide) (Nat.le_of_ble_eq_true rfl) rfl (fun E F => ?_)
  unfold fX7_openGates at h
  refine ml_aload_n (q := 0) F dX7_openGates_0 rfl rfl ?_
  refine ml_get (v := ml_rf g 12) F (pc11 g) rfl iaX7 1 (by decide) lkX7_9 rfl rfl dX7_openGates_1 ?_
  refine ml_bipush (v := 20) F dX7_openGates_4 (by decide) ?_
  refine ml_ialdK (j := 20) F (pc12 g) (by decide) (by decide) dX7_openGates_6 ?_
  refine ml_aload_n (q := 0) F dX7_openGates_7 rfl rfl ?_
  refine ml_get (v := ml_rf g 12) F (pc11 g) rfl iaX7 1 (by decide) lkX7_9 rfl rfl dX7_openGates_8 ?_
  refine ml_bipush (v := 21) F dX7_openGates_11 (by decide) ?_
  refine ml_ialdK (j := 21) F (pc12 g) (by decide) (by decide) dX7_openGates_13 ?_
  refine ml_iadd F dX7_openGates_14 ?_
  refine ml_aload_n (q := 0) F dX7_openGates_15 rfl rfl ?_
  refine ml_get (v := ml_rf g 12) F (pc11 g) rfl iaX7 1 (by decide) lkX7_9 rfl rfl dX7_openGates_16 ?_
  refine ml_bipush (v := 22) F dX7_openGates_19 (by decide) ?_
  refine ml_ialdK (j := 22) F (pc12 g) (by decide) (by decide) dX7_openGates_21 ?_
  refine ml_iadd F dX7_openGates_22 ?_
  refine ml_aload_n (q := 0) F dX7_openGates_23 rfl rfl ?_
  refine ml_get (v := ml_rf g 12) F (pc11 g) rfl iaX7 1 (by decide) lkX7_9 rfl rfl dX7_openGates_24 ?_
  refine ml_bipush (v := 23) F dX7_openGates_27 (by decide) ?_
  refine ml_ialdK (j := 23) F (pc12 g) (by decide) (by decide) dX7_openGates_29 ?_
  refine ml_iadd F dX7_openGates_30 ?_
  exact ml_iret (st := []) F (Option.some.inj h) rfl rfl rfl (by decide) (by decide) dX7_openGates_31
set_option maxRecDepth 100000 in
def fX7_opens (a0 : Int32) (M : ml_M) : Option ml_R :=
  ml_bd (fX7_isGate a0 M) (fun r1 M2 => (if r1 = 0 then some (.inl 1, M2) else if ml_ok (20 + a0) 960 then (if (M2 12 (20 + a0).toNatClampNeg) = 1 then some (.inl 3, M2) else ml_bd (fX7_equal a0 M2) (fun r3 M4 => (if r3 = 0 then if ml_ok (20 + a0) 960 then ml_lt (ml_w M4 12 (20 + a0).toNatClampNeg 1) (fun M5 => ml_bd (fX7_openGates M5) (fun r6 M7 => ml_lt (ml_w M7 11 4 r6) (fun M8 => some (.inl 0, M8)))) else none else some (.inl 4, M4)))) else none))
set_option maxHeartbeats 4000000 in
set_option maxRecDepth 100000 in
theorem fX7_opens_c (a0 : Int32) (M : ml_M) (res : ml_R) {g : ml_G} (hst : g.2.2.2.2.2.stackTraces = false) (h : fX7_opens a0 M = some res) : ml_C yX7_opens cX7_opens 2 (some .int) 4 0 0 g (fun r _ => some (.int r)) [ml_rf g 11, .int a0] M res := by
  refine ml_of [(0, ml_rf g 11), (1, .int a0)] hst (by decide) (Nat.le_of_ble_eq_true rfl) rfl (fun E F => ?_)
  unfold fX7_opens at h
  refine ml_iload_n (q := 1) F dX7_opens_0 rfl rfl ?_
  refine ml_callS (av := [.int a0]) F h (fun rs h9 => fX7_isGate_c a0 M rs hst h9) wcX7_isGate mlX7_106 wdX7_isGate (by decide) (by decide) (by decide) rfl stX7_isGate rfl (Nat.le_of_ble_eq_true rfl) dX7_opens_1 (fun r1 M2 h => ?_)
  refine ml_if_ne (tgt := 9) F dX7_opens_4 (by decide) h (fun _ h => ?_) (fun _ h => ?_)
  · refine ml_aload_n (q := 0) F dX7_opens_9 rfl rfl ?_
    refine ml_get (v := ml_rf g 12) F (pc11 g) rfl iaX7 1 (by decide) lkX7_9 rfl rfl dX7_opens_10 ?_
    refine ml_bipush (v := 20) F dX7_opens_13 (by decide) ?_
    refine ml_iload_n (q := 1) F dX7_opens_15 rfl rfl ?_
    refine ml_iadd F dX7_opens_16 ?_
    refine ml_iald F (pc12 g) h dX7_opens_17 (fun h => ?_)
    refine ml_iconst (v := 1) F dX7_opens_18 (by decide) ?_
    refine ml_icmp_ne (tgt := 24) F dX7_opens_19 (by decide) h (fun _ h => ?_) (fun _ h => ?_)
    · refine ml_aload_n (q := 0) F dX7_opens_24 rfl rfl ?_
      refine ml_iload_n (q := 1) F dX7_opens_25 rfl rfl ?_
      refine ml_callV (av := [.int a0]) (T := TX7) (N := 16) F (pc11 g) rfl h (fun rs h9 => fX7_equal_c a0 M2 rs hst h9) wcX7_equal mlX7_55 wdX7_equal (by decide) (by decide) (by decide) rfl seX7_equal imX7_equal rfl (Nat.le_of_ble_eq_true rfl) dX7_opens_26 (fun r3 M4 h => ?_)
      refine ml_if_eq (tgt := 34) F dX7_opens_29 (by decide) h (fun _ h => ?_) (fun _ h => ?_)
      · refine ml_aload_n (q := 0) F dX7_opens_34 rfl rfl ?_
        refine ml_get (v := ml_rf g 12) F (pc11 g) rfl iaX7 1 (by decide) lkX7_9 rfl rfl dX7_opens_35 ?_
        refine ml_bipush (v := 20) F dX7_opens_38 (by decide) ?_
        refine ml_iload_n (q := 1) F dX7_opens_40 rfl rfl ?_
        refine ml_iadd F dX7_opens_41 ?_
        refine ml_iconst (v := 1) F dX7_opens_42 (by decide) ?_
        refine ml_iast F (pc12 g) h dX7_opens_43 (fun h => ?_)
        refine ml_ltM h (fun M5 _ h => ?_)
        refine ml_aload_n (q := 0) F dX7_opens_44 rfl rfl ?_
        refine ml_aload_n (q := 0) F dX7_opens_45 rfl rfl ?_
        refine ml_callV (av := []) (T := TX7) (N := 16) F (pc11 g) rfl h (fun rs h9 => fX7_openGates_c M5 rs hst h9) wcX7_openGates mlX7_112 wdX7_openGates (by decide) (by decide) (by decide) rfl seX7_openGates imX7_openGates rfl (Nat.le_of_ble_eq_true rfl) dX7_opens_46 (fun r6 M7 h => ?_)
        refine ml_set F (pc11 g) rfl iaX7 tyX7_ok nmX7 4 (by decide) lkX7_40 rfl rfl rfl rfl rfl (Nat.le_of_ble_eq_true rfl) (fun m => by simp [upd]) dX7_opens_49 ?_
        refine ml_ltM h (fun M8 _ h => ?_)
        refine ml_iconst (v := 0) F dX7_opens_52 (by decide) ?_
        exact ml_iret (st := []) F (Option.some.inj h) rfl rfl rfl (by decide) (by decide) dX7_opens_53
      · refine ml_iconst (v := 4) F dX7_opens_32 (by decide) ?_
        exact ml_iret (st := []) F (Option.some.inj h) rfl rfl rfl (by decide) (by decide) dX7_opens_33
    · refine ml_iconst (v := 3) F dX7_opens_22 (by decide) ?_
      exact ml_iret (st := []) F (Option.some.inj h) rfl rfl rfl (by decide) (by decide) dX7_opens_23
  · refine ml_iconst (v := 1) F dX7_opens_7 (by decide) ?_
    exact ml_iret (st := []) F (Option.some.inj h) rfl rfl rfl (by decide) (by decide) dX7_opens_8
set_option maxRecDepth 100000 in
def fX7_openGate (a0 : Int32) (M : ml_M) : Option ml_R :=
  ml_bd (fX7_begins M) (fun r1 M2 => ml_bd (fX7_opens a0 M2) (fun r3 M4 => ml_bd (fX7_ends r3 1 0 2 3 M4) (fun r5 M6 => some (.inl r5, M6))))
set_option maxHeartbeats 4000000 in
set_option maxRecDepth 100000 in
theorem fX7_openGate_c (a0 : Int32) (M : ml_M) (res : ml_R) {g : ml_G} (hst : g.2.2.2.2.2.stackTraces = false) (h : fX7_openGate a0 M = some res) : ml_C yX7_openGate cX7_openGate 2 (some .int) 5 0 0 g (fun r _ => some (.int r)) [ml_rf g 11, .int a0] M res := by
  refine ml_of [(0, ml_rf g 11), (1, .int a0)] hst (by decide) (Nat.le_of_ble_eq_true rfl) rfl (fun E F => ?_)
  unfold fX7_openGate at h
  refine ml_aload_n (q := 0) F dX7_openGate_0 rfl rfl ?_
  refine ml_callV (av := []) (T := TX7) (N := 16) F (pc11 g) rfl h (fun rs h9 => fX7_begins_c M rs hst h9) wcX7_begins mlX7_92 wdX7_begins (by decide) (by decide) (by decide) rfl seX7_begins imX7_begins rfl (Nat.le_of_ble_eq_true rfl) dX7_openGate_1 (fun r1 M2 h => ?_)
  refine ml_aload_n (q := 0) F dX7_openGate_4 rfl rfl ?_
  refine ml_aload_n (q := 0) F dX7_openGate_5 rfl rfl ?_
  refine ml_iload_n (q := 1) F dX7_openGate_6 rfl rfl ?_
  refine ml_callV (av := [.int a0]) (T := TX7) (N := 16) F (pc11 g) rfl h (fun rs h9 => fX7_opens_c a0 M2 rs hst h9) wcX7_opens mlX7_116 wdX7_opens (by decide) (by decide) (by decide) rfl seX7_opens imX7_opens rfl (Nat.le_of_ble_eq_true rfl) dX7_openGate_7 (fun r3 M4 h => ?_)
  refine ml_iconst (v := 1) F dX7_openGate_10 (by decide) ?_
  refine ml_iconst (v := 0) F dX7_openGate_11 (by decide) ?_
  refine ml_iconst (v := 2) F dX7_openGate_12 (by decide) ?_
  refine ml_iconst (v := 3) F dX7_openGate_13 (by decide) ?_
  refine ml_callV (av := [.int r3, .int 1, .int 0, .int 2, .int 3]) (T := TX7) (N := 16) F (pc11 g) rfl h (fun rs h9 => fX7_ends_c r3 1 0 2 3 M4 rs hst h9) wcX7_ends mlX7_102 wdX7_ends (by decide) (by decide) (by decide) rfl seX7_ends imX7_ends rfl (Nat.le_of_ble_eq_true rfl) dX7_openGate_14 (fun r5 M6 h => ?_)
  exact ml_iret (st := []) F (Option.some.inj h) rfl rfl rfl (by decide) (by decide) dX7_openGate_17
set_option maxRecDepth 100000 in
def fX7_shuts (a0 : Int32) (M : ml_M) : Option ml_R :=
  ml_bd (fX7_isGate a0 M) (fun r1 M2 => (if r1 = 0 then some (.inl 1, M2) else if ml_ok (20 + a0) 960 then (if (M2 12 (20 + a0).toNatClampNeg) = 0 then some (.inl 3, M2) else if ml_ok (20 + a0) 960 then ml_lt (ml_w M2 12 (20 + a0).toNatClampNeg 0) (fun M3 => ml_bd (fX7_openGates M3) (fun r4 M5 => ml_lt (ml_w M5 11 4 r4) (fun M6 => some (.inl 0, M6)))) else none) else none))
set_option maxHeartbeats 4000000 in
set_option maxRecDepth 100000 in
theorem fX7_shuts_c (a0 : Int32) (M : ml_M) (res : ml_R) {g : ml_G} (hst : g.2.2.2.2.2.stackTraces = false) (h : fX7_shuts a0 M = some res) : ml_C yX7_shuts cX7_shuts 2 (some .int) 3 0 0 g (fun r _ => some (.int r)) [ml_rf g 11, .int a0] M res := by
  refine ml_of [(0, ml_rf g 11), (1, .int a0)] hst (by decide) (Nat.le_of_ble_eq_true rfl) rfl (fun E F => ?_)
  unfold fX7_shuts at h
  refine ml_iload_n (q := 1) F dX7_shuts_0 rfl rfl ?_
  refine ml_callS (av := [.int a0]) F h (fun rs h9 => fX7_isGate_c a0 M rs hst h9) wcX7_isGate mlX7_106 wdX7_isGate (by decide) (by decide) (by decide) rfl stX7_isGate rfl (Nat.le_of_ble_eq_true rfl) dX7_shuts_1 (fun r1 M2 h => ?_)
  refine ml_if_ne (tgt := 9) F dX7_shuts_4 (by decide) h (fun _ h => ?_) (fun _ h => ?_)
  · refine ml_aload_n (q := 0) F dX7_shuts_9 rfl rfl ?_
    refine ml_get (v := ml_rf g 12) F (pc11 g) rfl iaX7 1 (by decide) lkX7_9 rfl rfl dX7_shuts_10 ?_
    refine ml_bipush (v := 20) F dX7_shuts_13 (by decide) ?_
    refine ml_iload_n (q := 1) F dX7_shuts_15 rfl rfl ?_
    refine ml_iadd F dX7_shuts_16 ?_
    refine ml_iald F (pc12 g) h dX7_shuts_17 (fun h => ?_)
    refine ml_if_ne (tgt := 23) F dX7_shuts_18 (by decide) h (fun _ h => ?_) (fun _ h => ?_)
    · refine ml_aload_n (q := 0) F dX7_shuts_23 rfl rfl ?_
      refine ml_get (v := ml_rf g 12) F (pc11 g) rfl iaX7 1 (by decide) lkX7_9 rfl rfl dX7_shuts_24 ?_
      refine ml_bipush (v := 20) F dX7_shuts_27 (by decide) ?_
      refine ml_iload_n (q := 1) F dX7_shuts_29 rfl rfl ?_
      refine ml_iadd F dX7_shuts_30 ?_
      refine ml_iconst (v := 0) F dX7_shuts_31 (by decide) ?_
      refine ml_iast F (pc12 g) h dX7_shuts_32 (fun h => ?_)
      refine ml_ltM h (fun M3 _ h => ?_)
      refine ml_aload_n (q := 0) F dX7_shuts_33 rfl rfl ?_
      refine ml_aload_n (q := 0) F dX7_shuts_34 rfl rfl ?_
      refine ml_callV (av := []) (T := TX7) (N := 16) F (pc11 g) rfl h (fun rs h9 => fX7_openGates_c M3 rs hst h9) wcX7_openGates mlX7_112 wdX7_openGates (by decide) (by decide) (by decide) rfl seX7_openGates imX7_openGates rfl (Nat.le_of_ble_eq_true rfl) dX7_shuts_35 (fun r4 M5 h => ?_)
      refine ml_set F (pc11 g) rfl iaX7 tyX7_ok nmX7 4 (by decide) lkX7_40 rfl rfl rfl rfl rfl (Nat.le_of_ble_eq_true rfl) (fun m => by simp [upd]) dX7_shuts_38 ?_
      refine ml_ltM h (fun M6 _ h => ?_)
      refine ml_iconst (v := 0) F dX7_shuts_41 (by decide) ?_
      exact ml_iret (st := []) F (Option.some.inj h) rfl rfl rfl (by decide) (by decide) dX7_shuts_42
    · refine ml_iconst (v := 3) F dX7_shuts_21 (by decide) ?_
      exact ml_iret (st := []) F (Option.some.inj h) rfl rfl rfl (by decide) (by decide) dX7_shuts_22
  · refine ml_iconst (v := 1) F dX7_shuts_7 (by decide) ?_
    exact ml_iret (st := []) F (Option.some.inj h) rfl rfl rfl (by decide) (by decide) dX7_shuts_8
set_option maxRecDepth 100000 in
def fX7_shutGate (a0 : Int32) (M : ml_M) : Option ml_R :=
  ml_bd (fX7_begins M) (fun r1 M2 => ml_bd (fX7_shuts a0 M2) (fun r3 M4 => ml_bd (fX7_ends r3 1 0 2 0 M4) (fun r5 M6 => some (.inl r5, M6))))
set_option maxHeartbeats 4000000 in
set_option maxRecDepth 100000 in
theorem fX7_shutGate_c (a0 : Int32) (M : ml_M) (res : ml_R) {g : ml_G} (hst : g.2.2.2.2.2.stackTraces = false) (h : fX7_shutGate a0 M = some res) : ml_C yX7_shutGate cX7_shutGate 2 (some .int) 4 0 0 g (fun r _ => some (.int r)) [ml_rf g 11, .int a0] M res := by
  refine ml_of [(0, ml_rf g 11), (1, .int a0)] hst (by decide) (Nat.le_of_ble_eq_true rfl) rfl (fun E F => ?_)
  unfold fX7_shutGate at h
  refine ml_aload_n (q := 0) F dX7_shutGate_0 rfl rfl ?_
  refine ml_callV (av := []) (T := TX7) (N := 16) F (pc11 g) rfl h (fun rs h9 => fX7_begins_c M rs hst h9) wcX7_begins mlX7_92 wdX7_begins (by decide) (by decide) (by decide) rfl seX7_begins imX7_begins rfl (Nat.le_of_ble_eq_true rfl) dX7_shutGate_1 (fun r1 M2 h => ?_)
  refine ml_aload_n (q := 0) F dX7_shutGate_4 rfl rfl ?_
  refine ml_aload_n (q := 0) F dX7_shutGate_5 rfl rfl ?_
  refine ml_iload_n (q := 1) F dX7_shutGate_6 rfl rfl ?_
  refine ml_callV (av := [.int a0]) (T := TX7) (N := 16) F (pc11 g) rfl h (fun rs h9 => fX7_shuts_c a0 M2 rs hst h9) wcX7_shuts mlX7_119 wdX7_shuts (by decide) (by decide) (by decide) rfl seX7_shuts imX7_shuts rfl (Nat.le_of_ble_eq_true rfl) dX7_shutGate_7 (fun r3 M4 h => ?_)
  refine ml_iconst (v := 1) F dX7_shutGate_10 (by decide) ?_
  refine ml_iconst (v := 0) F dX7_shutGate_11 (by decide) ?_
  refine ml_iconst (v := 2) F dX7_shutGate_12 (by decide) ?_
  refine ml_iconst (v := 0) F dX7_shutGate_13 (by decide) ?_
  refine ml_callV (av := [.int r3, .int 1, .int 0, .int 2, .int 0]) (T := TX7) (N := 16) F (pc11 g) rfl h (fun rs h9 => fX7_ends_c r3 1 0 2 0 M4 rs hst h9) wcX7_ends mlX7_102 wdX7_ends (by decide) (by decide) (by decide) rfl seX7_ends imX7_ends rfl (Nat.le_of_ble_eq_true rfl) dX7_shutGate_14 (fun r5 M6 h => ?_)
  exact ml_iret (st := []) F (Option.some.inj h) rfl rfl rfl (by decide) (by decide) dX7_shutGate_17
set_option maxRecDepth 100000 in
def fX7_weather (a0 : Int32) (a1 : Int32) (M : ml_M) : Option ml_R :=
  ml_bd (fX7_in a1 0 9 M) (fun r1 M2 => (if r1 = 0 then some (.inl 2, M2) else if ml_ok a0 960 then ml_lt (ml_w M2 11 4 (M2 12 a0.toNatClampNeg)) (fun M3 => if ml_ok a0 960 then ml_lt (ml_w M3 12 a0.toNatClampNeg a1) (fun M4 => some (.inl 0, M4)) else none) else none))
set_option maxHeartbeats 4000000 in
set_option maxRecDepth 100000 in
theorem fX7_weather_c (a0 : Int32) (a1 : Int32) (M : ml_M) (res : ml_R) {g : ml_G} (hst : g.2.2.2.2.2.stackTraces = false) (h : fX7_weather a0 a1 M = some res) : ml_C yX7_weather cX7_weather 3 (some .int) 2 0 0 g (fun r _ => some (.int r)) [ml_rf g 11, .int a0, .int a1] M res := by
  refine ml_of [(0, ml_rf g 11), (1, .int a0), (2, .int a1)] hst (by decide) (Nat.le_of_ble_eq_true rfl) rfl (fun E F => ?_)
  unfold fX7_weather at h
  refine ml_iload_n (q := 2) F dX7_weather_0 rfl rfl ?_
  refine ml_iconst (v := 0) F dX7_weather_1 (by decide) ?_
  refine ml_bipush (v := 9) F dX7_weather_2 (by decide) ?_
  refine ml_callS (av := [.int a1, .int 0, .int 9]) F h (fun rs h9 => fX7_in_c a1 0 9 M rs hst h9) wcX7_in mlX7_43 wdX7_in (by decide) (by decide) (by decide) rfl stX7_in rfl (Nat.le_of_ble_eq_true rfl) dX7_weather_4 (fun r1 M2 h => ?_)
  refine ml_if_ne (tgt := 12) F dX7_weather_7 (by decide) h (fun _ h => ?_) (fun _ h => ?_)
  · refine ml_aload_n (q := 0) F dX7_weather_12 rfl rfl ?_
    refine ml_aload_n (q := 0) F dX7_weather_13 rfl rfl ?_
    refine ml_get (v := ml_rf g 12) F (pc11 g) rfl iaX7 1 (by decide) lkX7_9 rfl rfl dX7_weather_14 ?_
    refine ml_iload_n (q := 1) F dX7_weather_17 rfl rfl ?_
    refine ml_iald F (pc12 g) h dX7_weather_18 (fun h => ?_)
    refine ml_set F (pc11 g) rfl iaX7 tyX7_ok nmX7 4 (by decide) lkX7_40 rfl rfl rfl rfl rfl (Nat.le_of_ble_eq_true rfl) (fun m => by simp [upd]) dX7_weather_19 ?_
    refine ml_ltM h (fun M3 _ h => ?_)
    refine ml_aload_n (q := 0) F dX7_weather_22 rfl rfl ?_
    refine ml_get (v := ml_rf g 12) F (pc11 g) rfl iaX7 1 (by decide) lkX7_9 rfl rfl dX7_weather_23 ?_
    refine ml_iload_n (q := 1) F dX7_weather_26 rfl rfl ?_
    refine ml_iload_n (q := 2) F dX7_weather_27 rfl rfl ?_
    refine ml_iast F (pc12 g) h dX7_weather_28 (fun h => ?_)
    refine ml_ltM h (fun M4 _ h => ?_)
    refine ml_iconst (v := 0) F dX7_weather_29 (by decide) ?_
    exact ml_iret (st := []) F (Option.some.inj h) rfl rfl rfl (by decide) (by decide) dX7_weather_30
  · refine ml_iconst (v := 2) F dX7_weather_10 (by decide) ?_
    exact ml_iret (st := []) F (Option.some.inj h) rfl rfl rfl (by decide) (by decide) dX7_weather_11
set_option maxRecDepth 100000 in
def fX7_setRain (a0 : Int32) (M : ml_M) : Option ml_R :=
  ml_bd (fX7_begins M) (fun r1 M2 => ml_bd (fX7_weather 1 a0 M2) (fun r3 M4 => ml_bd (fX7_ends r3 0 1 0 0 M4) (fun r5 M6 => some (.inl r5, M6))))
set_option maxHeartbeats 4000000 in
set_option maxRecDepth 100000 in
theorem fX7_setRain_c (a0 : Int32) (M : ml_M) (res : ml_R) {g : ml_G} (hst : g.2.2.2.2.2.stackTraces = false) (h : fX7_setRain a0 M = some res) : ml_C yX7_setRain cX7_setRain 2 (some .int) 3 0 0 g (fun r _ => some (.int r)) [ml_rf g 11, .int a0] M res := by
  refine ml_of [(0, ml_rf g 11), (1, .int a0)] hst (by decide) (Nat.le_of_ble_eq_true rfl) rfl (fun E F => ?_)
  unfold fX7_setRain at h
  refine ml_aload_n (q := 0) F dX7_setRain_0 rfl rfl ?_
  refine ml_callV (av := []) (T := TX7) (N := 16) F (pc11 g) rfl h (fun rs h9 => fX7_begins_c M rs hst h9) wcX7_begins mlX7_92 wdX7_begins (by decide) (by decide) (by decide) rfl seX7_begins imX7_begins rfl (Nat.le_of_ble_eq_true rfl) dX7_setRain_1 (fun r1 M2 h => ?_)
  refine ml_aload_n (q := 0) F dX7_setRain_4 rfl rfl ?_
  refine ml_aload_n (q := 0) F dX7_setRain_5 rfl rfl ?_
  refine ml_iconst (v := 1) F dX7_setRain_6 (by decide) ?_
  refine ml_iload_n (q := 1) F dX7_setRain_7 rfl rfl ?_
  refine ml_callV (av := [.int 1, .int a0]) (T := TX7) (N := 16) F (pc11 g) rfl h (fun rs h9 => fX7_weather_c 1 a0 M2 rs hst h9) wcX7_weather mlX7_122 wdX7_weather (by decide) (by decide) (by decide) rfl seX7_weather imX7_weather rfl (Nat.le_of_ble_eq_true rfl) dX7_setRain_8 (fun r3 M4 h => ?_)
  refine ml_iconst (v := 0) F dX7_setRain_11 (by decide) ?_
  refine ml_iconst (v := 1) F dX7_setRain_12 (by decide) ?_
  refine ml_iconst (v := 0) F dX7_setRain_13 (by decide) ?_
  refine ml_iconst (v := 0) F dX7_setRain_14 (by decide) ?_
  refine ml_callV (av := [.int r3, .int 0, .int 1, .int 0, .int 0]) (T := TX7) (N := 16) F (pc11 g) rfl h (fun rs h9 => fX7_ends_c r3 0 1 0 0 M4 rs hst h9) wcX7_ends mlX7_102 wdX7_ends (by decide) (by decide) (by decide) rfl seX7_ends imX7_ends rfl (Nat.le_of_ble_eq_true rfl) dX7_setRain_15 (fun r5 M6 h => ?_)
  exact ml_iret (st := []) F (Option.some.inj h) rfl rfl rfl (by decide) (by decide) dX7_setRain_18
set_option maxRecDepth 100000 in
def fX7_setDrain (a0 : Int32) (M : ml_M) : Option ml_R :=
  ml_bd (fX7_begins M) (fun r1 M2 => ml_bd (fX7_weather 2 a0 M2) (fun r3 M4 => ml_bd (fX7_ends r3 0 1 0 0 M4) (fun r5 M6 => some (.inl r5, M6))))
set_option maxHeartbeats 4000000 in
set_option maxRecDepth 100000 in
theorem fX7_setDrain_c (a0 : Int32) (M : ml_M) (res : ml_R) {g : ml_G} (hst : g.2.2.2.2.2.stackTraces = false) (h : fX7_setDrain a0 M = some res) : ml_C yX7_setDrain cX7_setDrain 2 (some .int) 3 0 0 g (fun r _ => some (.int r)) [ml_rf g 11, .int a0] M res := by
  refine ml_of [(0, ml_rf g 11), (1, .int a0)] hst (by decide) (Nat.le_of_ble_eq_true rfl) rfl (fun E F => ?_)
  unfold fX7_setDrain at h
  refine ml_aload_n (q := 0) F dX7_setDrain_0 rfl rfl ?_
  refine ml_callV (av := []) (T := TX7) (N := 16) F (pc11 g) rfl h (fun rs h9 => fX7_begins_c M rs hst h9) wcX7_begins mlX7_92 wdX7_begins (by decide) (by decide) (by decide) rfl seX7_begins imX7_begins rfl (Nat.le_of_ble_eq_true rfl) dX7_setDrain_1 (fun r1 M2 h => ?_)
  refine ml_aload_n (q := 0) F dX7_setDrain_4 rfl rfl ?_
  refine ml_aload_n (q := 0) F dX7_setDrain_5 rfl rfl ?_
  refine ml_iconst (v := 2) F dX7_setDrain_6 (by decide) ?_
  refine ml_iload_n (q := 1) F dX7_setDrain_7 rfl rfl ?_
  refine ml_callV (av := [.int 2, .int a0]) (T := TX7) (N := 16) F (pc11 g) rfl h (fun rs h9 => fX7_weather_c 2 a0 M2 rs hst h9) wcX7_weather mlX7_122 wdX7_weather (by decide) (by decide) (by decide) rfl seX7_weather imX7_weather rfl (Nat.le_of_ble_eq_true rfl) dX7_setDrain_8 (fun r3 M4 h => ?_)
  refine ml_iconst (v := 0) F dX7_setDrain_11 (by decide) ?_
  refine ml_iconst (v := 1) F dX7_setDrain_12 (by decide) ?_
  refine ml_iconst (v := 0) F dX7_setDrain_13 (by decide) ?_
  refine ml_iconst (v := 0) F dX7_setDrain_14 (by decide) ?_
  refine ml_callV (av := [.int r3, .int 0, .int 1, .int 0, .int 0]) (T := TX7) (N := 16) F (pc11 g) rfl h (fun rs h9 => fX7_ends_c r3 0 1 0 0 M4 rs hst h9) wcX7_ends mlX7_102 wdX7_ends (by decide) (by decide) (by decide) rfl seX7_ends imX7_ends rfl (Nat.le_of_ble_eq_true rfl) dX7_setDrain_15 (fun r5 M6 h => ?_)
  exact ml_iret (st := []) F (Option.some.inj h) rfl rfl rfl (by decide) (by decide) dX7_setDrain_18
set_option maxRecDepth 100000 in
def fX7_waits_s0 (a0 : Int32) (rec : Int32 → Int32 → ml_M → Option ml_R) (x1 x2 : Int32) (M : ml_M) : Option ml_R :=
  (if x1 ≤ x2 then some (.inl 0, M) else ml_bd (fX7_ticks M) (fun r1 M2 => ml_lt (ml_w M2 11 4 ((M 11 4) + r1)) (fun M3 => rec x1 (x2 + 1) M3)))
def fX7_waits_l (a0 : Int32) : Nat → Int32 → Int32 → ml_M → Option ml_R
  | 0 => fun _ _ _ => none
  | n + 1 => fX7_waits_s0 a0 (fX7_waits_l a0 n)
set_option maxHeartbeats 4000000 in
set_option maxRecDepth 100000 in
theorem fX7_waits_w (a0 : Int32) {E : ml_E} {g : ml_G} {res : ml_R} (F : ml_F E g cX7_waits yX7_waits.cls 3 6 0 0 (some .int) []) : ∀ fuel : Nat, ∀ (x1 x2 : Int32) (M : ml_M), fX7_waits_l a0 fuel x1 x2 M = some res → ml_J E g 3 (ml_Z E g (fun r _ => some (.int r)) res 0 0) 0 0 20 [(0, ml_rf g 11), (1, .int x1), (2, .int x2)] [] M := by
  have hst := ml_F_st F
  intro fuel
  induction fuel with
  | zero => intro _ _ _ h; exact nomatch (show (none : Option ml_R) = some res from h)
  | succ fuel ih =>
    intro x1 x2 M h
    replace h : fX7_waits_s0 a0 (fX7_waits_l a0 fuel) x1 x2 M = some res := h
    unfold fX7_waits_s0 at h
    refine ml_iload_n (q := 2) F dX7_waits_20 rfl rfl ?_
    refine ml_iload_n (q := 1) F dX7_waits_21 rfl rfl ?_
    refine ml_icmp_ge (tgt := 44) F dX7_waits_22 (by decide) h (fun _ h => ?_) (fun _ h => ?_)
    · refine ml_iconst (v := 0) F dX7_waits_44 (by decide) ?_
      exact ml_iret (st := []) F (Option.some.inj h) rfl rfl rfl (by decide) (by decide) dX7_waits_45
    · refine ml_aload_n (q := 0) F dX7_waits_25 rfl rfl ?_
      refine ml_dup F dX7_waits_26 rfl ?_
      refine ml_get (v := .int (M 11 4)) F (pc11 g) rfl iaX7 4 (by decide) lkX7_40 rfl rfl dX7_waits_27 ?_
      refine ml_aload_n (q := 0) F dX7_waits_30 rfl rfl ?_
      refine ml_callV (av := []) (T := TX7) (N := 16) F (pc11 g) rfl h (fun rs h9 => fX7_ticks_c M rs hst h9) wcX7_ticks mlX7_125 wdX7_ticks (by decide) (by decide) (by decide) rfl seX7_ticks imX7_ticks rfl (Nat.le_of_ble_eq_true rfl) dX7_waits_31 (fun r1 M2 h => ?_)
      refine ml_iadd F dX7_waits_34 ?_
      refine ml_set F (pc11 g) rfl iaX7 tyX7_ok nmX7 4 (by decide) lkX7_40 rfl rfl rfl rfl rfl (Nat.le_of_ble_eq_true rfl) (fun m => by simp [upd]) dX7_waits_35 ?_
      refine ml_ltM h (fun M3 _ h => ?_)
      refine ml_iinc (q := 2) (v := x2 + 1) (ls2 := [(2, .int (x2 + 1)), (0, ml_rf g 11), (1, .int x1)]) F dX7_waits_38 rfl rfl (by decide) rfl ?_
      refine ml_goto (tgt := 20) F dX7_waits_41 (by decide) ?_
      exact ml_sub [1, 2, 0] rfl (ih _ _ _ h)
set_option maxRecDepth 100000 in
def fX7_waits (a0 : Int32) (M : ml_M) : Option ml_R :=
  ml_bd (fX7_in a0 1 200 M) (fun r1 M2 => (if r1 = 0 then some (.inl 2, M2) else ml_lt (ml_w M2 11 4 0) (fun M3 => fX7_waits_l a0 ml_fuel a0 0 M3)))
set_option maxHeartbeats 4000000 in
set_option maxRecDepth 100000 in
theorem fX7_waits_c (a0 : Int32) (M : ml_M) (res : ml_R) {g : ml_G} (hst : g.2.2.2.2.2.stackTraces = false) (h : fX7_waits a0 M = some res) : ml_C yX7_waits cX7_waits 3 (some .int) 6 0 0 g (fun r _ => some (.int r)) [ml_rf g 11, .int a0] M res := by
  refine ml_of [(0, ml_rf g 11), (1, .int a0)] hst (by decide) (Nat.le_of_ble_eq_true rfl) rfl (fun E F => ?_)
  unfold fX7_waits at h
  refine ml_iload_n (q := 1) F dX7_waits_0 rfl rfl ?_
  refine ml_iconst (v := 1) F dX7_waits_1 (by decide) ?_
  refine ml_sipush (v := 200) F dX7_waits_2 (by decide) ?_
  refine ml_callS (av := [.int a0, .int 1, .int 200]) F h (fun rs h9 => fX7_in_c a0 1 200 M rs hst h9) wcX7_in mlX7_43 wdX7_in (by decide) (by decide) (by decide) rfl stX7_in rfl (Nat.le_of_ble_eq_true rfl) dX7_waits_5 (fun r1 M2 h => ?_)
  refine ml_if_ne (tgt := 13) F dX7_waits_8 (by decide) h (fun _ h => ?_) (fun _ h => ?_)
  · refine ml_aload_n (q := 0) F dX7_waits_13 rfl rfl ?_
    refine ml_iconst (v := 0) F dX7_waits_14 (by decide) ?_
    refine ml_set F (pc11 g) rfl iaX7 tyX7_ok nmX7 4 (by decide) lkX7_40 rfl rfl rfl rfl rfl (Nat.le_of_ble_eq_true rfl) (fun m => by simp [upd]) dX7_waits_15 ?_
    refine ml_ltM h (fun M3 _ h => ?_)
    refine ml_iconst (v := 0) F dX7_waits_18 (by decide) ?_
    refine ml_istore_n (ls2 := [(2, .int 0), (0, ml_rf g 11), (1, .int a0)]) F dX7_waits_19 rfl (by decide) rfl ?_
    exact ml_sub [1, 2, 0] rfl ((fX7_waits_w a0 F ml_fuel) _ _ _ h)
  · refine ml_iconst (v := 2) F dX7_waits_11 (by decide) ?_
    exact ml_iret (st := []) F (Option.some.inj h) rfl rfl rfl (by decide) (by decide) dX7_waits_12
set_option maxRecDepth 100000 in
def fX7_advance (a0 : Int32) (M : ml_M) : Option ml_R :=
  ml_bd (fX7_begins M) (fun r1 M2 => ml_bd (fX7_waits a0 M2) (fun r3 M4 => ml_bd (fX7_ends r3 0 1 0 0 M4) (fun r5 M6 => some (.inl r5, M6))))
set_option maxHeartbeats 4000000 in
set_option maxRecDepth 100000 in
theorem fX7_advance_c (a0 : Int32) (M : ml_M) (res : ml_R) {g : ml_G} (hst : g.2.2.2.2.2.stackTraces = false) (h : fX7_advance a0 M = some res) : ml_C yX7_advance cX7_advance 2 (some .int) 7 0 0 g (fun r _ => some (.int r)) [ml_rf g 11, .int a0] M res := by
  refine ml_of [(0, ml_rf g 11), (1, .int a0)] hst (by decide) (Nat.le_of_ble_eq_true rfl) rfl (fun E F => ?_)
  unfold fX7_advance at h
  refine ml_aload_n (q := 0) F dX7_advance_0 rfl rfl ?_
  refine ml_callV (av := []) (T := TX7) (N := 16) F (pc11 g) rfl h (fun rs h9 => fX7_begins_c M rs hst h9) wcX7_begins mlX7_92 wdX7_begins (by decide) (by decide) (by decide) rfl seX7_begins imX7_begins rfl (Nat.le_of_ble_eq_true rfl) dX7_advance_1 (fun r1 M2 h => ?_)
  refine ml_aload_n (q := 0) F dX7_advance_4 rfl rfl ?_
  refine ml_aload_n (q := 0) F dX7_advance_5 rfl rfl ?_
  refine ml_iload_n (q := 1) F dX7_advance_6 rfl rfl ?_
  refine ml_callV (av := [.int a0]) (T := TX7) (N := 16) F (pc11 g) rfl h (fun rs h9 => fX7_waits_c a0 M2 rs hst h9) wcX7_waits mlX7_128 wdX7_waits (by decide) (by decide) (by decide) rfl seX7_waits imX7_waits rfl (Nat.le_of_ble_eq_true rfl) dX7_advance_7 (fun r3 M4 h => ?_)
  refine ml_iconst (v := 0) F dX7_advance_10 (by decide) ?_
  refine ml_iconst (v := 1) F dX7_advance_11 (by decide) ?_
  refine ml_iconst (v := 0) F dX7_advance_12 (by decide) ?_
  refine ml_iconst (v := 0) F dX7_advance_13 (by decide) ?_
  refine ml_callV (av := [.int r3, .int 0, .int 1, .int 0, .int 0]) (T := TX7) (N := 16) F (pc11 g) rfl h (fun rs h9 => fX7_ends_c r3 0 1 0 0 M4 rs hst h9) wcX7_ends mlX7_102 wdX7_ends (by decide) (by decide) (by decide) rfl seX7_ends imX7_ends rfl (Nat.le_of_ble_eq_true rfl) dX7_advance_14 (fun r5 M6 h => ?_)
  exact ml_iret (st := []) F (Option.some.inj h) rfl rfl rfl (by decide) (by decide) dX7_advance_17
set_option maxRecDepth 100000 in
def fX7_area (a0 : Int32) (M : ml_M) : Option ml_R :=
  ml_bd (fX7_isBasin a0 M) (fun r1 M2 => ml_bd (fX7_isFine r1 M2) (fun r3 M4 => ml_jn (fun (y5 : Int32) (M6 : ml_M) => some (.inl y5, M6)) (fun B7 => (if r3 = 0 then B7 0 M4 else ml_bd (fX7_size a0 M4) (fun r9 M10 => B7 r9 M10)))))
set_option maxHeartbeats 4000000 in
set_option maxRecDepth 100000 in
theorem fX7_area_c (a0 : Int32) (M : ml_M) (res : ml_R) {g : ml_G} (hst : g.2.2.2.2.2.stackTraces = false) (h : fX7_area a0 M = some res) : ml_C yX7_area cX7_area 2 (some .int) 3 0 0 g (fun r _ => some (.int r)) [ml_rf g 11, .int a0] M res := by
  refine ml_of [(0, ml_rf g 11), (1, .int a0)] hst (by decide) (Nat.le_of_ble_eq_true rfl) rfl (fun E F => ?_)
  unfold fX7_area at h
  refine ml_aload_n (q := 0) F dX7_area_0 rfl rfl ?_
  refine ml_iload_n (q := 1) F dX7_area_1 rfl rfl ?_
  refine ml_callS (av := [.int a0]) F h (fun rs h9 => fX7_isBasin_c a0 M rs hst h9) wcX7_isBasin mlX7_131 wdX7_isBasin (by decide) (by decide) (by decide) rfl stX7_isBasin rfl (Nat.le_of_ble_eq_true rfl) dX7_area_2 (fun r1 M2 h => ?_)
  refine ml_callV (av := [.int r1]) (T := TX7) (N := 16) F (pc11 g) rfl h (fun rs h9 => fX7_isFine_c r1 M2 rs hst h9) wcX7_isFine mlX7_134 wdX7_isFine (by decide) (by decide) (by decide) rfl seX7_isFine imX7_isFine rfl (Nat.le_of_ble_eq_true rfl) dX7_area_5 (fun r3 M4 h => ?_)
  refine ml_jnR (P := fun B => ∀ (y5 : Int32) (M6 : ml_M), B y5 M6 = some res → ml_J E g 2 (ml_Z E g (fun r _ => some (.int r)) res 0 0) (0 + 0 + 0) (0 + 0 + 0) 19 [(0, ml_rf g 11), (1, .int a0)] (.int y5 :: []) M6) h ?_ (fun jn8 h => ?_)
  · intro y5 M6 h
    dsimp only at h
    exact ml_iret (st := []) F (Option.some.inj h) rfl rfl rfl (by decide) (by decide) dX7_area_19
  refine ml_if_eq (tgt := 18) F dX7_area_8 (by decide) h (fun _ h => ?_) (fun _ h => ?_)
  · refine ml_iconst (v := 0) F dX7_area_18 (by decide) ?_
    exact ml_sub [0, 1] rfl (jn8 _ _ h)
  · refine ml_iload_n (q := 1) F dX7_area_11 rfl rfl ?_
    refine ml_callS (av := [.int a0]) F h (fun rs h9 => fX7_size_c a0 M4 rs hst h9) wcX7_size mlX7_47 wdX7_size (by decide) (by decide) (by decide) rfl stX7_size rfl (Nat.le_of_ble_eq_true rfl) dX7_area_12 (fun r9 M10 h => ?_)
    refine ml_goto (tgt := 19) F dX7_area_15 (by decide) ?_
    exact ml_sub [0, 1] rfl (jn8 _ _ h)
set_option maxRecDepth 100000 in
def fX7_volume (a0 : Int32) (M : ml_M) : Option ml_R :=
  ml_bd (fX7_isBasin a0 M) (fun r1 M2 => ml_bd (fX7_isFine r1 M2) (fun r3 M4 => ml_jn (fun (y5 : Int32) => some (.inl y5, M4)) (fun B6 => (if r3 = 0 then B6 0 else if ml_ok (11 + a0) 960 then B6 (M4 12 (11 + a0).toNatClampNeg) else none))))
set_option maxHeartbeats 4000000 in
set_option maxRecDepth 100000 in
theorem fX7_volume_c (a0 : Int32) (M : ml_M) (res : ml_R) {g : ml_G} (hst : g.2.2.2.2.2.stackTraces = false) (h : fX7_volume a0 M = some res) : ml_C yX7_volume cX7_volume 2 (some .int) 3 0 0 g (fun r _ => some (.int r)) [ml_rf g 11, .int a0] M res := by
  refine ml_of [(0, ml_rf g 11), (1, .int a0)] hst (by decide) (Nat.le_of_ble_eq_true rfl) rfl (fun E F => ?_)
  unfold fX7_volume at h
  refine ml_aload_n (q := 0) F dX7_volume_0 rfl rfl ?_
  refine ml_iload_n (q := 1) F dX7_volume_1 rfl rfl ?_
  refine ml_callS (av := [.int a0]) F h (fun rs h9 => fX7_isBasin_c a0 M rs hst h9) wcX7_isBasin mlX7_131 wdX7_isBasin (by decide) (by decide) (by decide) rfl stX7_isBasin rfl (Nat.le_of_ble_eq_true rfl) dX7_volume_2 (fun r1 M2 h => ?_)
  refine ml_callV (av := [.int r1]) (T := TX7) (N := 16) F (pc11 g) rfl h (fun rs h9 => fX7_isFine_c r1 M2 rs hst h9) wcX7_isFine mlX7_134 wdX7_isFine (by decide) (by decide) (by decide) rfl seX7_isFine imX7_isFine rfl (Nat.le_of_ble_eq_true rfl) dX7_volume_5 (fun r3 M4 h => ?_)
  refine ml_jnR (P := fun B => ∀ (y5 : Int32), B y5 = some res → ml_J E g 2 (ml_Z E g (fun r _ => some (.int r)) res 0 0) (0 + 0 + 0) (0 + 0 + 0) 24 [(0, ml_rf g 11), (1, .int a0)] (.int y5 :: []) M4) h ?_ (fun jn7 h => ?_)
  · intro y5 h
    dsimp only at h
    exact ml_iret (st := []) F (Option.some.inj h) rfl rfl rfl (by decide) (by decide) dX7_volume_24
  refine ml_if_eq (tgt := 23) F dX7_volume_8 (by decide) h (fun _ h => ?_) (fun _ h => ?_)
  · refine ml_iconst (v := 0) F dX7_volume_23 (by decide) ?_
    exact ml_sub [0, 1] rfl (jn7 _ h)
  · refine ml_aload_n (q := 0) F dX7_volume_11 rfl rfl ?_
    refine ml_get (v := ml_rf g 12) F (pc11 g) rfl iaX7 1 (by decide) lkX7_9 rfl rfl dX7_volume_12 ?_
    refine ml_bipush (v := 11) F dX7_volume_15 (by decide) ?_
    refine ml_iload_n (q := 1) F dX7_volume_17 rfl rfl ?_
    refine ml_iadd F dX7_volume_18 ?_
    refine ml_iald F (pc12 g) h dX7_volume_19 (fun h => ?_)
    refine ml_goto (tgt := 24) F dX7_volume_20 (by decide) ?_
    exact ml_sub [0, 1] rfl (jn7 _ h)
set_option maxRecDepth 100000 in
def fX7_level (a0 : Int32) (M : ml_M) : Option ml_R :=
  ml_bd (fX7_isBasin a0 M) (fun r1 M2 => ml_bd (fX7_isFine r1 M2) (fun r3 M4 => ml_jn (fun (y5 : Int32) (M6 : ml_M) => some (.inl y5, M6)) (fun B7 => (if r3 = 0 then B7 0 M4 else if ml_ok (11 + a0) 960 then ml_bd (fX7_size a0 M4) (fun r9 M10 => if ¬ (r9 = 0) then B7 ((M4 12 (11 + a0).toNatClampNeg) / r9) M10 else none) else none))))
set_option maxHeartbeats 4000000 in
set_option maxRecDepth 100000 in
theorem fX7_level_c (a0 : Int32) (M : ml_M) (res : ml_R) {g : ml_G} (hst : g.2.2.2.2.2.stackTraces = false) (h : fX7_level a0 M = some res) : ml_C yX7_level cX7_level 2 (some .int) 3 0 0 g (fun r _ => some (.int r)) [ml_rf g 11, .int a0] M res := by
  refine ml_of [(0, ml_rf g 11), (1, .int a0)] hst (by decide) (Nat.le_of_ble_eq_true rfl) rfl (fun E F => ?_)
  unfold fX7_level at h
  refine ml_aload_n (q := 0) F dX7_level_0 rfl rfl ?_
  refine ml_iload_n (q := 1) F dX7_level_1 rfl rfl ?_
  refine ml_callS (av := [.int a0]) F h (fun rs h9 => fX7_isBasin_c a0 M rs hst h9) wcX7_isBasin mlX7_131 wdX7_isBasin (by decide) (by decide) (by decide) rfl stX7_isBasin rfl (Nat.le_of_ble_eq_true rfl) dX7_level_2 (fun r1 M2 h => ?_)
  refine ml_callV (av := [.int r1]) (T := TX7) (N := 16) F (pc11 g) rfl h (fun rs h9 => fX7_isFine_c r1 M2 rs hst h9) wcX7_isFine mlX7_134 wdX7_isFine (by decide) (by decide) (by decide) rfl seX7_isFine imX7_isFine rfl (Nat.le_of_ble_eq_true rfl) dX7_level_5 (fun r3 M4 h => ?_)
  refine ml_jnR (P := fun B => ∀ (y5 : Int32) (M6 : ml_M), B y5 M6 = some res → ml_J E g 2 (ml_Z E g (fun r _ => some (.int r)) res 0 0) (0 + 0 + 0) (0 + 0 + 0) 29 [(0, ml_rf g 11), (1, .int a0)] (.int y5 :: []) M6) h ?_ (fun jn8 h => ?_)
  · intro y5 M6 h
    dsimp only at h
    exact ml_iret (st := []) F (Option.some.inj h) rfl rfl rfl (by decide) (by decide) dX7_level_29
  refine ml_if_eq (tgt := 28) F dX7_level_8 (by decide) h (fun _ h => ?_) (fun _ h => ?_)
  · refine ml_iconst (v := 0) F dX7_level_28 (by decide) ?_
    exact ml_sub [0, 1] rfl (jn8 _ _ h)
  · refine ml_aload_n (q := 0) F dX7_level_11 rfl rfl ?_
    refine ml_get (v := ml_rf g 12) F (pc11 g) rfl iaX7 1 (by decide) lkX7_9 rfl rfl dX7_level_12 ?_
    refine ml_bipush (v := 11) F dX7_level_15 (by decide) ?_
    refine ml_iload_n (q := 1) F dX7_level_17 rfl rfl ?_
    refine ml_iadd F dX7_level_18 ?_
    refine ml_iald F (pc12 g) h dX7_level_19 (fun h => ?_)
    refine ml_iload_n (q := 1) F dX7_level_20 rfl rfl ?_
    refine ml_callS (av := [.int a0]) F h (fun rs h9 => fX7_size_c a0 M4 rs hst h9) wcX7_size mlX7_47 wdX7_size (by decide) (by decide) (by decide) rfl stX7_size rfl (Nat.le_of_ble_eq_true rfl) dX7_level_21 (fun r9 M10 h => ?_)
    obtain ⟨q11, h⟩ := ml_if h
    refine ml_idiv F dX7_level_24 q11 ?_
    refine ml_goto (tgt := 29) F dX7_level_25 (by decide) ?_
    exact ml_sub [0, 1] rfl (jn8 _ _ h)
set_option maxRecDepth 100000 in
def fX7_exactLevel (a0 : Int32) (M : ml_M) : Option ml_R :=
  ml_bd (fX7_isBasin a0 M) (fun r1 M2 => ml_bd (fX7_isFine r1 M2) (fun r3 M4 => (if r3 = 0 then some (.inl 0, (ml_w (ml_w M4 200 0 0) 200 1 1)) else if ml_ok (11 + a0) 960 then ml_bd (fX7_size a0 M4) (fun r5 M6 => if (FP.ddiv (FP.i2d (M4 12 (11 + a0).toNatClampNeg)) (FP.i2d r5)) &&& 0x7fffffffffffffff ≤ 0x7ff0000000000000 then some (.inl 0, (ml_w (ml_w M6 200 0 (M4 12 (11 + a0).toNatClampNeg)) 200 1 r5)) else none) else none)))
set_option maxHeartbeats 4000000 in
set_option maxRecDepth 100000 in
theorem fX7_exactLevel_c (a0 : Int32) (M : ml_M) (res : ml_R) {g : ml_G} (hst : g.2.2.2.2.2.stackTraces = false) (h : fX7_exactLevel a0 M = some res) : ml_C yX7_exactLevel cX7_exactLevel 2 (some .double) 3 0 0 g (fun _ M => some (.double (FP.ddiv (FP.i2d (M 200 0)) (FP.i2d (M 200 1))))) [ml_rf g 11, .int a0] M res := by
  refine ml_of [(0, ml_rf g 11), (1, .int a0)] hst (by decide) (Nat.le_of_ble_eq_true rfl) rfl (fun E F => ?_)
  unfold fX7_exactLevel at h
  refine ml_aload_n (q := 0) F dX7_exactLevel_0 rfl rfl ?_
  refine ml_iload_n (q := 1) F dX7_exactLevel_1 rfl rfl ?_
  refine ml_callS (av := [.int a0]) F h (fun rs h9 => fX7_isBasin_c a0 M rs hst h9) wcX7_isBasin mlX7_131 wdX7_isBasin (by decide) (by decide) (by decide) rfl stX7_isBasin rfl (Nat.le_of_ble_eq_true rfl) dX7_exactLevel_2 (fun r1 M2 h => ?_)
  refine ml_callV (av := [.int r1]) (T := TX7) (N := 16) F (pc11 g) rfl h (fun rs h9 => fX7_isFine_c r1 M2 rs hst h9) wcX7_isFine mlX7_134 wdX7_isFine (by decide) (by decide) (by decide) rfl seX7_isFine imX7_isFine rfl (Nat.le_of_ble_eq_true rfl) dX7_exactLevel_5 (fun r3 M4 h => ?_)
  refine ml_if_eq (tgt := 30) F dX7_exactLevel_8 (by decide) h (fun _ h => ?_) (fun _ h => ?_)
  · refine ml_dconst0 F dX7_exactLevel_30 ?_
    refine ml_scr (ml_w (ml_w M4 200 0 0) 200 1 1) (fun k hk => by rw [ml_w_ne (by omega), ml_w_ne (by omega)]) ?_
    exact ml_dret (st := []) (v := FP.dconst0) F (Option.some.inj h) (by show some (Value.double (FP.ddiv (FP.i2d 0) (FP.i2d 1))) = some (Value.double FP.dconst0); decide +kernel) rfl (by decide) (by decide) dX7_exactLevel_31
  · refine ml_aload_n (q := 0) F dX7_exactLevel_11 rfl rfl ?_
    refine ml_get (v := ml_rf g 12) F (pc11 g) rfl iaX7 1 (by decide) lkX7_9 rfl rfl dX7_exactLevel_12 ?_
    refine ml_bipush (v := 11) F dX7_exactLevel_15 (by decide) ?_
    refine ml_iload_n (q := 1) F dX7_exactLevel_17 rfl rfl ?_
    refine ml_iadd F dX7_exactLevel_18 ?_
    refine ml_iald F (pc12 g) h dX7_exactLevel_19 (fun h => ?_)
    refine ml_i2d F dX7_exactLevel_20 ?_
    refine ml_iload_n (q := 1) F dX7_exactLevel_21 rfl rfl ?_
    refine ml_callS (av := [.int a0]) F h (fun rs h9 => fX7_size_c a0 M4 rs hst h9) wcX7_size mlX7_47 wdX7_size (by decide) (by decide) (by decide) rfl stX7_size rfl (Nat.le_of_ble_eq_true rfl) dX7_exactLevel_22 (fun r5 M6 h => ?_)
    refine ml_i2d F dX7_exactLevel_25 ?_
    obtain ⟨q7, h⟩ := ml_if h
    refine ml_ddiv F dX7_exactLevel_26 q7 ?_
    refine ml_goto (tgt := 31) F dX7_exactLevel_27 (by decide) ?_
    refine ml_scr (ml_w (ml_w M6 200 0 (M4 12 (11 + a0).toNatClampNeg)) 200 1 r5) (fun k hk => by rw [ml_w_ne (by omega), ml_w_ne (by omega)]) ?_
    exact ml_dret (st := []) (v := FP.ddiv (FP.i2d (M4 12 (11 + a0).toNatClampNeg)) (FP.i2d r5)) F (Option.some.inj h) (by rfl) rfl (by decide) (by decide) dX7_exactLevel_31
set_option maxRecDepth 100000 in
def fX7_isHigher (a0 : Int32) (a1 : Int32) (M : ml_M) : Option ml_R :=
  ml_bd (fX7_isBasin a0 M) (fun r1 M2 => ml_jn (fun (y3 : Int32) (M4 : ml_M) => ml_bd (fX7_isFine y3 M4) (fun r7 M8 => ml_jn (fun (y9 : Int32) (M10 : ml_M) => if narrow .boolean (.int y9) = .int y9 then some (.inl y9, M10) else none) (fun B11 => (if r7 = 0 then B11 0 M8 else ml_bd (fX7_above a0 a1 M8) (fun r14 M15 => (if r14 ≤ 0 then B11 0 M15 else B11 1 M15)))))) (fun B5 => (if r1 = 0 then B5 0 M2 else ml_bd (fX7_isBasin a1 M2) (fun r16 M17 => (if r16 = 0 then B5 0 M17 else B5 1 M17)))))
set_option maxHeartbeats 4000000 in
set_option maxRecDepth 100000 in
theorem fX7_isHigher_c (a0 : Int32) (a1 : Int32) (M : ml_M) (res : ml_R) {g : ml_G} (hst : g.2.2.2.2.2.stackTraces = false) (h : fX7_isHigher a0 a1 M = some res) : ml_C yX7_isHigher cX7_isHigher 3 (some .boolean) 3 0 0 g (fun r _ => some (.int r)) [ml_rf g 11, .int a0, .int a1] M res := by
  refine ml_of [(0, ml_rf g 11), (1, .int a0), (2, .int a1)] hst (by decide) (Nat.le_of_ble_eq_true rfl) rfl (fun E F => ?_)
  unfold fX7_isHigher at h
  refine ml_aload_n (q := 0) F dX7_isHigher_0 rfl rfl ?_
  refine ml_iload_n (q := 1) F dX7_isHigher_1 rfl rfl ?_
  refine ml_callS (av := [.int a0]) F h (fun rs h9 => fX7_isBasin_c a0 M rs hst h9) wcX7_isBasin mlX7_131 wdX7_isBasin (by decide) (by decide) (by decide) rfl stX7_isBasin rfl (Nat.le_of_ble_eq_true rfl) dX7_isHigher_2 (fun r1 M2 h => ?_)
  refine ml_jnR (P := fun B => ∀ (y3 : Int32) (M4 : ml_M), B y3 M4 = some res → ml_J E g 3 (ml_Z E g (fun r _ => some (.int r)) res 0 0) (0 + 0) (0 + 0) 20 [(0, ml_rf g 11), (1, .int a0), (2, .int a1)] (.int y3 :: ml_rf g 11 :: []) M4) h ?_ (fun jn6 h => ?_)
  · intro y3 M4 h
    dsimp only at h
    refine ml_callV (av := [.int y3]) (T := TX7) (N := 16) F (pc11 g) rfl h (fun rs h9 => fX7_isFine_c y3 M4 rs hst h9) wcX7_isFine mlX7_134 wdX7_isFine (by decide) (by decide) (by decide) rfl seX7_isFine imX7_isFine rfl (Nat.le_of_ble_eq_true rfl) dX7_isHigher_20 (fun r7 M8 h => ?_)
    refine ml_jnR (P := fun B => ∀ (y9 : Int32) (M10 : ml_M), B y9 M10 = some res → ml_J E g 3 (ml_Z E g (fun r _ => some (.int r)) res 0 0) (0 + 0 + 0) (0 + 0 + 0) 40 [(0, ml_rf g 11), (1, .int a0), (2, .int a1)] (.int y9 :: []) M10) h ?_ (fun jn12 h => ?_)
    · intro y9 M10 h
      dsimp only at h
      obtain ⟨q13, h⟩ := ml_if h
      exact ml_iret (st := []) F (Option.some.inj h) rfl rfl q13 (by decide) (by decide) dX7_isHigher_40
    refine ml_if_eq (tgt := 39) F dX7_isHigher_23 (by decide) h (fun _ h => ?_) (fun _ h => ?_)
    · refine ml_iconst (v := 0) F dX7_isHigher_39 (by decide) ?_
      exact ml_sub [0, 1, 2] rfl (jn12 _ _ h)
    · refine ml_aload_n (q := 0) F dX7_isHigher_26 rfl rfl ?_
      refine ml_iload_n (q := 1) F dX7_isHigher_27 rfl rfl ?_
      refine ml_iload_n (q := 2) F dX7_isHigher_28 rfl rfl ?_
      refine ml_callV (av := [.int a0, .int a1]) (T := TX7) (N := 16) F (pc11 g) rfl h (fun rs h9 => fX7_above_c a0 a1 M8 rs hst h9) wcX7_above mlX7_51 wdX7_above (by decide) (by decide) (by decide) rfl seX7_above imX7_above rfl (Nat.le_of_ble_eq_true rfl) dX7_isHigher_29 (fun r14 M15 h => ?_)
      refine ml_if_le (tgt := 39) F dX7_isHigher_32 (by decide) h (fun _ h => ?_) (fun _ h => ?_)
      · refine ml_iconst (v := 0) F dX7_isHigher_39 (by decide) ?_
        exact ml_sub [0, 1, 2] rfl (jn12 _ _ h)
      · refine ml_iconst (v := 1) F dX7_isHigher_35 (by decide) ?_
        refine ml_goto (tgt := 40) F dX7_isHigher_36 (by decide) ?_
        exact ml_sub [0, 1, 2] rfl (jn12 _ _ h)
  refine ml_if_eq (tgt := 19) F dX7_isHigher_5 (by decide) h (fun _ h => ?_) (fun _ h => ?_)
  · refine ml_iconst (v := 0) F dX7_isHigher_19 (by decide) ?_
    exact ml_sub [0, 1, 2] rfl (jn6 _ _ h)
  · refine ml_iload_n (q := 2) F dX7_isHigher_8 rfl rfl ?_
    refine ml_callS (av := [.int a1]) F h (fun rs h9 => fX7_isBasin_c a1 M2 rs hst h9) wcX7_isBasin mlX7_131 wdX7_isBasin (by decide) (by decide) (by decide) rfl stX7_isBasin rfl (Nat.le_of_ble_eq_true rfl) dX7_isHigher_9 (fun r16 M17 h => ?_)
    refine ml_if_eq (tgt := 19) F dX7_isHigher_12 (by decide) h (fun _ h => ?_) (fun _ h => ?_)
    · refine ml_iconst (v := 0) F dX7_isHigher_19 (by decide) ?_
      exact ml_sub [0, 1, 2] rfl (jn6 _ _ h)
    · refine ml_iconst (v := 1) F dX7_isHigher_15 (by decide) ?_
      refine ml_goto (tgt := 20) F dX7_isHigher_16 (by decide) ?_
      exact ml_sub [0, 1, 2] rfl (jn6 _ _ h)
set_option maxRecDepth 100000 in
def fX7_equalizingAmount (a0 : Int32) (M : ml_M) : Option ml_R :=
  ml_bd (fX7_isGate a0 M) (fun r1 M2 => ml_bd (fX7_isFine r1 M2) (fun r3 M4 => ml_jn (fun (y5 : Int32) (M6 : ml_M) => some (.inl y5, M6)) (fun B7 => (if r3 = 0 then B7 0 M4 else ml_bd (fX7_equal a0 M4) (fun r9 M10 => B7 r9 M10)))))
set_option maxHeartbeats 4000000 in
set_option maxRecDepth 100000 in
theorem fX7_equalizingAmount_c (a0 : Int32) (M : ml_M) (res : ml_R) {g : ml_G} (hst : g.2.2.2.2.2.stackTraces = false) (h : fX7_equalizingAmount a0 M = some res) : ml_C yX7_equalizingAmount cX7_equalizingAmount 2 (some .int) 4 0 0 g (fun r _ => some (.int r)) [ml_rf g 11, .int a0] M res := by
  refine ml_of [(0, ml_rf g 11), (1, .int a0)] hst (by decide) (Nat.le_of_ble_eq_true rfl) rfl (fun E F => ?_)
  unfold fX7_equalizingAmount at h
  refine ml_aload_n (q := 0) F dX7_equalizingAmount_0 rfl rfl ?_
  refine ml_iload_n (q := 1) F dX7_equalizingAmount_1 rfl rfl ?_
  refine ml_callS (av := [.int a0]) F h (fun rs h9 => fX7_isGate_c a0 M rs hst h9) wcX7_isGate mlX7_106 wdX7_isGate (by decide) (by decide) (by decide) rfl stX7_isGate rfl (Nat.le_of_ble_eq_true rfl) dX7_equalizingAmount_2 (fun r1 M2 h => ?_)
  refine ml_callV (av := [.int r1]) (T := TX7) (N := 16) F (pc11 g) rfl h (fun rs h9 => fX7_isFine_c r1 M2 rs hst h9) wcX7_isFine mlX7_134 wdX7_isFine (by decide) (by decide) (by decide) rfl seX7_isFine imX7_isFine rfl (Nat.le_of_ble_eq_true rfl) dX7_equalizingAmount_5 (fun r3 M4 h => ?_)
  refine ml_jnR (P := fun B => ∀ (y5 : Int32) (M6 : ml_M), B y5 M6 = some res → ml_J E g 2 (ml_Z E g (fun r _ => some (.int r)) res 0 0) (0 + 0 + 0) (0 + 0 + 0) 20 [(0, ml_rf g 11), (1, .int a0)] (.int y5 :: []) M6) h ?_ (fun jn8 h => ?_)
  · intro y5 M6 h
    dsimp only at h
    exact ml_iret (st := []) F (Option.some.inj h) rfl rfl rfl (by decide) (by decide) dX7_equalizingAmount_20
  refine ml_if_eq (tgt := 19) F dX7_equalizingAmount_8 (by decide) h (fun _ h => ?_) (fun _ h => ?_)
  · refine ml_iconst (v := 0) F dX7_equalizingAmount_19 (by decide) ?_
    exact ml_sub [0, 1] rfl (jn8 _ _ h)
  · refine ml_aload_n (q := 0) F dX7_equalizingAmount_11 rfl rfl ?_
    refine ml_iload_n (q := 1) F dX7_equalizingAmount_12 rfl rfl ?_
    refine ml_callV (av := [.int a0]) (T := TX7) (N := 16) F (pc11 g) rfl h (fun rs h9 => fX7_equal_c a0 M4 rs hst h9) wcX7_equal mlX7_55 wdX7_equal (by decide) (by decide) (by decide) rfl seX7_equal imX7_equal rfl (Nat.le_of_ble_eq_true rfl) dX7_equalizingAmount_13 (fun r9 M10 h => ?_)
    refine ml_goto (tgt := 20) F dX7_equalizingAmount_16 (by decide) ?_
    exact ml_sub [0, 1] rfl (jn8 _ _ h)
set_option maxRecDepth 100000 in
def fX7_equalizingAmountByLitres (a0 : Int32) (M : ml_M) : Option ml_R :=
  ml_bd (fX7_equalizingAmount a0 M) (fun r1 M2 => some (.inl r1, M2))
set_option maxHeartbeats 4000000 in
set_option maxRecDepth 100000 in
theorem fX7_equalizingAmountByLitres_c (a0 : Int32) (M : ml_M) (res : ml_R) {g : ml_G} (hst : g.2.2.2.2.2.stackTraces = false) (h : fX7_equalizingAmountByLitres a0 M = some res) : ml_C yX7_equalizingAmountByLitres cX7_equalizingAmountByLitres 2 (some .int) 5 0 0 g (fun r _ => some (.int r)) [ml_rf g 11, .int a0] M res := by
  refine ml_of [(0, ml_rf g 11), (1, .int a0)] hst (by decide) (Nat.le_of_ble_eq_true rfl) rfl (fun E F => ?_)
  unfold fX7_equalizingAmountByLitres at h
  refine ml_aload_n (q := 0) F dX7_equalizingAmountByLitres_0 rfl rfl ?_
  refine ml_iload_n (q := 1) F dX7_equalizingAmountByLitres_1 rfl rfl ?_
  refine ml_callV (av := [.int a0]) (T := TX7) (N := 16) F (pc11 g) rfl h (fun rs h9 => fX7_equalizingAmount_c a0 M rs hst h9) wcX7_equalizingAmount mlX7_138 wdX7_equalizingAmount (by decide) (by decide) (by decide) rfl seX7_equalizingAmount imX7_equalizingAmount rfl (Nat.le_of_ble_eq_true rfl) dX7_equalizingAmountByLitres_2 (fun r1 M2 h => ?_)
  exact ml_iret (st := []) F (Option.some.inj h) rfl rfl rfl (by decide) (by decide) dX7_equalizingAmountByLitres_5
set_option maxRecDepth 100000 in
def fX7_opening (a0 : Int32) (M : ml_M) : Option ml_R :=
  ml_bd (fX7_isGate a0 M) (fun r1 M2 => ml_bd (fX7_isFine r1 M2) (fun r3 M4 => ml_jn (fun (y5 : Int32) => some (.inl y5, M4)) (fun B6 => (if r3 = 0 then B6 0 else if ml_ok (16 + a0) 960 then B6 (M4 12 (16 + a0).toNatClampNeg) else none))))
set_option maxHeartbeats 4000000 in
set_option maxRecDepth 100000 in
theorem fX7_opening_c (a0 : Int32) (M : ml_M) (res : ml_R) {g : ml_G} (hst : g.2.2.2.2.2.stackTraces = false) (h : fX7_opening a0 M = some res) : ml_C yX7_opening cX7_opening 2 (some .int) 3 0 0 g (fun r _ => some (.int r)) [ml_rf g 11, .int a0] M res := by
  refine ml_of [(0, ml_rf g 11), (1, .int a0)] hst (by decide) (Nat.le_of_ble_eq_true rfl) rfl (fun E F => ?_)
  unfold fX7_opening at h
  refine ml_aload_n (q := 0) F dX7_opening_0 rfl rfl ?_
  refine ml_iload_n (q := 1) F dX7_opening_1 rfl rfl ?_
  refine ml_callS (av := [.int a0]) F h (fun rs h9 => fX7_isGate_c a0 M rs hst h9) wcX7_isGate mlX7_106 wdX7_isGate (by decide) (by decide) (by decide) rfl stX7_isGate rfl (Nat.le_of_ble_eq_true rfl) dX7_opening_2 (fun r1 M2 h => ?_)
  refine ml_callV (av := [.int r1]) (T := TX7) (N := 16) F (pc11 g) rfl h (fun rs h9 => fX7_isFine_c r1 M2 rs hst h9) wcX7_isFine mlX7_134 wdX7_isFine (by decide) (by decide) (by decide) rfl seX7_isFine imX7_isFine rfl (Nat.le_of_ble_eq_true rfl) dX7_opening_5 (fun r3 M4 h => ?_)
  refine ml_jnR (P := fun B => ∀ (y5 : Int32), B y5 = some res → ml_J E g 2 (ml_Z E g (fun r _ => some (.int r)) res 0 0) (0 + 0 + 0) (0 + 0 + 0) 24 [(0, ml_rf g 11), (1, .int a0)] (.int y5 :: []) M4) h ?_ (fun jn7 h => ?_)
  · intro y5 h
    dsimp only at h
    exact ml_iret (st := []) F (Option.some.inj h) rfl rfl rfl (by decide) (by decide) dX7_opening_24
  refine ml_if_eq (tgt := 23) F dX7_opening_8 (by decide) h (fun _ h => ?_) (fun _ h => ?_)
  · refine ml_iconst (v := 0) F dX7_opening_23 (by decide) ?_
    exact ml_sub [0, 1] rfl (jn7 _ h)
  · refine ml_aload_n (q := 0) F dX7_opening_11 rfl rfl ?_
    refine ml_get (v := ml_rf g 12) F (pc11 g) rfl iaX7 1 (by decide) lkX7_9 rfl rfl dX7_opening_12 ?_
    refine ml_bipush (v := 16) F dX7_opening_15 (by decide) ?_
    refine ml_iload_n (q := 1) F dX7_opening_17 rfl rfl ?_
    refine ml_iadd F dX7_opening_18 ?_
    refine ml_iald F (pc12 g) h dX7_opening_19 (fun h => ?_)
    refine ml_goto (tgt := 24) F dX7_opening_20 (by decide) ?_
    exact ml_sub [0, 1] rfl (jn7 _ h)
set_option maxRecDepth 100000 in
def fX7_isOpen (a0 : Int32) (M : ml_M) : Option ml_R :=
  ml_bd (fX7_isGate a0 M) (fun r1 M2 => ml_bd (fX7_isFine r1 M2) (fun r3 M4 => ml_jn (fun (y5 : Int32) => if narrow .boolean (.int y5) = .int y5 then some (.inl y5, M4) else none) (fun B6 => (if r3 = 0 then B6 0 else if ml_ok (20 + a0) 960 then (if (M4 12 (20 + a0).toNatClampNeg) = 1 then B6 1 else B6 0) else none))))
set_option maxHeartbeats 4000000 in
set_option maxRecDepth 100000 in
theorem fX7_isOpen_c (a0 : Int32) (M : ml_M) (res : ml_R) {g : ml_G} (hst : g.2.2.2.2.2.stackTraces = false) (h : fX7_isOpen a0 M = some res) : ml_C yX7_isOpen cX7_isOpen 2 (some .boolean) 3 0 0 g (fun r _ => some (.int r)) [ml_rf g 11, .int a0] M res := by
  refine ml_of [(0, ml_rf g 11), (1, .int a0)] hst (by decide) (Nat.le_of_ble_eq_true rfl) rfl (fun E F => ?_)
  unfold fX7_isOpen at h
  refine ml_aload_n (q := 0) F dX7_isOpen_0 rfl rfl ?_
  refine ml_iload_n (q := 1) F dX7_isOpen_1 rfl rfl ?_
  refine ml_callS (av := [.int a0]) F h (fun rs h9 => fX7_isGate_c a0 M rs hst h9) wcX7_isGate mlX7_106 wdX7_isGate (by decide) (by decide) (by decide) rfl stX7_isGate rfl (Nat.le_of_ble_eq_true rfl) dX7_isOpen_2 (fun r1 M2 h => ?_)
  refine ml_callV (av := [.int r1]) (T := TX7) (N := 16) F (pc11 g) rfl h (fun rs h9 => fX7_isFine_c r1 M2 rs hst h9) wcX7_isFine mlX7_134 wdX7_isFine (by decide) (by decide) (by decide) rfl seX7_isFine imX7_isFine rfl (Nat.le_of_ble_eq_true rfl) dX7_isOpen_5 (fun r3 M4 h => ?_)
  refine ml_jnR (P := fun B => ∀ (y5 : Int32), B y5 = some res → ml_J E g 2 (ml_Z E g (fun r _ => some (.int r)) res 0 0) (0 + 0 + 0) (0 + 0 + 0) 29 [(0, ml_rf g 11), (1, .int a0)] (.int y5 :: []) M4) h ?_ (fun jn7 h => ?_)
  · intro y5 h
    dsimp only at h
    obtain ⟨q8, h⟩ := ml_if h
    exact ml_iret (st := []) F (Option.some.inj h) rfl rfl q8 (by decide) (by decide) dX7_isOpen_29
  refine ml_if_eq (tgt := 28) F dX7_isOpen_8 (by decide) h (fun _ h => ?_) (fun _ h => ?_)
  · refine ml_iconst (v := 0) F dX7_isOpen_28 (by decide) ?_
    exact ml_sub [0, 1] rfl (jn7 _ h)
  · refine ml_aload_n (q := 0) F dX7_isOpen_11 rfl rfl ?_
    refine ml_get (v := ml_rf g 12) F (pc11 g) rfl iaX7 1 (by decide) lkX7_9 rfl rfl dX7_isOpen_12 ?_
    refine ml_bipush (v := 20) F dX7_isOpen_15 (by decide) ?_
    refine ml_iload_n (q := 1) F dX7_isOpen_17 rfl rfl ?_
    refine ml_iadd F dX7_isOpen_18 ?_
    refine ml_iald F (pc12 g) h dX7_isOpen_19 (fun h => ?_)
    refine ml_iconst (v := 1) F dX7_isOpen_20 (by decide) ?_
    refine ml_icmp_ne (tgt := 28) F dX7_isOpen_21 (by decide) h (fun _ h => ?_) (fun _ h => ?_)
    · refine ml_iconst (v := 0) F dX7_isOpen_28 (by decide) ?_
      exact ml_sub [0, 1] rfl (jn7 _ h)
    · refine ml_iconst (v := 1) F dX7_isOpen_24 (by decide) ?_
      refine ml_goto (tgt := 29) F dX7_isOpen_25 (by decide) ?_
      exact ml_sub [0, 1] rfl (jn7 _ h)
set_option maxRecDepth 100000 in
def fX7_flow (a0 : Int32) (M : ml_M) : Option ml_R :=
  ml_bd (fX7_isGate a0 M) (fun r1 M2 => ml_bd (fX7_isFine r1 M2) (fun r3 M4 => ml_jn (fun (y5 : Int32) (M6 : ml_M) => some (.inl y5, M6)) (fun B7 => (if r3 = 0 then B7 0 M4 else ml_bd (fX7_flows a0 M4) (fun r9 M10 => B7 r9 M10)))))
set_option maxHeartbeats 4000000 in
set_option maxRecDepth 100000 in
theorem fX7_flow_c (a0 : Int32) (M : ml_M) (res : ml_R) {g : ml_G} (hst : g.2.2.2.2.2.stackTraces = false) (h : fX7_flow a0 M = some res) : ml_C yX7_flow cX7_flow 2 (some .int) 5 0 0 g (fun r _ => some (.int r)) [ml_rf g 11, .int a0] M res := by
  refine ml_of [(0, ml_rf g 11), (1, .int a0)] hst (by decide) (Nat.le_of_ble_eq_true rfl) rfl (fun E F => ?_)
  unfold fX7_flow at h
  refine ml_aload_n (q := 0) F dX7_flow_0 rfl rfl ?_
  refine ml_iload_n (q := 1) F dX7_flow_1 rfl rfl ?_
  refine ml_callS (av := [.int a0]) F h (fun rs h9 => fX7_isGate_c a0 M rs hst h9) wcX7_isGate mlX7_106 wdX7_isGate (by decide) (by decide) (by decide) rfl stX7_isGate rfl (Nat.le_of_ble_eq_true rfl) dX7_flow_2 (fun r1 M2 h => ?_)
  refine ml_callV (av := [.int r1]) (T := TX7) (N := 16) F (pc11 g) rfl h (fun rs h9 => fX7_isFine_c r1 M2 rs hst h9) wcX7_isFine mlX7_134 wdX7_isFine (by decide) (by decide) (by decide) rfl seX7_isFine imX7_isFine rfl (Nat.le_of_ble_eq_true rfl) dX7_flow_5 (fun r3 M4 h => ?_)
  refine ml_jnR (P := fun B => ∀ (y5 : Int32) (M6 : ml_M), B y5 M6 = some res → ml_J E g 2 (ml_Z E g (fun r _ => some (.int r)) res 0 0) (0 + 0 + 0) (0 + 0 + 0) 20 [(0, ml_rf g 11), (1, .int a0)] (.int y5 :: []) M6) h ?_ (fun jn8 h => ?_)
  · intro y5 M6 h
    dsimp only at h
    exact ml_iret (st := []) F (Option.some.inj h) rfl rfl rfl (by decide) (by decide) dX7_flow_20
  refine ml_if_eq (tgt := 19) F dX7_flow_8 (by decide) h (fun _ h => ?_) (fun _ h => ?_)
  · refine ml_iconst (v := 0) F dX7_flow_19 (by decide) ?_
    exact ml_sub [0, 1] rfl (jn8 _ _ h)
  · refine ml_aload_n (q := 0) F dX7_flow_11 rfl rfl ?_
    refine ml_iload_n (q := 1) F dX7_flow_12 rfl rfl ?_
    refine ml_callV (av := [.int a0]) (T := TX7) (N := 16) F (pc11 g) rfl h (fun rs h9 => fX7_flows_c a0 M4 rs hst h9) wcX7_flows mlX7_85 wdX7_flows (by decide) (by decide) (by decide) rfl seX7_flows imX7_flows rfl (Nat.le_of_ble_eq_true rfl) dX7_flow_13 (fun r9 M10 h => ?_)
    refine ml_goto (tgt := 20) F dX7_flow_16 (by decide) ?_
    exact ml_sub [0, 1] rfl (jn8 _ _ h)
set_option maxRecDepth 100000 in
def fX7_told (a0 : Int32) (M : ml_M) : Option ml_R :=
  ml_lt (ml_w M 11 0 0) (fun M1 => if ml_ok a0 960 then some (.inl (M1 12 a0.toNatClampNeg), M1) else none)
set_option maxHeartbeats 4000000 in
set_option maxRecDepth 100000 in
theorem fX7_told_c (a0 : Int32) (M : ml_M) (res : ml_R) {g : ml_G} (hst : g.2.2.2.2.2.stackTraces = false) (h : fX7_told a0 M = some res) : ml_C yX7_told cX7_told 2 (some .int) 1 0 0 g (fun r _ => some (.int r)) [ml_rf g 11, .int a0] M res := by
  refine ml_of [(0, ml_rf g 11), (1, .int a0)] hst (by decide) (Nat.le_of_ble_eq_true rfl) rfl (fun E F => ?_)
  unfold fX7_told at h
  refine ml_aload_n (q := 0) F dX7_told_0 rfl rfl ?_
  refine ml_iconst (v := 0) F dX7_told_1 (by decide) ?_
  refine ml_set F (pc11 g) rfl iaX7 tyX7_ok nmX7 0 (by decide) lkX7_30 rfl rfl rfl rfl rfl (Nat.le_of_ble_eq_true rfl) (fun m => by simp [upd]) dX7_told_2 ?_
  refine ml_ltM h (fun M1 _ h => ?_)
  refine ml_aload_n (q := 0) F dX7_told_5 rfl rfl ?_
  refine ml_get (v := ml_rf g 12) F (pc11 g) rfl iaX7 1 (by decide) lkX7_9 rfl rfl dX7_told_6 ?_
  refine ml_iload_n (q := 1) F dX7_told_9 rfl rfl ?_
  refine ml_iald F (pc12 g) h dX7_told_10 (fun h => ?_)
  exact ml_iret (st := []) F (Option.some.inj h) rfl rfl rfl (by decide) (by decide) dX7_told_11
set_option maxRecDepth 100000 in
def fX7_rain (M : ml_M) : Option ml_R :=
  ml_bd (fX7_told 1 M) (fun r1 M2 => some (.inl r1, M2))
set_option maxHeartbeats 4000000 in
set_option maxRecDepth 100000 in
theorem fX7_rain_c (M : ml_M) (res : ml_R) {g : ml_G} (hst : g.2.2.2.2.2.stackTraces = false) (h : fX7_rain M = some res) : ml_C yX7_rain cX7_rain 1 (some .int) 2 0 0 g (fun r _ => some (.int r)) [ml_rf g 11] M res := by
  refine ml_of [(0, ml_rf g 11)] hst (by decide) (Nat.le_of_ble_eq_true rfl) rfl (fun E F => ?_)
  unfold fX7_rain at h
  refine ml_aload_n (q := 0) F dX7_rain_0 rfl rfl ?_
  refine ml_iconst (v := 1) F dX7_rain_1 (by decide) ?_
  refine ml_callV (av := [.int 1]) (T := TX7) (N := 16) F (pc11 g) rfl h (fun rs h9 => fX7_told_c 1 M rs hst h9) wcX7_told mlX7_141 wdX7_told (by decide) (by decide) (by decide) rfl seX7_told imX7_told rfl (Nat.le_of_ble_eq_true rfl) dX7_rain_2 (fun r1 M2 h => ?_)
  exact ml_iret (st := []) F (Option.some.inj h) rfl rfl rfl (by decide) (by decide) dX7_rain_5
set_option maxRecDepth 100000 in
def fX7_drain (M : ml_M) : Option ml_R :=
  ml_bd (fX7_told 2 M) (fun r1 M2 => some (.inl r1, M2))
set_option maxHeartbeats 4000000 in
set_option maxRecDepth 100000 in
theorem fX7_drain_c (M : ml_M) (res : ml_R) {g : ml_G} (hst : g.2.2.2.2.2.stackTraces = false) (h : fX7_drain M = some res) : ml_C yX7_drain cX7_drain 1 (some .int) 2 0 0 g (fun r _ => some (.int r)) [ml_rf g 11] M res := by
  refine ml_of [(0, ml_rf g 11)] hst (by decide) (Nat.le_of_ble_eq_true rfl) rfl (fun E F => ?_)
  unfold fX7_drain at h
  refine ml_aload_n (q := 0) F dX7_drain_0 rfl rfl ?_
  refine ml_iconst (v := 2) F dX7_drain_1 (by decide) ?_
  refine ml_callV (av := [.int 2]) (T := TX7) (N := 16) F (pc11 g) rfl h (fun rs h9 => fX7_told_c 2 M rs hst h9) wcX7_told mlX7_141 wdX7_told (by decide) (by decide) (by decide) rfl seX7_told imX7_told rfl (Nat.le_of_ble_eq_true rfl) dX7_drain_2 (fun r1 M2 h => ?_)
  exact ml_iret (st := []) F (Option.some.inj h) rfl rfl rfl (by decide) (by decide) dX7_drain_5
set_option maxRecDepth 100000 in
def fX7_sum (M : ml_M) : Option ml_R :=
  some (.inl (((((M 12 11) + (M 12 12)) + (M 12 13)) + (M 12 14)) + (M 12 15)), M)
set_option maxHeartbeats 4000000 in
set_option maxRecDepth 100000 in
theorem fX7_sum_c (M : ml_M) (res : ml_R) {g : ml_G} (hst : g.2.2.2.2.2.stackTraces = false) (h : fX7_sum M = some res) : ml_C yX7_sum cX7_sum 1 (some .int) 1 0 0 g (fun r _ => some (.int r)) [ml_rf g 11] M res := by
  refine ml_of [(0, ml_rf g 11)] hst (by decide) (Nat.le_of_ble_eq_true rfl) rfl (fun E F => ?_)
  unfold fX7_sum at h
  refine ml_aload_n (q := 0) F dX7_sum_0 rfl rfl ?_
  refine ml_get (v := ml_rf g 12) F (pc11 g) rfl iaX7 1 (by decide) lkX7_9 rfl rfl dX7_sum_1 ?_
  refine ml_bipush (v := 11) F dX7_sum_4 (by decide) ?_
  refine ml_ialdK (j := 11) F (pc12 g) (by decide) (by decide) dX7_sum_6 ?_
  refine ml_aload_n (q := 0) F dX7_sum_7 rfl rfl ?_
  refine ml_get (v := ml_rf g 12) F (pc11 g) rfl iaX7 1 (by decide) lkX7_9 rfl rfl dX7_sum_8 ?_
  refine ml_bipush (v := 12) F dX7_sum_11 (by decide) ?_
  refine ml_ialdK (j := 12) F (pc12 g) (by decide) (by decide) dX7_sum_13 ?_
  refine ml_iadd F dX7_sum_14 ?_
  refine ml_aload_n (q := 0) F dX7_sum_15 rfl rfl ?_
  refine ml_get (v := ml_rf g 12) F (pc11 g) rfl iaX7 1 (by decide) lkX7_9 rfl rfl dX7_sum_16 ?_
  refine ml_bipush (v := 13) F dX7_sum_19 (by decide) ?_
  refine ml_ialdK (j := 13) F (pc12 g) (by decide) (by decide) dX7_sum_21 ?_
  refine ml_iadd F dX7_sum_22 ?_
  refine ml_aload_n (q := 0) F dX7_sum_23 rfl rfl ?_
  refine ml_get (v := ml_rf g 12) F (pc11 g) rfl iaX7 1 (by decide) lkX7_9 rfl rfl dX7_sum_24 ?_
  refine ml_bipush (v := 14) F dX7_sum_27 (by decide) ?_
  refine ml_ialdK (j := 14) F (pc12 g) (by decide) (by decide) dX7_sum_29 ?_
  refine ml_iadd F dX7_sum_30 ?_
  refine ml_aload_n (q := 0) F dX7_sum_31 rfl rfl ?_
  refine ml_get (v := ml_rf g 12) F (pc11 g) rfl iaX7 1 (by decide) lkX7_9 rfl rfl dX7_sum_32 ?_
  refine ml_bipush (v := 15) F dX7_sum_35 (by decide) ?_
  refine ml_ialdK (j := 15) F (pc12 g) (by decide) (by decide) dX7_sum_37 ?_
  refine ml_iadd F dX7_sum_38 ?_
  exact ml_iret (st := []) F (Option.some.inj h) rfl rfl rfl (by decide) (by decide) dX7_sum_39
set_option maxRecDepth 100000 in
def fX7_totalVolume (M : ml_M) : Option ml_R :=
  ml_lt (ml_w M 11 0 0) (fun M1 => ml_bd (fX7_sum M1) (fun r2 M3 => some (.inl r2, M3)))
set_option maxHeartbeats 4000000 in
set_option maxRecDepth 100000 in
theorem fX7_totalVolume_c (M : ml_M) (res : ml_R) {g : ml_G} (hst : g.2.2.2.2.2.stackTraces = false) (h : fX7_totalVolume M = some res) : ml_C yX7_totalVolume cX7_totalVolume 1 (some .int) 2 0 0 g (fun r _ => some (.int r)) [ml_rf g 11] M res := by
  refine ml_of [(0, ml_rf g 11)] hst (by decide) (Nat.le_of_ble_eq_true rfl) rfl (fun E F => ?_)
  unfold fX7_totalVolume at h
  refine ml_aload_n (q := 0) F dX7_totalVolume_0 rfl rfl ?_
  refine ml_iconst (v := 0) F dX7_totalVolume_1 (by decide) ?_
  refine ml_set F (pc11 g) rfl iaX7 tyX7_ok nmX7 0 (by decide) lkX7_30 rfl rfl rfl rfl rfl (Nat.le_of_ble_eq_true rfl) (fun m => by simp [upd]) dX7_totalVolume_2 ?_
  refine ml_ltM h (fun M1 _ h => ?_)
  refine ml_aload_n (q := 0) F dX7_totalVolume_5 rfl rfl ?_
  refine ml_callV (av := []) (T := TX7) (N := 16) F (pc11 g) rfl h (fun rs h9 => fX7_sum_c M1 rs hst h9) wcX7_sum mlX7_144 wdX7_sum (by decide) (by decide) (by decide) rfl seX7_sum imX7_sum rfl (Nat.le_of_ble_eq_true rfl) dX7_totalVolume_6 (fun r2 M3 h => ?_)
  exact ml_iret (st := []) F (Option.some.inj h) rfl rfl rfl (by decide) (by decide) dX7_totalVolume_9
set_option maxRecDepth 100000 in
def fX7_totalVolumeByAccounts (M : ml_M) : Option ml_R :=
  ml_bd (fX7_totalVolume M) (fun r1 M2 => some (.inl r1, M2))
set_option maxHeartbeats 4000000 in
set_option maxRecDepth 100000 in
theorem fX7_totalVolumeByAccounts_c (M : ml_M) (res : ml_R) {g : ml_G} (hst : g.2.2.2.2.2.stackTraces = false) (h : fX7_totalVolumeByAccounts M = some res) : ml_C yX7_totalVolumeByAccounts cX7_totalVolumeByAccounts 1 (some .int) 3 0 0 g (fun r _ => some (.int r)) [ml_rf g 11] M res := by
  refine ml_of [(0, ml_rf g 11)] hst (by decide) (Nat.le_of_ble_eq_true rfl) rfl (fun E F => ?_)
  unfold fX7_totalVolumeByAccounts at h
  refine ml_aload_n (q := 0) F dX7_totalVolumeByAccounts_0 rfl rfl ?_
  refine ml_callV (av := []) (T := TX7) (N := 16) F (pc11 g) rfl h (fun rs h9 => fX7_totalVolume_c M rs hst h9) wcX7_totalVolume mlX7_147 wdX7_totalVolume (by decide) (by decide) (by decide) rfl seX7_totalVolume imX7_totalVolume rfl (Nat.le_of_ble_eq_true rfl) dX7_totalVolumeByAccounts_1 (fun r1 M2 h => ?_)
  exact ml_iret (st := []) F (Option.some.inj h) rfl rfl rfl (by decide) (by decide) dX7_totalVolumeByAccounts_4
set_option maxRecDepth 100000 in
def fX7_rainTotal (M : ml_M) : Option ml_R :=
  ml_bd (fX7_told 3 M) (fun r1 M2 => some (.inl r1, M2))
set_option maxHeartbeats 4000000 in
set_option maxRecDepth 100000 in
theorem fX7_rainTotal_c (M : ml_M) (res : ml_R) {g : ml_G} (hst : g.2.2.2.2.2.stackTraces = false) (h : fX7_rainTotal M = some res) : ml_C yX7_rainTotal cX7_rainTotal 1 (some .int) 2 0 0 g (fun r _ => some (.int r)) [ml_rf g 11] M res := by
  refine ml_of [(0, ml_rf g 11)] hst (by decide) (Nat.le_of_ble_eq_true rfl) rfl (fun E F => ?_)
  unfold fX7_rainTotal at h
  refine ml_aload_n (q := 0) F dX7_rainTotal_0 rfl rfl ?_
  refine ml_iconst (v := 3) F dX7_rainTotal_1 (by decide) ?_
  refine ml_callV (av := [.int 3]) (T := TX7) (N := 16) F (pc11 g) rfl h (fun rs h9 => fX7_told_c 3 M rs hst h9) wcX7_told mlX7_141 wdX7_told (by decide) (by decide) (by decide) rfl seX7_told imX7_told rfl (Nat.le_of_ble_eq_true rfl) dX7_rainTotal_2 (fun r1 M2 h => ?_)
  exact ml_iret (st := []) F (Option.some.inj h) rfl rfl rfl (by decide) (by decide) dX7_rainTotal_5
set_option maxRecDepth 100000 in
def fX7_drainTotal (M : ml_M) : Option ml_R :=
  ml_bd (fX7_told 4 M) (fun r1 M2 => some (.inl r1, M2))
set_option maxHeartbeats 4000000 in
set_option maxRecDepth 100000 in
theorem fX7_drainTotal_c (M : ml_M) (res : ml_R) {g : ml_G} (hst : g.2.2.2.2.2.stackTraces = false) (h : fX7_drainTotal M = some res) : ml_C yX7_drainTotal cX7_drainTotal 1 (some .int) 2 0 0 g (fun r _ => some (.int r)) [ml_rf g 11] M res := by
  refine ml_of [(0, ml_rf g 11)] hst (by decide) (Nat.le_of_ble_eq_true rfl) rfl (fun E F => ?_)
  unfold fX7_drainTotal at h
  refine ml_aload_n (q := 0) F dX7_drainTotal_0 rfl rfl ?_
  refine ml_iconst (v := 4) F dX7_drainTotal_1 (by decide) ?_
  refine ml_callV (av := [.int 4]) (T := TX7) (N := 16) F (pc11 g) rfl h (fun rs h9 => fX7_told_c 4 M rs hst h9) wcX7_told mlX7_141 wdX7_told (by decide) (by decide) (by decide) rfl seX7_told imX7_told rfl (Nat.le_of_ble_eq_true rfl) dX7_drainTotal_2 (fun r1 M2 h => ?_)
  exact ml_iret (st := []) F (Option.some.inj h) rfl rfl rfl (by decide) (by decide) dX7_drainTotal_5
set_option maxRecDepth 100000 in
def fX7_spilledTotal (M : ml_M) : Option ml_R :=
  ml_bd (fX7_told 5 M) (fun r1 M2 => some (.inl r1, M2))
set_option maxHeartbeats 4000000 in
set_option maxRecDepth 100000 in
theorem fX7_spilledTotal_c (M : ml_M) (res : ml_R) {g : ml_G} (hst : g.2.2.2.2.2.stackTraces = false) (h : fX7_spilledTotal M = some res) : ml_C yX7_spilledTotal cX7_spilledTotal 1 (some .int) 2 0 0 g (fun r _ => some (.int r)) [ml_rf g 11] M res := by
  refine ml_of [(0, ml_rf g 11)] hst (by decide) (Nat.le_of_ble_eq_true rfl) rfl (fun E F => ?_)
  unfold fX7_spilledTotal at h
  refine ml_aload_n (q := 0) F dX7_spilledTotal_0 rfl rfl ?_
  refine ml_iconst (v := 5) F dX7_spilledTotal_1 (by decide) ?_
  refine ml_callV (av := [.int 5]) (T := TX7) (N := 16) F (pc11 g) rfl h (fun rs h9 => fX7_told_c 5 M rs hst h9) wcX7_told mlX7_141 wdX7_told (by decide) (by decide) (by decide) rfl seX7_told imX7_told rfl (Nat.le_of_ble_eq_true rfl) dX7_spilledTotal_2 (fun r1 M2 h => ?_)
  exact ml_iret (st := []) F (Option.some.inj h) rfl rfl rfl (by decide) (by decide) dX7_spilledTotal_5
set_option maxRecDepth 100000 in
def fX7_basinByLevel_s0 (a0 : Int32) (rec : Nat → Int32 → Int32 → Int32 → Int32 → ml_M → Option ml_R) (x1 x2 x3 x4 : Int32) (M : ml_M) : Option ml_R :=
  (if 5 ≤ x2 then ml_lt (ml_w M 11 0 1) (fun M1 => some (.inl 0, M1)) else rec 1 x1 x2 0 0 M)
set_option maxRecDepth 100000 in
def fX7_basinByLevel_s1 (a0 : Int32) (rec : Nat → Int32 → Int32 → Int32 → Int32 → ml_M → Option ml_R) (x1 x2 x3 x4 : Int32) (M : ml_M) : Option ml_R :=
  (if 5 ≤ x4 then ml_jn (fun (y1 : Int32) => ml_bd (fX7_isFine y1 M) (fun r4 M5 => (if r4 = 0 then rec 0 x1 (x2 + 1) 0 0 M5 else some (.inl x2, M5)))) (fun B2 => (if x3 = x1 then B2 1 else B2 0)) else ml_bd (fX7_above x4 x2 M) (fun r6 M7 => ml_jn (fun (y8 : Int32) (M9 : ml_M) => rec 1 x1 x2 (x3 + y8) (x4 + 1) M9) (fun B10 => (if 0 < r6 then B10 1 M7 else ml_bd (fX7_above x4 x2 M7) (fun r12 M13 => (if r12 = 0 then (if x2 ≤ x4 then B10 0 M13 else B10 1 M13) else B10 0 M13))))))
def fX7_basinByLevel_l (a0 : Int32) : Nat → Nat → Int32 → Int32 → Int32 → Int32 → ml_M → Option ml_R
  | 0, _ => fun _ _ _ _ _ => none
  | n + 1, 0 => fX7_basinByLevel_s0 a0 (fX7_basinByLevel_l a0 n)
  | n + 1, _ => fX7_basinByLevel_s1 a0 (fX7_basinByLevel_l a0 n)
set_option maxHeartbeats 4000000 in
set_option maxRecDepth 100000 in
theorem fX7_basinByLevel_w (a0 : Int32) {E : ml_E} {g : ml_G} {res : ml_R} (F : ml_F E g cX7_basinByLevel yX7_basinByLevel.cls 5 3 0 0 (some .int) []) : ∀ fuel : Nat, (∀ (x1 x2 x3 x4 : Int32) (M : ml_M), fX7_basinByLevel_l a0 fuel 0 x1 x2 x3 x4 M = some res → ml_J E g 5 (ml_Z E g (fun r _ => some (.int r)) res 0 0) 0 0 2 [(0, ml_rf g 11), (1, .int x1), (2, .int x2)] [] M) ∧ (∀ (x1 x2 x3 x4 : Int32) (M : ml_M), fX7_basinByLevel_l a0 fuel 1 x1 x2 x3 x4 M = some res → ml_J E g 5 (ml_Z E g (fun r _ => some (.int r)) res 0 0) 0 0 12 [(0, ml_rf g 11), (1, .int x1), (2, .int x2), (3, .int x3), (4, .int x4)] [] M) := by
  have hst := ml_F_st F
  intro fuel
  induction fuel with
  | zero => exact ⟨fun _ _ _ _ _ h => (nomatch (show (none : Option ml_R) = some res from h)), fun _ _ _ _ _ h => (nomatch (show (none : Option ml_R) = some res from h))⟩
  | succ fuel ih =>
    refine ⟨?_, ?_⟩
    · intro x1 x2 x3 x4 M h
      replace h : fX7_basinByLevel_s0 a0 (fX7_basinByLevel_l a0 fuel) x1 x2 x3 x4 M = some res := h
      unfold fX7_basinByLevel_s0 at h
      refine ml_iload_n (q := 2) F dX7_basinByLevel_2 rfl rfl ?_
      refine ml_iconst (v := 5) F dX7_basinByLevel_3 (by decide) ?_
      refine ml_icmp_ge (tgt := 83) F dX7_basinByLevel_4 (by decide) h (fun _ h => ?_) (fun _ h => ?_)
      · refine ml_aload_n (q := 0) F dX7_basinByLevel_83 rfl rfl ?_
        refine ml_iconst (v := 1) F dX7_basinByLevel_84 (by decide) ?_
        refine ml_set F (pc11 g) rfl iaX7 tyX7_ok nmX7 0 (by decide) lkX7_30 rfl rfl rfl rfl rfl (Nat.le_of_ble_eq_true rfl) (fun m => by simp [upd]) dX7_basinByLevel_85 ?_
        refine ml_ltM h (fun M1 _ h => ?_)
        refine ml_iconst (v := 0) F dX7_basinByLevel_88 (by decide) ?_
        exact ml_iret (st := []) F (Option.some.inj h) rfl rfl rfl (by decide) (by decide) dX7_basinByLevel_89
      · refine ml_iconst (v := 0) F dX7_basinByLevel_7 (by decide) ?_
        refine ml_istore_n (ls2 := [(3, .int 0), (0, ml_rf g 11), (1, .int x1), (2, .int x2)]) F dX7_basinByLevel_8 rfl (by decide) rfl ?_
        refine ml_iconst (v := 0) F dX7_basinByLevel_9 (by decide) ?_
        refine ml_istore (ls2 := [(4, .int 0), (3, .int 0), (0, ml_rf g 11), (1, .int x1), (2, .int x2)]) F dX7_basinByLevel_10 (by decide) rfl ?_
        exact ml_sub [2, 3, 4, 1, 0] rfl ((ih.2) _ _ _ _ _ h)
    · intro x1 x2 x3 x4 M h
      replace h : fX7_basinByLevel_s1 a0 (fX7_basinByLevel_l a0 fuel) x1 x2 x3 x4 M = some res := h
      unfold fX7_basinByLevel_s1 at h
      refine ml_iload (q := 4) F dX7_basinByLevel_12 rfl ?_
      refine ml_iconst (v := 5) F dX7_basinByLevel_14 (by decide) ?_
      refine ml_icmp_ge (tgt := 58) F dX7_basinByLevel_15 (by decide) h (fun _ h => ?_) (fun _ h => ?_)
      · refine ml_aload_n (q := 0) F dX7_basinByLevel_58 rfl rfl ?_
        refine ml_iload_n (q := 3) F dX7_basinByLevel_59 rfl rfl ?_
        refine ml_iload_n (q := 1) F dX7_basinByLevel_60 rfl rfl ?_
        refine ml_jnR (P := fun B => ∀ (y1 : Int32), B y1 = some res → ml_J E g 5 (ml_Z E g (fun r _ => some (.int r)) res 0 0) (0) (0) 69 [(0, ml_rf g 11), (1, .int x1), (2, .int x2), (3, .int x3), (4, .int x4)] (.int y1 :: ml_rf g 11 :: []) M) h ?_ (fun jn3 h => ?_)
        · intro y1 h
          dsimp only at h
          refine ml_callV (av := [.int y1]) (T := TX7) (N := 16) F (pc11 g) rfl h (fun rs h9 => fX7_isFine_c y1 M rs hst h9) wcX7_isFine mlX7_134 wdX7_isFine (by decide) (by decide) (by decide) rfl seX7_isFine imX7_isFine rfl (Nat.le_of_ble_eq_true rfl) dX7_basinByLevel_69 (fun r4 M5 h => ?_)
          refine ml_if_eq (tgt := 77) F dX7_basinByLevel_72 (by decide) h (fun _ h => ?_) (fun _ h => ?_)
          · refine ml_iinc (q := 2) (v := x2 + 1) (ls2 := [(2, .int (x2 + 1)), (0, ml_rf g 11), (1, .int x1), (3, .int x3), (4, .int x4)]) F dX7_basinByLevel_77 rfl rfl (by decide) rfl ?_
            refine ml_goto (tgt := 2) F dX7_basinByLevel_80 (by decide) ?_
            exact ml_sub [1, 2, 0] rfl ((ih.1) _ _ _ _ _ h)
          · refine ml_iload_n (q := 2) F dX7_basinByLevel_75 rfl rfl ?_
            exact ml_iret (st := []) F (Option.some.inj h) rfl rfl rfl (by decide) (by decide) dX7_basinByLevel_76
        refine ml_icmp_ne (tgt := 68) F dX7_basinByLevel_61 (by decide) h (fun _ h => ?_) (fun _ h => ?_)
        · refine ml_iconst (v := 0) F dX7_basinByLevel_68 (by decide) ?_
          exact ml_sub [0, 1, 2, 3, 4] rfl (jn3 _ h)
        · refine ml_iconst (v := 1) F dX7_basinByLevel_64 (by decide) ?_
          refine ml_goto (tgt := 69) F dX7_basinByLevel_65 (by decide) ?_
          exact ml_sub [0, 1, 2, 3, 4] rfl (jn3 _ h)
      · refine ml_iload_n (q := 3) F dX7_basinByLevel_18 rfl rfl ?_
        refine ml_aload_n (q := 0) F dX7_basinByLevel_19 rfl rfl ?_
        refine ml_iload (q := 4) F dX7_basinByLevel_20 rfl ?_
        refine ml_iload_n (q := 2) F dX7_basinByLevel_22 rfl rfl ?_
        refine ml_callV (av := [.int x4, .int x2]) (T := TX7) (N := 16) F (pc11 g) rfl h (fun rs h9 => fX7_above_c x4 x2 M rs hst h9) wcX7_above mlX7_51 wdX7_above (by decide) (by decide) (by decide) rfl seX7_above imX7_above rfl (Nat.le_of_ble_eq_true rfl) dX7_basinByLevel_23 (fun r6 M7 h => ?_)
        refine ml_jnR (P := fun B => ∀ (y8 : Int32) (M9 : ml_M), B y8 M9 = some res → ml_J E g 5 (ml_Z E g (fun r _ => some (.int r)) res 0 0) (0 + 0) (0 + 0) 50 [(0, ml_rf g 11), (1, .int x1), (2, .int x2), (3, .int x3), (4, .int x4)] (.int y8 :: .int x3 :: []) M9) h ?_ (fun jn11 h => ?_)
        · intro y8 M9 h
          dsimp only at h
          refine ml_iadd F dX7_basinByLevel_50 ?_
          refine ml_istore_n (ls2 := [(3, .int (x3 + y8)), (0, ml_rf g 11), (1, .int x1), (2, .int x2), (4, .int x4)]) F dX7_basinByLevel_51 rfl (by decide) rfl ?_
          refine ml_iinc (q := 4) (v := x4 + 1) (ls2 := [(4, .int (x4 + 1)), (3, .int (x3 + y8)), (0, ml_rf g 11), (1, .int x1), (2, .int x2)]) F dX7_basinByLevel_52 rfl rfl (by decide) rfl ?_
          refine ml_goto (tgt := 12) F dX7_basinByLevel_55 (by decide) ?_
          exact ml_sub [2, 3, 4, 1, 0] rfl ((ih.2) _ _ _ _ _ h)
        refine ml_if_gt (tgt := 45) F dX7_basinByLevel_26 (by decide) h (fun _ h => ?_) (fun _ h => ?_)
        · refine ml_iconst (v := 1) F dX7_basinByLevel_45 (by decide) ?_
          refine ml_goto (tgt := 50) F dX7_basinByLevel_46 (by decide) ?_
          exact ml_sub [0, 1, 2, 3, 4] rfl (jn11 _ _ h)
        · refine ml_aload_n (q := 0) F dX7_basinByLevel_29 rfl rfl ?_
          refine ml_iload (q := 4) F dX7_basinByLevel_30 rfl ?_
          refine ml_iload_n (q := 2) F dX7_basinByLevel_32 rfl rfl ?_
          refine ml_callV (av := [.int x4, .int x2]) (T := TX7) (N := 16) F (pc11 g) rfl h (fun rs h9 => fX7_above_c x4 x2 M7 rs hst h9) wcX7_above mlX7_51 wdX7_above (by decide) (by decide) (by decide) rfl seX7_above imX7_above rfl (Nat.le_of_ble_eq_true rfl) dX7_basinByLevel_33 (fun r12 M13 h => ?_)
          refine ml_if_ne (tgt := 49) F dX7_basinByLevel_36 (by decide) h (fun _ h => ?_) (fun _ h => ?_)
          · refine ml_iconst (v := 0) F dX7_basinByLevel_49 (by decide) ?_
            exact ml_sub [0, 1, 2, 3, 4] rfl (jn11 _ _ h)
          · refine ml_iload (q := 4) F dX7_basinByLevel_39 rfl ?_
            refine ml_iload_n (q := 2) F dX7_basinByLevel_41 rfl rfl ?_
            refine ml_icmp_ge (tgt := 49) F dX7_basinByLevel_42 (by decide) h (fun _ h => ?_) (fun _ h => ?_)
            · refine ml_iconst (v := 0) F dX7_basinByLevel_49 (by decide) ?_
              exact ml_sub [0, 1, 2, 3, 4] rfl (jn11 _ _ h)
            · refine ml_iconst (v := 1) F dX7_basinByLevel_45 (by decide) ?_
              refine ml_goto (tgt := 50) F dX7_basinByLevel_46 (by decide) ?_
              exact ml_sub [0, 1, 2, 3, 4] rfl (jn11 _ _ h)
set_option maxRecDepth 100000 in
def fX7_basinByLevel (a0 : Int32) (M : ml_M) : Option ml_R :=
  fX7_basinByLevel_l a0 ml_fuel 0 a0 0 0 0 M
set_option maxHeartbeats 4000000 in
set_option maxRecDepth 100000 in
theorem fX7_basinByLevel_c (a0 : Int32) (M : ml_M) (res : ml_R) {g : ml_G} (hst : g.2.2.2.2.2.stackTraces = false) (h : fX7_basinByLevel a0 M = some res) : ml_C yX7_basinByLevel cX7_basinByLevel 5 (some .int) 3 0 0 g (fun r _ => some (.int r)) [ml_rf g 11, .int a0] M res := by
  refine ml_of [(0, ml_rf g 11), (1, .int a0)] hst (by decide) (Nat.le_of_ble_eq_true rfl) rfl (fun E F => ?_)
  unfold fX7_basinByLevel at h
  refine ml_iconst (v := 0) F dX7_basinByLevel_0 (by decide) ?_
  refine ml_istore_n (ls2 := [(2, .int 0), (0, ml_rf g 11), (1, .int a0)]) F dX7_basinByLevel_1 rfl (by decide) rfl ?_
  exact ml_sub [1, 2, 0] rfl ((fX7_basinByLevel_w a0 F ml_fuel).1 _ _ _ _ _ h)
set_option maxRecDepth 100000 in
def fX7_boatCount (M : ml_M) : Option ml_R :=
  ml_bd (fX7_told 6 M) (fun r1 M2 => some (.inl r1, M2))
set_option maxHeartbeats 4000000 in
set_option maxRecDepth 100000 in
theorem fX7_boatCount_c (M : ml_M) (res : ml_R) {g : ml_G} (hst : g.2.2.2.2.2.stackTraces = false) (h : fX7_boatCount M = some res) : ml_C yX7_boatCount cX7_boatCount 1 (some .int) 2 0 0 g (fun r _ => some (.int r)) [ml_rf g 11] M res := by
  refine ml_of [(0, ml_rf g 11)] hst (by decide) (Nat.le_of_ble_eq_true rfl) rfl (fun E F => ?_)
  unfold fX7_boatCount at h
  refine ml_aload_n (q := 0) F dX7_boatCount_0 rfl rfl ?_
  refine ml_bipush (v := 6) F dX7_boatCount_1 (by decide) ?_
  refine ml_callV (av := [.int 6]) (T := TX7) (N := 16) F (pc11 g) rfl h (fun rs h9 => fX7_told_c 6 M rs hst h9) wcX7_told mlX7_141 wdX7_told (by decide) (by decide) (by decide) rfl seX7_told imX7_told rfl (Nat.le_of_ble_eq_true rfl) dX7_boatCount_3 (fun r1 M2 h => ?_)
  exact ml_iret (st := []) F (Option.some.inj h) rfl rfl rfl (by decide) (by decide) dX7_boatCount_6
set_option maxRecDepth 100000 in
def fX7_ofBoat (a0 : Int32) (a1 : Int32) (M : ml_M) : Option ml_R :=
  ml_bd (fX7_isBoat a0 M) (fun r1 M2 => ml_bd (fX7_isFine r1 M2) (fun r3 M4 => ml_jn (fun (y5 : Int32) (M6 : ml_M) => some (.inl y5, M6)) (fun B7 => (if r3 = 0 then B7 0 M4 else ml_bd (fX7_b a0 a1 M4) (fun r9 M10 => B7 r9 M10)))))
set_option maxHeartbeats 4000000 in
set_option maxRecDepth 100000 in
theorem fX7_ofBoat_c (a0 : Int32) (a1 : Int32) (M : ml_M) (res : ml_R) {g : ml_G} (hst : g.2.2.2.2.2.stackTraces = false) (h : fX7_ofBoat a0 a1 M = some res) : ml_C yX7_ofBoat cX7_ofBoat 3 (some .int) 3 0 0 g (fun r _ => some (.int r)) [ml_rf g 11, .int a0, .int a1] M res := by
  refine ml_of [(0, ml_rf g 11), (1, .int a0), (2, .int a1)] hst (by decide) (Nat.le_of_ble_eq_true rfl) rfl (fun E F => ?_)
  unfold fX7_ofBoat at h
  refine ml_aload_n (q := 0) F dX7_ofBoat_0 rfl rfl ?_
  refine ml_aload_n (q := 0) F dX7_ofBoat_1 rfl rfl ?_
  refine ml_iload_n (q := 1) F dX7_ofBoat_2 rfl rfl ?_
  refine ml_callV (av := [.int a0]) (T := TX7) (N := 16) F (pc11 g) rfl h (fun rs h9 => fX7_isBoat_c a0 M rs hst h9) wcX7_isBoat mlX7_150 wdX7_isBoat (by decide) (by decide) (by decide) rfl seX7_isBoat imX7_isBoat rfl (Nat.le_of_ble_eq_true rfl) dX7_ofBoat_3 (fun r1 M2 h => ?_)
  refine ml_callV (av := [.int r1]) (T := TX7) (N := 16) F (pc11 g) rfl h (fun rs h9 => fX7_isFine_c r1 M2 rs hst h9) wcX7_isFine mlX7_134 wdX7_isFine (by decide) (by decide) (by decide) rfl seX7_isFine imX7_isFine rfl (Nat.le_of_ble_eq_true rfl) dX7_ofBoat_6 (fun r3 M4 h => ?_)
  refine ml_jnR (P := fun B => ∀ (y5 : Int32) (M6 : ml_M), B y5 M6 = some res → ml_J E g 3 (ml_Z E g (fun r _ => some (.int r)) res 0 0) (0 + 0 + 0) (0 + 0 + 0) 22 [(0, ml_rf g 11), (1, .int a0), (2, .int a1)] (.int y5 :: []) M6) h ?_ (fun jn8 h => ?_)
  · intro y5 M6 h
    dsimp only at h
    exact ml_iret (st := []) F (Option.some.inj h) rfl rfl rfl (by decide) (by decide) dX7_ofBoat_22
  refine ml_if_eq (tgt := 21) F dX7_ofBoat_9 (by decide) h (fun _ h => ?_) (fun _ h => ?_)
  · refine ml_iconst (v := 0) F dX7_ofBoat_21 (by decide) ?_
    exact ml_sub [0, 1, 2] rfl (jn8 _ _ h)
  · refine ml_aload_n (q := 0) F dX7_ofBoat_12 rfl rfl ?_
    refine ml_iload_n (q := 1) F dX7_ofBoat_13 rfl rfl ?_
    refine ml_iload_n (q := 2) F dX7_ofBoat_14 rfl rfl ?_
    refine ml_callV (av := [.int a0, .int a1]) (T := TX7) (N := 16) F (pc11 g) rfl h (fun rs h9 => fX7_b_c a0 a1 M4 rs hst h9) wcX7_b mlX7_61 wdX7_b (by decide) (by decide) (by decide) rfl seX7_b imX7_b rfl (Nat.le_of_ble_eq_true rfl) dX7_ofBoat_15 (fun r9 M10 h => ?_)
    refine ml_goto (tgt := 22) F dX7_ofBoat_18 (by decide) ?_
    exact ml_sub [0, 1, 2] rfl (jn8 _ _ h)
set_option maxRecDepth 100000 in
def fX7_colour (a0 : Int32) (M : ml_M) : Option ml_R :=
  ml_bd (fX7_isBoat a0 M) (fun r1 M2 => ml_bd (fX7_isFine r1 M2) (fun r3 M4 => ml_jn (fun (y5 : Int32) (M6 : ml_M) => if narrow .char (.int y5) = .int y5 then some (.inl y5, M6) else none) (fun B7 => (if r3 = 0 then B7 0 M4 else ml_bd (fX7_b a0 0 M4) (fun r10 M11 => ml_bd (fX7_signOf r10 M11) (fun r12 M13 => B7 r12 M13))))))
set_option maxHeartbeats 4000000 in
set_option maxRecDepth 100000 in
theorem fX7_colour_c (a0 : Int32) (M : ml_M) (res : ml_R) {g : ml_G} (hst : g.2.2.2.2.2.stackTraces = false) (h : fX7_colour a0 M = some res) : ml_C yX7_colour cX7_colour 2 (some .char) 3 0 0 g (fun r _ => some (.int r)) [ml_rf g 11, .int a0] M res := by
  refine ml_of [(0, ml_rf g 11), (1, .int a0)] hst (by decide) (Nat.le_of_ble_eq_true rfl) rfl (fun E F => ?_)
  unfold fX7_colour at h
  refine ml_aload_n (q := 0) F dX7_colour_0 rfl rfl ?_
  refine ml_aload_n (q := 0) F dX7_colour_1 rfl rfl ?_
  refine ml_iload_n (q := 1) F dX7_colour_2 rfl rfl ?_
  refine ml_callV (av := [.int a0]) (T := TX7) (N := 16) F (pc11 g) rfl h (fun rs h9 => fX7_isBoat_c a0 M rs hst h9) wcX7_isBoat mlX7_150 wdX7_isBoat (by decide) (by decide) (by decide) rfl seX7_isBoat imX7_isBoat rfl (Nat.le_of_ble_eq_true rfl) dX7_colour_3 (fun r1 M2 h => ?_)
  refine ml_callV (av := [.int r1]) (T := TX7) (N := 16) F (pc11 g) rfl h (fun rs h9 => fX7_isFine_c r1 M2 rs hst h9) wcX7_isFine mlX7_134 wdX7_isFine (by decide) (by decide) (by decide) rfl seX7_isFine imX7_isFine rfl (Nat.le_of_ble_eq_true rfl) dX7_colour_6 (fun r3 M4 h => ?_)
  refine ml_jnR (P := fun B => ∀ (y5 : Int32) (M6 : ml_M), B y5 M6 = some res → ml_J E g 2 (ml_Z E g (fun r _ => some (.int r)) res 0 0) (0 + 0 + 0) (0 + 0 + 0) 25 [(0, ml_rf g 11), (1, .int a0)] (.int y5 :: []) M6) h ?_ (fun jn8 h => ?_)
  · intro y5 M6 h
    dsimp only at h
    obtain ⟨q9, h⟩ := ml_if h
    exact ml_iret (st := []) F (Option.some.inj h) rfl rfl q9 (by decide) (by decide) dX7_colour_25
  refine ml_if_eq (tgt := 24) F dX7_colour_9 (by decide) h (fun _ h => ?_) (fun _ h => ?_)
  · refine ml_iconst (v := 0) F dX7_colour_24 (by decide) ?_
    exact ml_sub [0, 1] rfl (jn8 _ _ h)
  · refine ml_aload_n (q := 0) F dX7_colour_12 rfl rfl ?_
    refine ml_iload_n (q := 1) F dX7_colour_13 rfl rfl ?_
    refine ml_iconst (v := 0) F dX7_colour_14 (by decide) ?_
    refine ml_callV (av := [.int a0, .int 0]) (T := TX7) (N := 16) F (pc11 g) rfl h (fun rs h9 => fX7_b_c a0 0 M4 rs hst h9) wcX7_b mlX7_61 wdX7_b (by decide) (by decide) (by decide) rfl seX7_b imX7_b rfl (Nat.le_of_ble_eq_true rfl) dX7_colour_15 (fun r10 M11 h => ?_)
    refine ml_callS (av := [.int r10]) F h (fun rs h9 => fX7_signOf_c r10 M11 rs hst h9) wcX7_signOf mlX7_153 wdX7_signOf (by decide) (by decide) (by decide) rfl stX7_signOf rfl (Nat.le_of_ble_eq_true rfl) dX7_colour_18 (fun r12 M13 h => ?_)
    refine ml_goto (tgt := 25) F dX7_colour_21 (by decide) ?_
    exact ml_sub [0, 1] rfl (jn8 _ _ h)
set_option maxRecDepth 100000 in
def fX7_draught (a0 : Int32) (M : ml_M) : Option ml_R :=
  ml_bd (fX7_ofBoat a0 1 M) (fun r1 M2 => some (.inl r1, M2))
set_option maxHeartbeats 4000000 in
set_option maxRecDepth 100000 in
theorem fX7_draught_c (a0 : Int32) (M : ml_M) (res : ml_R) {g : ml_G} (hst : g.2.2.2.2.2.stackTraces = false) (h : fX7_draught a0 M = some res) : ml_C yX7_draught cX7_draught 2 (some .int) 4 0 0 g (fun r _ => some (.int r)) [ml_rf g 11, .int a0] M res := by
  refine ml_of [(0, ml_rf g 11), (1, .int a0)] hst (by decide) (Nat.le_of_ble_eq_true rfl) rfl (fun E F => ?_)
  unfold fX7_draught at h
  refine ml_aload_n (q := 0) F dX7_draught_0 rfl rfl ?_
  refine ml_iload_n (q := 1) F dX7_draught_1 rfl rfl ?_
  refine ml_iconst (v := 1) F dX7_draught_2 (by decide) ?_
  refine ml_callV (av := [.int a0, .int 1]) (T := TX7) (N := 16) F (pc11 g) rfl h (fun rs h9 => fX7_ofBoat_c a0 1 M rs hst h9) wcX7_ofBoat mlX7_157 wdX7_ofBoat (by decide) (by decide) (by decide) rfl seX7_ofBoat imX7_ofBoat rfl (Nat.le_of_ble_eq_true rfl) dX7_draught_3 (fun r1 M2 h => ?_)
  exact ml_iret (st := []) F (Option.some.inj h) rfl rfl rfl (by decide) (by decide) dX7_draught_6
set_option maxRecDepth 100000 in
def fX7_isGoingDown (a0 : Int32) (M : ml_M) : Option ml_R :=
  ml_bd (fX7_ofBoat a0 2 M) (fun r1 M2 => ml_jn (fun (y3 : Int32) => if narrow .boolean (.int y3) = .int y3 then some (.inl y3, M2) else none) (fun B4 => (if r1 = 1 then B4 1 else B4 0)))
set_option maxHeartbeats 4000000 in
set_option maxRecDepth 100000 in
theorem fX7_isGoingDown_c (a0 : Int32) (M : ml_M) (res : ml_R) {g : ml_G} (hst : g.2.2.2.2.2.stackTraces = false) (h : fX7_isGoingDown a0 M = some res) : ml_C yX7_isGoingDown cX7_isGoingDown 2 (some .boolean) 4 0 0 g (fun r _ => some (.int r)) [ml_rf g 11, .int a0] M res := by
  refine ml_of [(0, ml_rf g 11), (1, .int a0)] hst (by decide) (Nat.le_of_ble_eq_true rfl) rfl (fun E F => ?_)
  unfold fX7_isGoingDown at h
  refine ml_aload_n (q := 0) F dX7_isGoingDown_0 rfl rfl ?_
  refine ml_iload_n (q := 1) F dX7_isGoingDown_1 rfl rfl ?_
  refine ml_iconst (v := 2) F dX7_isGoingDown_2 (by decide) ?_
  refine ml_callV (av := [.int a0, .int 2]) (T := TX7) (N := 16) F (pc11 g) rfl h (fun rs h9 => fX7_ofBoat_c a0 2 M rs hst h9) wcX7_ofBoat mlX7_157 wdX7_ofBoat (by decide) (by decide) (by decide) rfl seX7_ofBoat imX7_ofBoat rfl (Nat.le_of_ble_eq_true rfl) dX7_isGoingDown_3 (fun r1 M2 h => ?_)
  refine ml_iconst (v := 1) F dX7_isGoingDown_6 (by decide) ?_
  refine ml_jnR (P := fun B => ∀ (y3 : Int32), B y3 = some res → ml_J E g 2 (ml_Z E g (fun r _ => some (.int r)) res 0 0) (0 + 0) (0 + 0) 15 [(0, ml_rf g 11), (1, .int a0)] (.int y3 :: []) M2) h ?_ (fun jn5 h => ?_)
  · intro y3 h
    dsimp only at h
    obtain ⟨q6, h⟩ := ml_if h
    exact ml_iret (st := []) F (Option.some.inj h) rfl rfl q6 (by decide) (by decide) dX7_isGoingDown_15
  refine ml_icmp_ne (tgt := 14) F dX7_isGoingDown_7 (by decide) h (fun _ h => ?_) (fun _ h => ?_)
  · refine ml_iconst (v := 0) F dX7_isGoingDown_14 (by decide) ?_
    exact ml_sub [0, 1] rfl (jn5 _ h)
  · refine ml_iconst (v := 1) F dX7_isGoingDown_10 (by decide) ?_
    refine ml_goto (tgt := 15) F dX7_isGoingDown_11 (by decide) ?_
    exact ml_sub [0, 1] rfl (jn5 _ h)
set_option maxRecDepth 100000 in
def fX7_basinOf (a0 : Int32) (M : ml_M) : Option ml_R :=
  ml_bd (fX7_ofBoat a0 3 M) (fun r1 M2 => some (.inl r1, M2))
set_option maxHeartbeats 4000000 in
set_option maxRecDepth 100000 in
theorem fX7_basinOf_c (a0 : Int32) (M : ml_M) (res : ml_R) {g : ml_G} (hst : g.2.2.2.2.2.stackTraces = false) (h : fX7_basinOf a0 M = some res) : ml_C yX7_basinOf cX7_basinOf 2 (some .int) 4 0 0 g (fun r _ => some (.int r)) [ml_rf g 11, .int a0] M res := by
  refine ml_of [(0, ml_rf g 11), (1, .int a0)] hst (by decide) (Nat.le_of_ble_eq_true rfl) rfl (fun E F => ?_)
  unfold fX7_basinOf at h
  refine ml_aload_n (q := 0) F dX7_basinOf_0 rfl rfl ?_
  refine ml_iload_n (q := 1) F dX7_basinOf_1 rfl rfl ?_
  refine ml_iconst (v := 3) F dX7_basinOf_2 (by decide) ?_
  refine ml_callV (av := [.int a0, .int 3]) (T := TX7) (N := 16) F (pc11 g) rfl h (fun rs h9 => fX7_ofBoat_c a0 3 M rs hst h9) wcX7_ofBoat mlX7_157 wdX7_ofBoat (by decide) (by decide) (by decide) rfl seX7_ofBoat imX7_ofBoat rfl (Nat.le_of_ble_eq_true rfl) dX7_basinOf_3 (fun r1 M2 h => ?_)
  exact ml_iret (st := []) F (Option.some.inj h) rfl rfl rfl (by decide) (by decide) dX7_basinOf_6
set_option maxRecDepth 100000 in
def fX7_boatsIn (a0 : Int32) (M : ml_M) : Option ml_R :=
  ml_bd (fX7_isBasin a0 M) (fun r1 M2 => ml_bd (fX7_isFine r1 M2) (fun r3 M4 => ml_jn (fun (y5 : Int32) (M6 : ml_M) => some (.inl y5, M6)) (fun B7 => (if r3 = 0 then B7 0 M4 else ml_bd (fX7_inBasin a0 M4) (fun r9 M10 => B7 r9 M10)))))
set_option maxHeartbeats 4000000 in
set_option maxRecDepth 100000 in
theorem fX7_boatsIn_c (a0 : Int32) (M : ml_M) (res : ml_R) {g : ml_G} (hst : g.2.2.2.2.2.stackTraces = false) (h : fX7_boatsIn a0 M = some res) : ml_C yX7_boatsIn cX7_boatsIn 2 (some .int) 3 0 0 g (fun r _ => some (.int r)) [ml_rf g 11, .int a0] M res := by
  refine ml_of [(0, ml_rf g 11), (1, .int a0)] hst (by decide) (Nat.le_of_ble_eq_true rfl) rfl (fun E F => ?_)
  unfold fX7_boatsIn at h
  refine ml_aload_n (q := 0) F dX7_boatsIn_0 rfl rfl ?_
  refine ml_iload_n (q := 1) F dX7_boatsIn_1 rfl rfl ?_
  refine ml_callS (av := [.int a0]) F h (fun rs h9 => fX7_isBasin_c a0 M rs hst h9) wcX7_isBasin mlX7_131 wdX7_isBasin (by decide) (by decide) (by decide) rfl stX7_isBasin rfl (Nat.le_of_ble_eq_true rfl) dX7_boatsIn_2 (fun r1 M2 h => ?_)
  refine ml_callV (av := [.int r1]) (T := TX7) (N := 16) F (pc11 g) rfl h (fun rs h9 => fX7_isFine_c r1 M2 rs hst h9) wcX7_isFine mlX7_134 wdX7_isFine (by decide) (by decide) (by decide) rfl seX7_isFine imX7_isFine rfl (Nat.le_of_ble_eq_true rfl) dX7_boatsIn_5 (fun r3 M4 h => ?_)
  refine ml_jnR (P := fun B => ∀ (y5 : Int32) (M6 : ml_M), B y5 M6 = some res → ml_J E g 2 (ml_Z E g (fun r _ => some (.int r)) res 0 0) (0 + 0 + 0) (0 + 0 + 0) 20 [(0, ml_rf g 11), (1, .int a0)] (.int y5 :: []) M6) h ?_ (fun jn8 h => ?_)
  · intro y5 M6 h
    dsimp only at h
    exact ml_iret (st := []) F (Option.some.inj h) rfl rfl rfl (by decide) (by decide) dX7_boatsIn_20
  refine ml_if_eq (tgt := 19) F dX7_boatsIn_8 (by decide) h (fun _ h => ?_) (fun _ h => ?_)
  · refine ml_iconst (v := 0) F dX7_boatsIn_19 (by decide) ?_
    exact ml_sub [0, 1] rfl (jn8 _ _ h)
  · refine ml_aload_n (q := 0) F dX7_boatsIn_11 rfl rfl ?_
    refine ml_iload_n (q := 1) F dX7_boatsIn_12 rfl rfl ?_
    refine ml_callV (av := [.int a0]) (T := TX7) (N := 16) F (pc11 g) rfl h (fun rs h9 => fX7_inBasin_c a0 M4 rs hst h9) wcX7_inBasin mlX7_71 wdX7_inBasin (by decide) (by decide) (by decide) rfl seX7_inBasin imX7_inBasin rfl (Nat.le_of_ble_eq_true rfl) dX7_boatsIn_13 (fun r9 M10 h => ?_)
    refine ml_goto (tgt := 20) F dX7_boatsIn_16 (by decide) ?_
    exact ml_sub [0, 1] rfl (jn8 _ _ h)
set_option maxRecDepth 100000 in
def fX7_boatInOrder_s0 (a0 : Int32) (rec : Nat → Int32 → Int32 → Int32 → Int32 → ml_M → Option ml_R) (x1 x2 x3 x4 : Int32) (M : ml_M) : Option ml_R :=
  (if (M 12 6) ≤ x2 then ml_lt (ml_w M 11 0 1) (fun M1 => some (.inl 0, M1)) else rec 1 x1 x2 0 0 M)
set_option maxRecDepth 100000 in
def fX7_boatInOrder_s1 (a0 : Int32) (rec : Nat → Int32 → Int32 → Int32 → Int32 → ml_M → Option ml_R) (x1 x2 x3 x4 : Int32) (M : ml_M) : Option ml_R :=
  (if (M 12 6) ≤ x4 then ml_jn (fun (y1 : Int32) => ml_bd (fX7_isFine y1 M) (fun r4 M5 => (if r4 = 0 then rec 0 x1 (x2 + 1) 0 0 M5 else some (.inl x2, M5)))) (fun B2 => (if x3 = x1 then B2 1 else B2 0)) else ml_bd (fX7_b x4 0 M) (fun r6 M7 => ml_bd (fX7_b x2 0 M7) (fun r8 M9 => ml_jn (fun (y10 : Int32) (M11 : ml_M) => rec 1 x1 x2 (x3 + y10) (x4 + 1) M11) (fun B12 => (if r6 < r8 then B12 1 M9 else ml_bd (fX7_b x4 0 M9) (fun r14 M15 => ml_bd (fX7_b x2 0 M15) (fun r16 M17 => (if r14 = r16 then (if x2 ≤ x4 then B12 0 M17 else B12 1 M17) else B12 0 M17))))))))
def fX7_boatInOrder_l (a0 : Int32) : Nat → Nat → Int32 → Int32 → Int32 → Int32 → ml_M → Option ml_R
  | 0, _ => fun _ _ _ _ _ => none
  | n + 1, 0 => fX7_boatInOrder_s0 a0 (fX7_boatInOrder_l a0 n)
  | n + 1, _ => fX7_boatInOrder_s1 a0 (fX7_boatInOrder_l a0 n)
set_option maxHeartbeats 4000000 in
set_option maxRecDepth 100000 in
theorem fX7_boatInOrder_w (a0 : Int32) {E : ml_E} {g : ml_G} {res : ml_R} (F : ml_F E g cX7_boatInOrder yX7_boatInOrder.cls 5 2 0 0 (some .int) []) : ∀ fuel : Nat, (∀ (x1 x2 x3 x4 : Int32) (M : ml_M), fX7_boatInOrder_l a0 fuel 0 x1 x2 x3 x4 M = some res → ml_J E g 5 (ml_Z E g (fun r _ => some (.int r)) res 0 0) 0 0 2 [(0, ml_rf g 11), (1, .int x1), (2, .int x2)] [] M) ∧ (∀ (x1 x2 x3 x4 : Int32) (M : ml_M), fX7_boatInOrder_l a0 fuel 1 x1 x2 x3 x4 M = some res → ml_J E g 5 (ml_Z E g (fun r _ => some (.int r)) res 0 0) 0 0 18 [(0, ml_rf g 11), (1, .int x1), (2, .int x2), (3, .int x3), (4, .int x4)] [] M) := by
  have hst := ml_F_st F
  intro fuel
  induction fuel with
  | zero => exact ⟨fun _ _ _ _ _ h => (nomatch (show (none : Option ml_R) = some res from h)), fun _ _ _ _ _ h => (nomatch (show (none : Option ml_R) = some res from h))⟩
  | succ fuel ih =>
    refine ⟨?_, ?_⟩
    · intro x1 x2 x3 x4 M h
      replace h : fX7_boatInOrder_s0 a0 (fX7_boatInOrder_l a0 fuel) x1 x2 x3 x4 M = some res := h
      unfold fX7_boatInOrder_s0 at h
      refine ml_iload_n (q := 2) F dX7_boatInOrder_2 rfl rfl ?_
      refine ml_aload_n (q := 0) F dX7_boatInOrder_3 rfl rfl ?_
      refine ml_get (v := ml_rf g 12) F (pc11 g) rfl iaX7 1 (by decide) lkX7_9 rfl rfl dX7_boatInOrder_4 ?_
      refine ml_bipush (v := 6) F dX7_boatInOrder_7 (by decide) ?_
      refine ml_ialdK (j := 6) F (pc12 g) (by decide) (by decide) dX7_boatInOrder_9 ?_
      refine ml_icmp_ge (tgt := 107) F dX7_boatInOrder_10 (by decide) h (fun _ h => ?_) (fun _ h => ?_)
      · refine ml_aload_n (q := 0) F dX7_boatInOrder_107 rfl rfl ?_
        refine ml_iconst (v := 1) F dX7_boatInOrder_108 (by decide) ?_
        refine ml_set F (pc11 g) rfl iaX7 tyX7_ok nmX7 0 (by decide) lkX7_30 rfl rfl rfl rfl rfl (Nat.le_of_ble_eq_true rfl) (fun m => by simp [upd]) dX7_boatInOrder_109 ?_
        refine ml_ltM h (fun M1 _ h => ?_)
        refine ml_iconst (v := 0) F dX7_boatInOrder_112 (by decide) ?_
        exact ml_iret (st := []) F (Option.some.inj h) rfl rfl rfl (by decide) (by decide) dX7_boatInOrder_113
      · refine ml_iconst (v := 0) F dX7_boatInOrder_13 (by decide) ?_
        refine ml_istore_n (ls2 := [(3, .int 0), (0, ml_rf g 11), (1, .int x1), (2, .int x2)]) F dX7_boatInOrder_14 rfl (by decide) rfl ?_
        refine ml_iconst (v := 0) F dX7_boatInOrder_15 (by decide) ?_
        refine ml_istore (ls2 := [(4, .int 0), (3, .int 0), (0, ml_rf g 11), (1, .int x1), (2, .int x2)]) F dX7_boatInOrder_16 (by decide) rfl ?_
        exact ml_sub [2, 3, 4, 1, 0] rfl ((ih.2) _ _ _ _ _ h)
    · intro x1 x2 x3 x4 M h
      replace h : fX7_boatInOrder_s1 a0 (fX7_boatInOrder_l a0 fuel) x1 x2 x3 x4 M = some res := h
      unfold fX7_boatInOrder_s1 at h
      refine ml_iload (q := 4) F dX7_boatInOrder_18 rfl ?_
      refine ml_aload_n (q := 0) F dX7_boatInOrder_20 rfl rfl ?_
      refine ml_get (v := ml_rf g 12) F (pc11 g) rfl iaX7 1 (by decide) lkX7_9 rfl rfl dX7_boatInOrder_21 ?_
      refine ml_bipush (v := 6) F dX7_boatInOrder_24 (by decide) ?_
      refine ml_ialdK (j := 6) F (pc12 g) (by decide) (by decide) dX7_boatInOrder_26 ?_
      refine ml_icmp_ge (tgt := 82) F dX7_boatInOrder_27 (by decide) h (fun _ h => ?_) (fun _ h => ?_)
      · refine ml_aload_n (q := 0) F dX7_boatInOrder_82 rfl rfl ?_
        refine ml_iload_n (q := 3) F dX7_boatInOrder_83 rfl rfl ?_
        refine ml_iload_n (q := 1) F dX7_boatInOrder_84 rfl rfl ?_
        refine ml_jnR (P := fun B => ∀ (y1 : Int32), B y1 = some res → ml_J E g 5 (ml_Z E g (fun r _ => some (.int r)) res 0 0) (0) (0) 93 [(0, ml_rf g 11), (1, .int x1), (2, .int x2), (3, .int x3), (4, .int x4)] (.int y1 :: ml_rf g 11 :: []) M) h ?_ (fun jn3 h => ?_)
        · intro y1 h
          dsimp only at h
          refine ml_callV (av := [.int y1]) (T := TX7) (N := 16) F (pc11 g) rfl h (fun rs h9 => fX7_isFine_c y1 M rs hst h9) wcX7_isFine mlX7_134 wdX7_isFine (by decide) (by decide) (by decide) rfl seX7_isFine imX7_isFine rfl (Nat.le_of_ble_eq_true rfl) dX7_boatInOrder_93 (fun r4 M5 h => ?_)
          refine ml_if_eq (tgt := 101) F dX7_boatInOrder_96 (by decide) h (fun _ h => ?_) (fun _ h => ?_)
          · refine ml_iinc (q := 2) (v := x2 + 1) (ls2 := [(2, .int (x2 + 1)), (0, ml_rf g 11), (1, .int x1), (3, .int x3), (4, .int x4)]) F dX7_boatInOrder_101 rfl rfl (by decide) rfl ?_
            refine ml_goto (tgt := 2) F dX7_boatInOrder_104 (by decide) ?_
            exact ml_sub [1, 2, 0] rfl ((ih.1) _ _ _ _ _ h)
          · refine ml_iload_n (q := 2) F dX7_boatInOrder_99 rfl rfl ?_
            exact ml_iret (st := []) F (Option.some.inj h) rfl rfl rfl (by decide) (by decide) dX7_boatInOrder_100
        refine ml_icmp_ne (tgt := 92) F dX7_boatInOrder_85 (by decide) h (fun _ h => ?_) (fun _ h => ?_)
        · refine ml_iconst (v := 0) F dX7_boatInOrder_92 (by decide) ?_
          exact ml_sub [0, 1, 2, 3, 4] rfl (jn3 _ h)
        · refine ml_iconst (v := 1) F dX7_boatInOrder_88 (by decide) ?_
          refine ml_goto (tgt := 93) F dX7_boatInOrder_89 (by decide) ?_
          exact ml_sub [0, 1, 2, 3, 4] rfl (jn3 _ h)
      · refine ml_iload_n (q := 3) F dX7_boatInOrder_30 rfl rfl ?_
        refine ml_aload_n (q := 0) F dX7_boatInOrder_31 rfl rfl ?_
        refine ml_iload (q := 4) F dX7_boatInOrder_32 rfl ?_
        refine ml_iconst (v := 0) F dX7_boatInOrder_34 (by decide) ?_
        refine ml_callV (av := [.int x4, .int 0]) (T := TX7) (N := 16) F (pc11 g) rfl h (fun rs h9 => fX7_b_c x4 0 M rs hst h9) wcX7_b mlX7_61 wdX7_b (by decide) (by decide) (by decide) rfl seX7_b imX7_b rfl (Nat.le_of_ble_eq_true rfl) dX7_boatInOrder_35 (fun r6 M7 h => ?_)
        refine ml_aload_n (q := 0) F dX7_boatInOrder_38 rfl rfl ?_
        refine ml_iload_n (q := 2) F dX7_boatInOrder_39 rfl rfl ?_
        refine ml_iconst (v := 0) F dX7_boatInOrder_40 (by decide) ?_
        refine ml_callV (av := [.int x2, .int 0]) (T := TX7) (N := 16) F (pc11 g) rfl h (fun rs h9 => fX7_b_c x2 0 M7 rs hst h9) wcX7_b mlX7_61 wdX7_b (by decide) (by decide) (by decide) rfl seX7_b imX7_b rfl (Nat.le_of_ble_eq_true rfl) dX7_boatInOrder_41 (fun r8 M9 h => ?_)
        refine ml_jnR (P := fun B => ∀ (y10 : Int32) (M11 : ml_M), B y10 M11 = some res → ml_J E g 5 (ml_Z E g (fun r _ => some (.int r)) res 0 0) (0 + 0 + 0) (0 + 0 + 0) 74 [(0, ml_rf g 11), (1, .int x1), (2, .int x2), (3, .int x3), (4, .int x4)] (.int y10 :: .int x3 :: []) M11) h ?_ (fun jn13 h => ?_)
        · intro y10 M11 h
          dsimp only at h
          refine ml_iadd F dX7_boatInOrder_74 ?_
          refine ml_istore_n (ls2 := [(3, .int (x3 + y10)), (0, ml_rf g 11), (1, .int x1), (2, .int x2), (4, .int x4)]) F dX7_boatInOrder_75 rfl (by decide) rfl ?_
          refine ml_iinc (q := 4) (v := x4 + 1) (ls2 := [(4, .int (x4 + 1)), (3, .int (x3 + y10)), (0, ml_rf g 11), (1, .int x1), (2, .int x2)]) F dX7_boatInOrder_76 rfl rfl (by decide) rfl ?_
          refine ml_goto (tgt := 18) F dX7_boatInOrder_79 (by decide) ?_
          exact ml_sub [2, 3, 4, 1, 0] rfl ((ih.2) _ _ _ _ _ h)
        refine ml_icmp_lt (tgt := 69) F dX7_boatInOrder_44 (by decide) h (fun _ h => ?_) (fun _ h => ?_)
        · refine ml_iconst (v := 1) F dX7_boatInOrder_69 (by decide) ?_
          refine ml_goto (tgt := 74) F dX7_boatInOrder_70 (by decide) ?_
          exact ml_sub [0, 1, 2, 3, 4] rfl (jn13 _ _ h)
        · refine ml_aload_n (q := 0) F dX7_boatInOrder_47 rfl rfl ?_
          refine ml_iload (q := 4) F dX7_boatInOrder_48 rfl ?_
          refine ml_iconst (v := 0) F dX7_boatInOrder_50 (by decide) ?_
          refine ml_callV (av := [.int x4, .int 0]) (T := TX7) (N := 16) F (pc11 g) rfl h (fun rs h9 => fX7_b_c x4 0 M9 rs hst h9) wcX7_b mlX7_61 wdX7_b (by decide) (by decide) (by decide) rfl seX7_b imX7_b rfl (Nat.le_of_ble_eq_true rfl) dX7_boatInOrder_51 (fun r14 M15 h => ?_)
          refine ml_aload_n (q := 0) F dX7_boatInOrder_54 rfl rfl ?_
          refine ml_iload_n (q := 2) F dX7_boatInOrder_55 rfl rfl ?_
          refine ml_iconst (v := 0) F dX7_boatInOrder_56 (by decide) ?_
          refine ml_callV (av := [.int x2, .int 0]) (T := TX7) (N := 16) F (pc11 g) rfl h (fun rs h9 => fX7_b_c x2 0 M15 rs hst h9) wcX7_b mlX7_61 wdX7_b (by decide) (by decide) (by decide) rfl seX7_b imX7_b rfl (Nat.le_of_ble_eq_true rfl) dX7_boatInOrder_57 (fun r16 M17 h => ?_)
          refine ml_icmp_ne (tgt := 73) F dX7_boatInOrder_60 (by decide) h (fun _ h => ?_) (fun _ h => ?_)
          · refine ml_iconst (v := 0) F dX7_boatInOrder_73 (by decide) ?_
            exact ml_sub [0, 1, 2, 3, 4] rfl (jn13 _ _ h)
          · refine ml_iload (q := 4) F dX7_boatInOrder_63 rfl ?_
            refine ml_iload_n (q := 2) F dX7_boatInOrder_65 rfl rfl ?_
            refine ml_icmp_ge (tgt := 73) F dX7_boatInOrder_66 (by decide) h (fun _ h => ?_) (fun _ h => ?_)
            · refine ml_iconst (v := 0) F dX7_boatInOrder_73 (by decide) ?_
              exact ml_sub [0, 1, 2, 3, 4] rfl (jn13 _ _ h)
            · refine ml_iconst (v := 1) F dX7_boatInOrder_69 (by decide) ?_
              refine ml_goto (tgt := 74) F dX7_boatInOrder_70 (by decide) ?_
              exact ml_sub [0, 1, 2, 3, 4] rfl (jn13 _ _ h)
set_option maxRecDepth 100000 in
def fX7_boatInOrder (a0 : Int32) (M : ml_M) : Option ml_R :=
  fX7_boatInOrder_l a0 ml_fuel 0 a0 0 0 0 M
set_option maxHeartbeats 4000000 in
set_option maxRecDepth 100000 in
theorem fX7_boatInOrder_c (a0 : Int32) (M : ml_M) (res : ml_R) {g : ml_G} (hst : g.2.2.2.2.2.stackTraces = false) (h : fX7_boatInOrder a0 M = some res) : ml_C yX7_boatInOrder cX7_boatInOrder 5 (some .int) 2 0 0 g (fun r _ => some (.int r)) [ml_rf g 11, .int a0] M res := by
  refine ml_of [(0, ml_rf g 11), (1, .int a0)] hst (by decide) (Nat.le_of_ble_eq_true rfl) rfl (fun E F => ?_)
  unfold fX7_boatInOrder at h
  refine ml_iconst (v := 0) F dX7_boatInOrder_0 (by decide) ?_
  refine ml_istore_n (ls2 := [(2, .int 0), (0, ml_rf g 11), (1, .int a0)]) F dX7_boatInOrder_1 rfl (by decide) rfl ?_
  exact ml_sub [1, 2, 0] rfl ((fX7_boatInOrder_w a0 F ml_fuel).1 _ _ _ _ _ h)
set_option maxRecDepth 100000 in
def fX7_floats (a0 : Int32) (a1 : Int32) (M : ml_M) : Option ml_R :=
  ml_bd (fX7_isBoat a0 M) (fun r1 M2 => ml_jn (fun (y3 : Int32) (M4 : ml_M) => ml_bd (fX7_isFine y3 M4) (fun r7 M8 => ml_jn (fun (y9 : Int32) (M10 : ml_M) => if narrow .boolean (.int y9) = .int y9 then some (.inl y9, M10) else none) (fun B11 => (if r7 = 0 then B11 0 M8 else ml_bd (fX7_b a0 1 M8) (fun r14 M15 => ml_bd (fX7_isDeep a1 r14 M15) (fun r16 M17 => (if r16 = 0 then B11 0 M17 else B11 1 M17))))))) (fun B5 => (if r1 = 0 then B5 0 M2 else ml_bd (fX7_isBasin a1 M2) (fun r18 M19 => (if r18 = 0 then B5 0 M19 else B5 1 M19)))))
set_option maxHeartbeats 4000000 in
set_option maxRecDepth 100000 in
theorem fX7_floats_c (a0 : Int32) (a1 : Int32) (M : ml_M) (res : ml_R) {g : ml_G} (hst : g.2.2.2.2.2.stackTraces = false) (h : fX7_floats a0 a1 M = some res) : ml_C yX7_floats cX7_floats 3 (some .boolean) 3 0 0 g (fun r _ => some (.int r)) [ml_rf g 11, .int a0, .int a1] M res := by
  refine ml_of [(0, ml_rf g 11), (1, .int a0), (2, .int a1)] hst (by decide) (Nat.le_of_ble_eq_true rfl) rfl (fun E F => ?_)
  unfold fX7_floats at h
  refine ml_aload_n (q := 0) F dX7_floats_0 rfl rfl ?_
  refine ml_aload_n (q := 0) F dX7_floats_1 rfl rfl ?_
  refine ml_iload_n (q := 1) F dX7_floats_2 rfl rfl ?_
  refine ml_callV (av := [.int a0]) (T := TX7) (N := 16) F (pc11 g) rfl h (fun rs h9 => fX7_isBoat_c a0 M rs hst h9) wcX7_isBoat mlX7_150 wdX7_isBoat (by decide) (by decide) (by decide) rfl seX7_isBoat imX7_isBoat rfl (Nat.le_of_ble_eq_true rfl) dX7_floats_3 (fun r1 M2 h => ?_)
  refine ml_jnR (P := fun B => ∀ (y3 : Int32) (M4 : ml_M), B y3 M4 = some res → ml_J E g 3 (ml_Z E g (fun r _ => some (.int r)) res 0 0) (0 + 0) (0 + 0) 21 [(0, ml_rf g 11), (1, .int a0), (2, .int a1)] (.int y3 :: ml_rf g 11 :: []) M4) h ?_ (fun jn6 h => ?_)
  · intro y3 M4 h
    dsimp only at h
    refine ml_callV (av := [.int y3]) (T := TX7) (N := 16) F (pc11 g) rfl h (fun rs h9 => fX7_isFine_c y3 M4 rs hst h9) wcX7_isFine mlX7_134 wdX7_isFine (by decide) (by decide) (by decide) rfl seX7_isFine imX7_isFine rfl (Nat.le_of_ble_eq_true rfl) dX7_floats_21 (fun r7 M8 h => ?_)
    refine ml_jnR (P := fun B => ∀ (y9 : Int32) (M10 : ml_M), B y9 M10 = some res → ml_J E g 3 (ml_Z E g (fun r _ => some (.int r)) res 0 0) (0 + 0 + 0) (0 + 0 + 0) 46 [(0, ml_rf g 11), (1, .int a0), (2, .int a1)] (.int y9 :: []) M10) h ?_ (fun jn12 h => ?_)
    · intro y9 M10 h
      dsimp only at h
      obtain ⟨q13, h⟩ := ml_if h
      exact ml_iret (st := []) F (Option.some.inj h) rfl rfl q13 (by decide) (by decide) dX7_floats_46
    refine ml_if_eq (tgt := 45) F dX7_floats_24 (by decide) h (fun _ h => ?_) (fun _ h => ?_)
    · refine ml_iconst (v := 0) F dX7_floats_45 (by decide) ?_
      exact ml_sub [0, 1, 2] rfl (jn12 _ _ h)
    · refine ml_aload_n (q := 0) F dX7_floats_27 rfl rfl ?_
      refine ml_iload_n (q := 2) F dX7_floats_28 rfl rfl ?_
      refine ml_aload_n (q := 0) F dX7_floats_29 rfl rfl ?_
      refine ml_iload_n (q := 1) F dX7_floats_30 rfl rfl ?_
      refine ml_iconst (v := 1) F dX7_floats_31 (by decide) ?_
      refine ml_callV (av := [.int a0, .int 1]) (T := TX7) (N := 16) F (pc11 g) rfl h (fun rs h9 => fX7_b_c a0 1 M8 rs hst h9) wcX7_b mlX7_61 wdX7_b (by decide) (by decide) (by decide) rfl seX7_b imX7_b rfl (Nat.le_of_ble_eq_true rfl) dX7_floats_32 (fun r14 M15 h => ?_)
      refine ml_callV (av := [.int a1, .int r14]) (T := TX7) (N := 16) F (pc11 g) rfl h (fun rs h9 => fX7_isDeep_c a1 r14 M15 rs hst h9) wcX7_isDeep mlX7_74 wdX7_isDeep (by decide) (by decide) (by decide) rfl seX7_isDeep imX7_isDeep rfl (Nat.le_of_ble_eq_true rfl) dX7_floats_35 (fun r16 M17 h => ?_)
      refine ml_if_eq (tgt := 45) F dX7_floats_38 (by decide) h (fun _ h => ?_) (fun _ h => ?_)
      · refine ml_iconst (v := 0) F dX7_floats_45 (by decide) ?_
        exact ml_sub [0, 1, 2] rfl (jn12 _ _ h)
      · refine ml_iconst (v := 1) F dX7_floats_41 (by decide) ?_
        refine ml_goto (tgt := 46) F dX7_floats_42 (by decide) ?_
        exact ml_sub [0, 1, 2] rfl (jn12 _ _ h)
  refine ml_if_eq (tgt := 20) F dX7_floats_6 (by decide) h (fun _ h => ?_) (fun _ h => ?_)
  · refine ml_iconst (v := 0) F dX7_floats_20 (by decide) ?_
    exact ml_sub [0, 1, 2] rfl (jn6 _ _ h)
  · refine ml_iload_n (q := 2) F dX7_floats_9 rfl rfl ?_
    refine ml_callS (av := [.int a1]) F h (fun rs h9 => fX7_isBasin_c a1 M2 rs hst h9) wcX7_isBasin mlX7_131 wdX7_isBasin (by decide) (by decide) (by decide) rfl stX7_isBasin rfl (Nat.le_of_ble_eq_true rfl) dX7_floats_10 (fun r18 M19 h => ?_)
    refine ml_if_eq (tgt := 20) F dX7_floats_13 (by decide) h (fun _ h => ?_) (fun _ h => ?_)
    · refine ml_iconst (v := 0) F dX7_floats_20 (by decide) ?_
      exact ml_sub [0, 1, 2] rfl (jn6 _ _ h)
    · refine ml_iconst (v := 1) F dX7_floats_16 (by decide) ?_
      refine ml_goto (tgt := 21) F dX7_floats_17 (by decide) ?_
      exact ml_sub [0, 1, 2] rfl (jn6 _ _ h)
set_option maxRecDepth 100000 in
def fX7_leftTotal (a0 : Int32) (M : ml_M) : Option ml_R :=
  ml_bd (fX7_colourOf a0 M) (fun r1 M2 => ml_jn (fun (y3 : Int32) => ml_bd (fX7_isFine y3 M2) (fun r6 M7 => ml_jn (fun (y8 : Int32) (M9 : ml_M) => some (.inl y8, M9)) (fun B10 => (if r6 = 0 then B10 0 M7 else ml_bd (fX7_colourOf a0 M7) (fun r12 M13 => if ml_ok (8 + r12) 960 then B10 (M13 12 (8 + r12).toNatClampNeg) M13 else none))))) (fun B4 => (if r1 < 0 then B4 0 else B4 1)))
set_option maxHeartbeats 4000000 in
set_option maxRecDepth 100000 in
theorem fX7_leftTotal_c (a0 : Int32) (M : ml_M) (res : ml_R) {g : ml_G} (hst : g.2.2.2.2.2.stackTraces = false) (h : fX7_leftTotal a0 M = some res) : ml_C yX7_leftTotal cX7_leftTotal 2 (some .int) 2 0 0 g (fun r _ => some (.int r)) [ml_rf g 11, .int a0] M res := by
  refine ml_of [(0, ml_rf g 11), (1, .int a0)] hst (by decide) (Nat.le_of_ble_eq_true rfl) rfl (fun E F => ?_)
  unfold fX7_leftTotal at h
  refine ml_aload_n (q := 0) F dX7_leftTotal_0 rfl rfl ?_
  refine ml_iload_n (q := 1) F dX7_leftTotal_1 rfl rfl ?_
  refine ml_callS (av := [.int a0]) F h (fun rs h9 => fX7_colourOf_c a0 M rs hst h9) wcX7_colourOf mlX7_95 wdX7_colourOf (by decide) (by decide) (by decide) rfl stX7_colourOf rfl (Nat.le_of_ble_eq_true rfl) dX7_leftTotal_2 (fun r1 M2 h => ?_)
  refine ml_jnR (P := fun B => ∀ (y3 : Int32), B y3 = some res → ml_J E g 2 (ml_Z E g (fun r _ => some (.int r)) res 0 0) (0 + 0) (0 + 0) 13 [(0, ml_rf g 11), (1, .int a0)] (.int y3 :: ml_rf g 11 :: []) M2) h ?_ (fun jn5 h => ?_)
  · intro y3 h
    dsimp only at h
    refine ml_callV (av := [.int y3]) (T := TX7) (N := 16) F (pc11 g) rfl h (fun rs h9 => fX7_isFine_c y3 M2 rs hst h9) wcX7_isFine mlX7_134 wdX7_isFine (by decide) (by decide) (by decide) rfl seX7_isFine imX7_isFine rfl (Nat.le_of_ble_eq_true rfl) dX7_leftTotal_13 (fun r6 M7 h => ?_)
    refine ml_jnR (P := fun B => ∀ (y8 : Int32) (M9 : ml_M), B y8 M9 = some res → ml_J E g 2 (ml_Z E g (fun r _ => some (.int r)) res 0 0) (0 + 0 + 0) (0 + 0 + 0) 35 [(0, ml_rf g 11), (1, .int a0)] (.int y8 :: []) M9) h ?_ (fun jn11 h => ?_)
    · intro y8 M9 h
      dsimp only at h
      exact ml_iret (st := []) F (Option.some.inj h) rfl rfl rfl (by decide) (by decide) dX7_leftTotal_35
    refine ml_if_eq (tgt := 34) F dX7_leftTotal_16 (by decide) h (fun _ h => ?_) (fun _ h => ?_)
    · refine ml_iconst (v := 0) F dX7_leftTotal_34 (by decide) ?_
      exact ml_sub [0, 1] rfl (jn11 _ _ h)
    · refine ml_aload_n (q := 0) F dX7_leftTotal_19 rfl rfl ?_
      refine ml_get (v := ml_rf g 12) F (pc11 g) rfl iaX7 1 (by decide) lkX7_9 rfl rfl dX7_leftTotal_20 ?_
      refine ml_bipush (v := 8) F dX7_leftTotal_23 (by decide) ?_
      refine ml_iload_n (q := 1) F dX7_leftTotal_25 rfl rfl ?_
      refine ml_callS (av := [.int a0]) F h (fun rs h9 => fX7_colourOf_c a0 M7 rs hst h9) wcX7_colourOf mlX7_95 wdX7_colourOf (by decide) (by decide) (by decide) rfl stX7_colourOf rfl (Nat.le_of_ble_eq_true rfl) dX7_leftTotal_26 (fun r12 M13 h => ?_)
      refine ml_iadd F dX7_leftTotal_29 ?_
      refine ml_iald F (pc12 g) h dX7_leftTotal_30 (fun h => ?_)
      refine ml_goto (tgt := 35) F dX7_leftTotal_31 (by decide) ?_
      exact ml_sub [0, 1] rfl (jn11 _ _ h)
  refine ml_if_lt (tgt := 12) F dX7_leftTotal_5 (by decide) h (fun _ h => ?_) (fun _ h => ?_)
  · refine ml_iconst (v := 0) F dX7_leftTotal_12 (by decide) ?_
    exact ml_sub [0, 1] rfl (jn5 _ h)
  · refine ml_iconst (v := 1) F dX7_leftTotal_8 (by decide) ?_
    refine ml_goto (tgt := 13) F dX7_leftTotal_9 (by decide) ?_
    exact ml_sub [0, 1] rfl (jn5 _ h)
set_option maxRecDepth 100000 in
def fX7_isMarked_s0 (rec : Int32 → ml_M → Option ml_R) (x1 : Int32) (M : ml_M) : Option ml_R :=
  (if (M 12 6) ≤ x1 then some (.inl 0, M) else ml_bd (fX7_b x1 4 M) (fun r1 M2 => (if r1 = 1 then some (.inl 1, M2) else rec (x1 + 1) M2)))
def fX7_isMarked_l : Nat → Int32 → ml_M → Option ml_R
  | 0 => fun _ _ => none
  | n + 1 => fX7_isMarked_s0 (fX7_isMarked_l n)
set_option maxHeartbeats 4000000 in
set_option maxRecDepth 100000 in
theorem fX7_isMarked_w {E : ml_E} {g : ml_G} {res : ml_R} (F : ml_F E g cX7_isMarked yX7_isMarked.cls 2 2 0 0 (some .boolean) []) : ∀ fuel : Nat, ∀ (x1 : Int32) (M : ml_M), fX7_isMarked_l fuel x1 M = some res → ml_J E g 2 (ml_Z E g (fun r _ => some (.int r)) res 0 0) 0 0 2 [(0, ml_rf g 11), (1, .int x1)] [] M := by
  have hst := ml_F_st F
  intro fuel
  induction fuel with
  | zero => intro _ _ h; exact nomatch (show (none : Option ml_R) = some res from h)
  | succ fuel ih =>
    intro x1 M h
    replace h : fX7_isMarked_s0 (fX7_isMarked_l fuel) x1 M = some res := h
    unfold fX7_isMarked_s0 at h
    refine ml_iload_n (q := 1) F dX7_isMarked_2 rfl rfl ?_
    refine ml_aload_n (q := 0) F dX7_isMarked_3 rfl rfl ?_
    refine ml_get (v := ml_rf g 12) F (pc11 g) rfl iaX7 1 (by decide) lkX7_9 rfl rfl dX7_isMarked_4 ?_
    refine ml_bipush (v := 6) F dX7_isMarked_7 (by decide) ?_
    refine ml_ialdK (j := 6) F (pc12 g) (by decide) (by decide) dX7_isMarked_9 ?_
    refine ml_icmp_ge (tgt := 31) F dX7_isMarked_10 (by decide) h (fun _ h => ?_) (fun _ h => ?_)
    · refine ml_iconst (v := 0) F dX7_isMarked_31 (by decide) ?_
      exact ml_iret (st := []) F (Option.some.inj h) rfl rfl (by decide) (by decide) (by decide) dX7_isMarked_32
    · refine ml_aload_n (q := 0) F dX7_isMarked_13 rfl rfl ?_
      refine ml_iload_n (q := 1) F dX7_isMarked_14 rfl rfl ?_
      refine ml_iconst (v := 4) F dX7_isMarked_15 (by decide) ?_
      refine ml_callV (av := [.int x1, .int 4]) (T := TX7) (N := 16) F (pc11 g) rfl h (fun rs h9 => fX7_b_c x1 4 M rs hst h9) wcX7_b mlX7_61 wdX7_b (by decide) (by decide) (by decide) rfl seX7_b imX7_b rfl (Nat.le_of_ble_eq_true rfl) dX7_isMarked_16 (fun r1 M2 h => ?_)
      refine ml_iconst (v := 1) F dX7_isMarked_19 (by decide) ?_
      refine ml_icmp_ne (tgt := 25) F dX7_isMarked_20 (by decide) h (fun _ h => ?_) (fun _ h => ?_)
      · refine ml_iinc (q := 1) (v := x1 + 1) (ls2 := [(1, .int (x1 + 1)), (0, ml_rf g 11)]) F dX7_isMarked_25 rfl rfl (by decide) rfl ?_
        refine ml_goto (tgt := 2) F dX7_isMarked_28 (by decide) ?_
        exact ml_sub [1, 0] rfl (ih _ _ h)
      · refine ml_iconst (v := 1) F dX7_isMarked_23 (by decide) ?_
        exact ml_iret (st := []) F (Option.some.inj h) rfl rfl (by decide) (by decide) (by decide) dX7_isMarked_24
set_option maxRecDepth 100000 in
def fX7_isMarked (M : ml_M) : Option ml_R :=
  fX7_isMarked_l ml_fuel 0 M
set_option maxHeartbeats 4000000 in
set_option maxRecDepth 100000 in
theorem fX7_isMarked_c (M : ml_M) (res : ml_R) {g : ml_G} (hst : g.2.2.2.2.2.stackTraces = false) (h : fX7_isMarked M = some res) : ml_C yX7_isMarked cX7_isMarked 2 (some .boolean) 2 0 0 g (fun r _ => some (.int r)) [ml_rf g 11] M res := by
  refine ml_of [(0, ml_rf g 11)] hst (by decide) (Nat.le_of_ble_eq_true rfl) rfl (fun E F => ?_)
  unfold fX7_isMarked at h
  refine ml_iconst (v := 0) F dX7_isMarked_0 (by decide) ?_
  refine ml_istore_n (ls2 := [(1, .int 0), (0, ml_rf g 11)]) F dX7_isMarked_1 rfl (by decide) rfl ?_
  exact ml_sub [1, 0] rfl ((fX7_isMarked_w F ml_fuel) _ _ h)
set_option maxRecDepth 100000 in
def fX7_minutesUntilLeaving_s0 (a0 : Int32) (rec : Int32 → Int32 → Int32 → ml_M → Option ml_R) (x1 x2 x3 : Int32) (M : ml_M) : Option ml_R :=
  ml_jn (fun (_u : Unit) => ml_bd (fX7_copies 11 0 M) (fun r3 M4 => ml_jn (fun (y5 : Int32) => ml_lt (ml_w M4 11 0 y5) (fun M8 => ml_jn (fun (y9 : Int32) => some (.inl y9, M8)) (fun B10 => (if 0 ≤ x2 then B10 x2 else B10 0)))) (fun B6 => (if 0 ≤ x2 then B6 0 else B6 2)))) (fun B1 => (if 0 ≤ x2 then B1 () else (if 200 < x3 then B1 () else ml_bd (fX7_ticks M) (fun r12 M13 => ml_bd (fX7_isMarked M13) (fun r14 M15 => ml_jn (fun (y16 : Int32) => rec x1 y16 (x3 + 1) M15) (fun B17 => (if r14 = 0 then B17 x3 else B17 (-1))))))))
def fX7_minutesUntilLeaving_l (a0 : Int32) : Nat → Int32 → Int32 → Int32 → ml_M → Option ml_R
  | 0 => fun _ _ _ _ => none
  | n + 1 => fX7_minutesUntilLeaving_s0 a0 (fX7_minutesUntilLeaving_l a0 n)
set_option maxHeartbeats 4000000 in
set_option maxRecDepth 100000 in
theorem fX7_minutesUntilLeaving_w (a0 : Int32) {E : ml_E} {g : ml_G} {res : ml_R} (F : ml_F E g cX7_minutesUntilLeaving yX7_minutesUntilLeaving.cls 5 6 0 0 (some .int) []) : ∀ fuel : Nat, ∀ (x1 x2 x3 : Int32) (M : ml_M), fX7_minutesUntilLeaving_l a0 fuel x1 x2 x3 M = some res → ml_J E g 5 (ml_Z E g (fun r _ => some (.int r)) res 0 0) 0 0 32 [(0, ml_rf g 11), (1, .int x1), (2, .int x2), (3, .int x3)] [] M := by
  have hst := ml_F_st F
  intro fuel
  induction fuel with
  | zero => intro _ _ _ _ h; exact nomatch (show (none : Option ml_R) = some res from h)
  | succ fuel ih =>
    intro x1 x2 x3 M h
    replace h : fX7_minutesUntilLeaving_s0 a0 (fX7_minutesUntilLeaving_l a0 fuel) x1 x2 x3 M = some res := h
    unfold fX7_minutesUntilLeaving_s0 at h
    refine ml_iload_n (q := 2) F dX7_minutesUntilLeaving_32 rfl rfl ?_
    refine ml_jnR (P := fun B => ∀ (_u : Unit), B () = some res → ml_J E g 5 (ml_Z E g (fun r _ => some (.int r)) res 0 0) (0) (0) 68 [(0, ml_rf g 11), (1, .int x1), (2, .int x2), (3, .int x3)] ([]) M) h ?_ (fun jn2 h => ?_)
    · intro _u h
      dsimp only at h
      refine ml_aload_n (q := 0) F dX7_minutesUntilLeaving_68 rfl rfl ?_
      refine ml_bipush (v := 11) F dX7_minutesUntilLeaving_69 (by decide) ?_
      refine ml_iconst (v := 0) F dX7_minutesUntilLeaving_71 (by decide) ?_
      refine ml_callV (av := [.int 11, .int 0]) (T := TX7) (N := 16) F (pc11 g) rfl h (fun rs h9 => fX7_copies_c 11 0 M rs hst h9) wcX7_copies mlX7_33 wdX7_copies (by decide) (by decide) (by decide) rfl seX7_copies imX7_copies rfl (Nat.le_of_ble_eq_true rfl) dX7_minutesUntilLeaving_72 (fun r3 M4 h => ?_)
      refine ml_aload_n (q := 0) F dX7_minutesUntilLeaving_75 rfl rfl ?_
      refine ml_iload_n (q := 2) F dX7_minutesUntilLeaving_76 rfl rfl ?_
      refine ml_jnR (P := fun B => ∀ (y5 : Int32), B y5 = some res → ml_J E g 5 (ml_Z E g (fun r _ => some (.int r)) res 0 0) (0 + 0) (0 + 0) 85 [(0, ml_rf g 11), (1, .int x1), (2, .int x2), (3, .int x3)] (.int y5 :: ml_rf g 11 :: []) M4) h ?_ (fun jn7 h => ?_)
      · intro y5 h
        dsimp only at h
        refine ml_set F (pc11 g) rfl iaX7 tyX7_ok nmX7 0 (by decide) lkX7_30 rfl rfl rfl rfl rfl (Nat.le_of_ble_eq_true rfl) (fun m => by simp [upd]) dX7_minutesUntilLeaving_85 ?_
        refine ml_ltM h (fun M8 _ h => ?_)
        refine ml_iload_n (q := 2) F dX7_minutesUntilLeaving_88 rfl rfl ?_
        refine ml_jnR (P := fun B => ∀ (y9 : Int32), B y9 = some res → ml_J E g 5 (ml_Z E g (fun r _ => some (.int r)) res 0 0) (0 + 0) (0 + 0) 97 [(0, ml_rf g 11), (1, .int x1), (2, .int x2), (3, .int x3)] (.int y9 :: []) M8) h ?_ (fun jn11 h => ?_)
        · intro y9 h
          dsimp only at h
          exact ml_iret (st := []) F (Option.some.inj h) rfl rfl rfl (by decide) (by decide) dX7_minutesUntilLeaving_97
        refine ml_if_ge (tgt := 96) F dX7_minutesUntilLeaving_89 (by decide) h (fun _ h => ?_) (fun _ h => ?_)
        · refine ml_iload_n (q := 2) F dX7_minutesUntilLeaving_96 rfl rfl ?_
          exact ml_sub [0, 1, 2, 3] rfl (jn11 _ h)
        · refine ml_iconst (v := 0) F dX7_minutesUntilLeaving_92 (by decide) ?_
          refine ml_goto (tgt := 97) F dX7_minutesUntilLeaving_93 (by decide) ?_
          exact ml_sub [0, 1, 2, 3] rfl (jn11 _ h)
      refine ml_if_ge (tgt := 84) F dX7_minutesUntilLeaving_77 (by decide) h (fun _ h => ?_) (fun _ h => ?_)
      · refine ml_iconst (v := 0) F dX7_minutesUntilLeaving_84 (by decide) ?_
        exact ml_sub [0, 1, 2, 3] rfl (jn7 _ h)
      · refine ml_iconst (v := 2) F dX7_minutesUntilLeaving_80 (by decide) ?_
        refine ml_goto (tgt := 85) F dX7_minutesUntilLeaving_81 (by decide) ?_
        exact ml_sub [0, 1, 2, 3] rfl (jn7 _ h)
    refine ml_if_ge (tgt := 68) F dX7_minutesUntilLeaving_33 (by decide) h (fun _ h => ?_) (fun _ h => ?_)
    · exact ml_sub [0, 1, 2, 3] rfl (jn2 () h)
    · refine ml_iload_n (q := 3) F dX7_minutesUntilLeaving_36 rfl rfl ?_
      refine ml_sipush (v := 200) F dX7_minutesUntilLeaving_37 (by decide) ?_
      refine ml_icmp_gt (tgt := 68) F dX7_minutesUntilLeaving_40 (by decide) h (fun _ h => ?_) (fun _ h => ?_)
      · exact ml_sub [0, 1, 2, 3] rfl (jn2 () h)
      · refine ml_aload_n (q := 0) F dX7_minutesUntilLeaving_43 rfl rfl ?_
        refine ml_callV (av := []) (T := TX7) (N := 16) F (pc11 g) rfl h (fun rs h9 => fX7_ticks_c M rs hst h9) wcX7_ticks mlX7_125 wdX7_ticks (by decide) (by decide) (by decide) rfl seX7_ticks imX7_ticks rfl (Nat.le_of_ble_eq_true rfl) dX7_minutesUntilLeaving_44 (fun r12 M13 h => ?_)
        refine ml_istore (ls2 := [(4, .int r12), (0, ml_rf g 11), (1, .int x1), (2, .int x2), (3, .int x3)]) F dX7_minutesUntilLeaving_47 (by decide) rfl ?_
        refine ml_aload_n (q := 1) F dX7_minutesUntilLeaving_49 rfl rfl ?_
        refine ml_callV (av := []) (T := TX7) (N := 16) F (pc11 g) rfl h (fun rs h9 => fX7_isMarked_c M13 rs hst h9) wcX7_isMarked mlX7_160 wdX7_isMarked (by decide) (by decide) (by decide) rfl seX7_isMarked imX7_isMarked rfl (Nat.le_of_ble_eq_true rfl) dX7_minutesUntilLeaving_50 (fun r14 M15 h => ?_)
        refine ml_jnR (P := fun B => ∀ (y16 : Int32), B y16 = some res → ml_J E g 5 (ml_Z E g (fun r _ => some (.int r)) res 0 0) (0 + 0 + 0) (0 + 0 + 0) 61 [(0, ml_rf g 11), (1, .int x1), (2, .int x2), (3, .int x3), (4, .int r12)] (.int y16 :: []) M15) h ?_ (fun jn18 h => ?_)
        · intro y16 h
          dsimp only at h
          refine ml_istore_n (ls2 := [(2, .int y16), (0, ml_rf g 11), (1, .int x1), (3, .int x3), (4, .int r12)]) F dX7_minutesUntilLeaving_61 rfl (by decide) rfl ?_
          refine ml_iinc (q := 3) (v := x3 + 1) (ls2 := [(3, .int (x3 + 1)), (2, .int y16), (0, ml_rf g 11), (1, .int x1), (4, .int r12)]) F dX7_minutesUntilLeaving_62 rfl rfl (by decide) rfl ?_
          refine ml_goto (tgt := 32) F dX7_minutesUntilLeaving_65 (by decide) ?_
          exact ml_sub [2, 3, 1, 0] rfl (ih _ _ _ _ h)
        refine ml_if_eq (tgt := 60) F dX7_minutesUntilLeaving_53 (by decide) h (fun _ h => ?_) (fun _ h => ?_)
        · refine ml_iload_n (q := 4) F dX7_minutesUntilLeaving_60 rfl rfl ?_
          exact ml_sub [1, 2, 3, 4, 0] rfl (jn18 _ h)
        · refine ml_iconst (v := (-1)) F dX7_minutesUntilLeaving_56 (by decide) ?_
          refine ml_goto (tgt := 61) F dX7_minutesUntilLeaving_57 (by decide) ?_
          exact ml_sub [1, 2, 3, 4, 0] rfl (jn18 _ h)
set_option maxRecDepth 100000 in
def fX7_minutesUntilLeaving (a0 : Int32) (M : ml_M) : Option ml_R :=
  ml_bd (fX7_isBoat a0 M) (fun r1 M2 => ml_bd (fX7_isFine r1 M2) (fun r3 M4 => (if r3 = 0 then some (.inl 0, M4) else ml_bd (fX7_copies 0 11 M4) (fun r5 M6 => ml_bd (fX7_set a0 4 1 M6) (fun r7 M8 => fX7_minutesUntilLeaving_l a0 ml_fuel a0 (-1) 1 M8)))))
set_option maxHeartbeats 4000000 in
set_option maxRecDepth 100000 in
theorem fX7_minutesUntilLeaving_c (a0 : Int32) (M : ml_M) (res : ml_R) {g : ml_G} (hst : g.2.2.2.2.2.stackTraces = false) (h : fX7_minutesUntilLeaving a0 M = some res) : ml_C yX7_minutesUntilLeaving cX7_minutesUntilLeaving 5 (some .int) 6 0 0 g (fun r _ => some (.int r)) [ml_rf g 11, .int a0] M res := by
  refine ml_of [(0, ml_rf g 11), (1, .int a0)] hst (by decide) (Nat.le_of_ble_eq_true rfl) rfl (fun E F => ?_)
  unfold fX7_minutesUntilLeaving at h
  refine ml_aload_n (q := 0) F dX7_minutesUntilLeaving_0 rfl rfl ?_
  refine ml_aload_n (q := 0) F dX7_minutesUntilLeaving_1 rfl rfl ?_
  refine ml_iload_n (q := 1) F dX7_minutesUntilLeaving_2 rfl rfl ?_
  refine ml_callV (av := [.int a0]) (T := TX7) (N := 16) F (pc11 g) rfl h (fun rs h9 => fX7_isBoat_c a0 M rs hst h9) wcX7_isBoat mlX7_150 wdX7_isBoat (by decide) (by decide) (by decide) rfl seX7_isBoat imX7_isBoat rfl (Nat.le_of_ble_eq_true rfl) dX7_minutesUntilLeaving_3 (fun r1 M2 h => ?_)
  refine ml_callV (av := [.int r1]) (T := TX7) (N := 16) F (pc11 g) rfl h (fun rs h9 => fX7_isFine_c r1 M2 rs hst h9) wcX7_isFine mlX7_134 wdX7_isFine (by decide) (by decide) (by decide) rfl seX7_isFine imX7_isFine rfl (Nat.le_of_ble_eq_true rfl) dX7_minutesUntilLeaving_6 (fun r3 M4 h => ?_)
  refine ml_if_ne (tgt := 14) F dX7_minutesUntilLeaving_9 (by decide) h (fun _ h => ?_) (fun _ h => ?_)
  · refine ml_iconst (v := (-1)) F dX7_minutesUntilLeaving_14 (by decide) ?_
    refine ml_istore_n (ls2 := [(2, .int (-1)), (0, ml_rf g 11), (1, .int a0)]) F dX7_minutesUntilLeaving_15 rfl (by decide) rfl ?_
    refine ml_aload_n (q := 1) F dX7_minutesUntilLeaving_16 rfl rfl ?_
    refine ml_iconst (v := 0) F dX7_minutesUntilLeaving_17 (by decide) ?_
    refine ml_bipush (v := 11) F dX7_minutesUntilLeaving_18 (by decide) ?_
    refine ml_callV (av := [.int 0, .int 11]) (T := TX7) (N := 16) F (pc11 g) rfl h (fun rs h9 => fX7_copies_c 0 11 M4 rs hst h9) wcX7_copies mlX7_33 wdX7_copies (by decide) (by decide) (by decide) rfl seX7_copies imX7_copies rfl (Nat.le_of_ble_eq_true rfl) dX7_minutesUntilLeaving_20 (fun r5 M6 h => ?_)
    refine ml_aload_n (q := 1) F dX7_minutesUntilLeaving_23 rfl rfl ?_
    refine ml_iload_n (q := 2) F dX7_minutesUntilLeaving_24 rfl rfl ?_
    refine ml_iconst (v := 4) F dX7_minutesUntilLeaving_25 (by decide) ?_
    refine ml_iconst (v := 1) F dX7_minutesUntilLeaving_26 (by decide) ?_
    refine ml_callV (av := [.int a0, .int 4, .int 1]) (T := TX7) (N := 16) F (pc11 g) rfl h (fun rs h9 => fX7_set_c a0 4 1 M6 rs hst h9) wcX7_set mlX7_64 wdX7_set (by decide) (by decide) (by decide) rfl seX7_set imX7_set rfl (Nat.le_of_ble_eq_true rfl) dX7_minutesUntilLeaving_27 (fun r7 M8 h => ?_)
    refine ml_iconst (v := 1) F dX7_minutesUntilLeaving_30 (by decide) ?_
    refine ml_istore_n (ls2 := [(3, .int 1), (2, .int (-1)), (0, ml_rf g 11), (1, .int a0)]) F dX7_minutesUntilLeaving_31 rfl (by decide) rfl ?_
    exact ml_sub [2, 3, 1, 0] rfl ((fX7_minutesUntilLeaving_w a0 F ml_fuel) _ _ _ _ h)
  · refine ml_iconst (v := 0) F dX7_minutesUntilLeaving_12 (by decide) ?_
    exact ml_iret (st := []) F (Option.some.inj h) rfl rfl rfl (by decide) (by decide) dX7_minutesUntilLeaving_13
set_option maxRecDepth 100000 in
def fX7_minutesUntilEqual_s0 (a0 : Int32) (rec : Int32 → Int32 → Int32 → ml_M → Option ml_R) (x1 x2 x3 : Int32) (M : ml_M) : Option ml_R :=
  ml_jn (fun (_u : Unit) => ml_bd (fX7_copies 11 0 M) (fun r3 M4 => ml_jn (fun (y5 : Int32) => ml_lt (ml_w M4 11 0 y5) (fun M8 => ml_jn (fun (y9 : Int32) => some (.inl y9, M8)) (fun B10 => (if 0 ≤ x2 then B10 x2 else B10 0)))) (fun B6 => (if 0 ≤ x2 then B6 0 else B6 2)))) (fun B1 => (if 0 ≤ x2 then B1 () else (if 200 < x3 then B1 () else ml_bd (fX7_ticks M) (fun r12 M13 => ml_bd (fX7_equal x1 M13) (fun r14 M15 => ml_jn (fun (y16 : Int32) => rec x1 y16 (x3 + 1) M15) (fun B17 => (if r14 = 0 then B17 x3 else B17 (-1))))))))
def fX7_minutesUntilEqual_l (a0 : Int32) : Nat → Int32 → Int32 → Int32 → ml_M → Option ml_R
  | 0 => fun _ _ _ _ => none
  | n + 1 => fX7_minutesUntilEqual_s0 a0 (fX7_minutesUntilEqual_l a0 n)
set_option maxHeartbeats 4000000 in
set_option maxRecDepth 100000 in
theorem fX7_minutesUntilEqual_w (a0 : Int32) {E : ml_E} {g : ml_G} {res : ml_R} (F : ml_F E g cX7_minutesUntilEqual yX7_minutesUntilEqual.cls 5 6 0 0 (some .int) []) : ∀ fuel : Nat, ∀ (x1 x2 x3 : Int32) (M : ml_M), fX7_minutesUntilEqual_l a0 fuel x1 x2 x3 M = some res → ml_J E g 5 (ml_Z E g (fun r _ => some (.int r)) res 0 0) 0 0 36 [(0, ml_rf g 11), (1, .int x1), (2, .int x2), (3, .int x3)] [] M := by
  have hst := ml_F_st F
  intro fuel
  induction fuel with
  | zero => intro _ _ _ _ h; exact nomatch (show (none : Option ml_R) = some res from h)
  | succ fuel ih =>
    intro x1 x2 x3 M h
    replace h : fX7_minutesUntilEqual_s0 a0 (fX7_minutesUntilEqual_l a0 fuel) x1 x2 x3 M = some res := h
    unfold fX7_minutesUntilEqual_s0 at h
    refine ml_iload_n (q := 2) F dX7_minutesUntilEqual_36 rfl rfl ?_
    refine ml_jnR (P := fun B => ∀ (_u : Unit), B () = some res → ml_J E g 5 (ml_Z E g (fun r _ => some (.int r)) res 0 0) (0) (0) 73 [(0, ml_rf g 11), (1, .int x1), (2, .int x2), (3, .int x3)] ([]) M) h ?_ (fun jn2 h => ?_)
    · intro _u h
      dsimp only at h
      refine ml_aload_n (q := 0) F dX7_minutesUntilEqual_73 rfl rfl ?_
      refine ml_bipush (v := 11) F dX7_minutesUntilEqual_74 (by decide) ?_
      refine ml_iconst (v := 0) F dX7_minutesUntilEqual_76 (by decide) ?_
      refine ml_callV (av := [.int 11, .int 0]) (T := TX7) (N := 16) F (pc11 g) rfl h (fun rs h9 => fX7_copies_c 11 0 M rs hst h9) wcX7_copies mlX7_33 wdX7_copies (by decide) (by decide) (by decide) rfl seX7_copies imX7_copies rfl (Nat.le_of_ble_eq_true rfl) dX7_minutesUntilEqual_77 (fun r3 M4 h => ?_)
      refine ml_aload_n (q := 0) F dX7_minutesUntilEqual_80 rfl rfl ?_
      refine ml_iload_n (q := 2) F dX7_minutesUntilEqual_81 rfl rfl ?_
      refine ml_jnR (P := fun B => ∀ (y5 : Int32), B y5 = some res → ml_J E g 5 (ml_Z E g (fun r _ => some (.int r)) res 0 0) (0 + 0) (0 + 0) 90 [(0, ml_rf g 11), (1, .int x1), (2, .int x2), (3, .int x3)] (.int y5 :: ml_rf g 11 :: []) M4) h ?_ (fun jn7 h => ?_)
      · intro y5 h
        dsimp only at h
        refine ml_set F (pc11 g) rfl iaX7 tyX7_ok nmX7 0 (by decide) lkX7_30 rfl rfl rfl rfl rfl (Nat.le_of_ble_eq_true rfl) (fun m => by simp [upd]) dX7_minutesUntilEqual_90 ?_
        refine ml_ltM h (fun M8 _ h => ?_)
        refine ml_iload_n (q := 2) F dX7_minutesUntilEqual_93 rfl rfl ?_
        refine ml_jnR (P := fun B => ∀ (y9 : Int32), B y9 = some res → ml_J E g 5 (ml_Z E g (fun r _ => some (.int r)) res 0 0) (0 + 0) (0 + 0) 102 [(0, ml_rf g 11), (1, .int x1), (2, .int x2), (3, .int x3)] (.int y9 :: []) M8) h ?_ (fun jn11 h => ?_)
        · intro y9 h
          dsimp only at h
          exact ml_iret (st := []) F (Option.some.inj h) rfl rfl rfl (by decide) (by decide) dX7_minutesUntilEqual_102
        refine ml_if_ge (tgt := 101) F dX7_minutesUntilEqual_94 (by decide) h (fun _ h => ?_) (fun _ h => ?_)
        · refine ml_iload_n (q := 2) F dX7_minutesUntilEqual_101 rfl rfl ?_
          exact ml_sub [0, 1, 2, 3] rfl (jn11 _ h)
        · refine ml_iconst (v := 0) F dX7_minutesUntilEqual_97 (by decide) ?_
          refine ml_goto (tgt := 102) F dX7_minutesUntilEqual_98 (by decide) ?_
          exact ml_sub [0, 1, 2, 3] rfl (jn11 _ h)
      refine ml_if_ge (tgt := 89) F dX7_minutesUntilEqual_82 (by decide) h (fun _ h => ?_) (fun _ h => ?_)
      · refine ml_iconst (v := 0) F dX7_minutesUntilEqual_89 (by decide) ?_
        exact ml_sub [0, 1, 2, 3] rfl (jn7 _ h)
      · refine ml_iconst (v := 2) F dX7_minutesUntilEqual_85 (by decide) ?_
        refine ml_goto (tgt := 90) F dX7_minutesUntilEqual_86 (by decide) ?_
        exact ml_sub [0, 1, 2, 3] rfl (jn7 _ h)
    refine ml_if_ge (tgt := 73) F dX7_minutesUntilEqual_37 (by decide) h (fun _ h => ?_) (fun _ h => ?_)
    · exact ml_sub [0, 1, 2, 3] rfl (jn2 () h)
    · refine ml_iload_n (q := 3) F dX7_minutesUntilEqual_40 rfl rfl ?_
      refine ml_sipush (v := 200) F dX7_minutesUntilEqual_41 (by decide) ?_
      refine ml_icmp_gt (tgt := 73) F dX7_minutesUntilEqual_44 (by decide) h (fun _ h => ?_) (fun _ h => ?_)
      · exact ml_sub [0, 1, 2, 3] rfl (jn2 () h)
      · refine ml_aload_n (q := 0) F dX7_minutesUntilEqual_47 rfl rfl ?_
        refine ml_callV (av := []) (T := TX7) (N := 16) F (pc11 g) rfl h (fun rs h9 => fX7_ticks_c M rs hst h9) wcX7_ticks mlX7_125 wdX7_ticks (by decide) (by decide) (by decide) rfl seX7_ticks imX7_ticks rfl (Nat.le_of_ble_eq_true rfl) dX7_minutesUntilEqual_48 (fun r12 M13 h => ?_)
        refine ml_istore (ls2 := [(4, .int r12), (0, ml_rf g 11), (1, .int x1), (2, .int x2), (3, .int x3)]) F dX7_minutesUntilEqual_51 (by decide) rfl ?_
        refine ml_aload_n (q := 1) F dX7_minutesUntilEqual_53 rfl rfl ?_
        refine ml_iload_n (q := 2) F dX7_minutesUntilEqual_54 rfl rfl ?_
        refine ml_callV (av := [.int x1]) (T := TX7) (N := 16) F (pc11 g) rfl h (fun rs h9 => fX7_equal_c x1 M13 rs hst h9) wcX7_equal mlX7_55 wdX7_equal (by decide) (by decide) (by decide) rfl seX7_equal imX7_equal rfl (Nat.le_of_ble_eq_true rfl) dX7_minutesUntilEqual_55 (fun r14 M15 h => ?_)
        refine ml_jnR (P := fun B => ∀ (y16 : Int32), B y16 = some res → ml_J E g 5 (ml_Z E g (fun r _ => some (.int r)) res 0 0) (0 + 0 + 0) (0 + 0 + 0) 66 [(0, ml_rf g 11), (1, .int x1), (2, .int x2), (3, .int x3), (4, .int r12)] (.int y16 :: []) M15) h ?_ (fun jn18 h => ?_)
        · intro y16 h
          dsimp only at h
          refine ml_istore_n (ls2 := [(2, .int y16), (0, ml_rf g 11), (1, .int x1), (3, .int x3), (4, .int r12)]) F dX7_minutesUntilEqual_66 rfl (by decide) rfl ?_
          refine ml_iinc (q := 3) (v := x3 + 1) (ls2 := [(3, .int (x3 + 1)), (2, .int y16), (0, ml_rf g 11), (1, .int x1), (4, .int r12)]) F dX7_minutesUntilEqual_67 rfl rfl (by decide) rfl ?_
          refine ml_goto (tgt := 36) F dX7_minutesUntilEqual_70 (by decide) ?_
          exact ml_sub [2, 3, 1, 0] rfl (ih _ _ _ _ h)
        refine ml_if_ne (tgt := 65) F dX7_minutesUntilEqual_58 (by decide) h (fun _ h => ?_) (fun _ h => ?_)
        · refine ml_iconst (v := (-1)) F dX7_minutesUntilEqual_65 (by decide) ?_
          exact ml_sub [1, 2, 3, 4, 0] rfl (jn18 _ h)
        · refine ml_iload_n (q := 4) F dX7_minutesUntilEqual_61 rfl rfl ?_
          refine ml_goto (tgt := 66) F dX7_minutesUntilEqual_62 (by decide) ?_
          exact ml_sub [1, 2, 3, 4, 0] rfl (jn18 _ h)
set_option maxRecDepth 100000 in
def fX7_minutesUntilEqual (a0 : Int32) (M : ml_M) : Option ml_R :=
  ml_bd (fX7_isGate a0 M) (fun r1 M2 => ml_bd (fX7_isFine r1 M2) (fun r3 M4 => (if r3 = 0 then some (.inl 0, M4) else ml_bd (fX7_equal a0 M4) (fun r5 M6 => ml_jn (fun (y7 : Int32) => ml_bd (fX7_copies 0 11 M6) (fun r10 M11 => fX7_minutesUntilEqual_l a0 ml_fuel a0 y7 1 M11)) (fun B8 => (if r5 = 0 then B8 0 else B8 (-1)))))))
set_option maxHeartbeats 4000000 in
set_option maxRecDepth 100000 in
theorem fX7_minutesUntilEqual_c (a0 : Int32) (M : ml_M) (res : ml_R) {g : ml_G} (hst : g.2.2.2.2.2.stackTraces = false) (h : fX7_minutesUntilEqual a0 M = some res) : ml_C yX7_minutesUntilEqual cX7_minutesUntilEqual 5 (some .int) 6 0 0 g (fun r _ => some (.int r)) [ml_rf g 11, .int a0] M res := by
  refine ml_of [(0, ml_rf g 11), (1, .int a0)] hst (by decide) (Nat.le_of_ble_eq_true rfl) rfl (fun E F => ?_)
  unfold fX7_minutesUntilEqual at h
  refine ml_aload_n (q := 0) F dX7_minutesUntilEqual_0 rfl rfl ?_
  refine ml_iload_n (q := 1) F dX7_minutesUntilEqual_1 rfl rfl ?_
  refine ml_callS (av := [.int a0]) F h (fun rs h9 => fX7_isGate_c a0 M rs hst h9) wcX7_isGate mlX7_106 wdX7_isGate (by decide) (by decide) (by decide) rfl stX7_isGate rfl (Nat.le_of_ble_eq_true rfl) dX7_minutesUntilEqual_2 (fun r1 M2 h => ?_)
  refine ml_callV (av := [.int r1]) (T := TX7) (N := 16) F (pc11 g) rfl h (fun rs h9 => fX7_isFine_c r1 M2 rs hst h9) wcX7_isFine mlX7_134 wdX7_isFine (by decide) (by decide) (by decide) rfl seX7_isFine imX7_isFine rfl (Nat.le_of_ble_eq_true rfl) dX7_minutesUntilEqual_5 (fun r3 M4 h => ?_)
  refine ml_if_ne (tgt := 13) F dX7_minutesUntilEqual_8 (by decide) h (fun _ h => ?_) (fun _ h => ?_)
  · refine ml_aload_n (q := 0) F dX7_minutesUntilEqual_13 rfl rfl ?_
    refine ml_iload_n (q := 1) F dX7_minutesUntilEqual_14 rfl rfl ?_
    refine ml_callV (av := [.int a0]) (T := TX7) (N := 16) F (pc11 g) rfl h (fun rs h9 => fX7_equal_c a0 M4 rs hst h9) wcX7_equal mlX7_55 wdX7_equal (by decide) (by decide) (by decide) rfl seX7_equal imX7_equal rfl (Nat.le_of_ble_eq_true rfl) dX7_minutesUntilEqual_15 (fun r5 M6 h => ?_)
    refine ml_jnR (P := fun B => ∀ (y7 : Int32), B y7 = some res → ml_J E g 5 (ml_Z E g (fun r _ => some (.int r)) res 0 0) (0 + 0 + 0 + 0) (0 + 0 + 0 + 0) 26 [(0, ml_rf g 11), (1, .int a0)] (.int y7 :: []) M6) h ?_ (fun jn9 h => ?_)
    · intro y7 h
      dsimp only at h
      refine ml_istore_n (ls2 := [(2, .int y7), (0, ml_rf g 11), (1, .int a0)]) F dX7_minutesUntilEqual_26 rfl (by decide) rfl ?_
      refine ml_aload_n (q := 1) F dX7_minutesUntilEqual_27 rfl rfl ?_
      refine ml_iconst (v := 0) F dX7_minutesUntilEqual_28 (by decide) ?_
      refine ml_bipush (v := 11) F dX7_minutesUntilEqual_29 (by decide) ?_
      refine ml_callV (av := [.int 0, .int 11]) (T := TX7) (N := 16) F (pc11 g) rfl h (fun rs h9 => fX7_copies_c 0 11 M6 rs hst h9) wcX7_copies mlX7_33 wdX7_copies (by decide) (by decide) (by decide) rfl seX7_copies imX7_copies rfl (Nat.le_of_ble_eq_true rfl) dX7_minutesUntilEqual_31 (fun r10 M11 h => ?_)
      refine ml_iconst (v := 1) F dX7_minutesUntilEqual_34 (by decide) ?_
      refine ml_istore_n (ls2 := [(3, .int 1), (2, .int y7), (0, ml_rf g 11), (1, .int a0)]) F dX7_minutesUntilEqual_35 rfl (by decide) rfl ?_
      exact ml_sub [2, 3, 1, 0] rfl ((fX7_minutesUntilEqual_w a0 F ml_fuel) _ _ _ _ h)
    refine ml_if_ne (tgt := 25) F dX7_minutesUntilEqual_18 (by decide) h (fun _ h => ?_) (fun _ h => ?_)
    · refine ml_iconst (v := (-1)) F dX7_minutesUntilEqual_25 (by decide) ?_
      exact ml_sub [0, 1] rfl (jn9 _ h)
    · refine ml_iconst (v := 0) F dX7_minutesUntilEqual_21 (by decide) ?_
      refine ml_goto (tgt := 26) F dX7_minutesUntilEqual_22 (by decide) ?_
      exact ml_sub [0, 1] rfl (jn9 _ h)
  · refine ml_iconst (v := 0) F dX7_minutesUntilEqual_11 (by decide) ?_
    exact ml_iret (st := []) F (Option.some.inj h) rfl rfl rfl (by decide) (by decide) dX7_minutesUntilEqual_12
set_option maxRecDepth 100000 in
def fX7_volumeAfter_s0 (a0 : Int32) (a1 : Int32) (rec : Int32 → Int32 → Int32 → ml_M → Option ml_R) (x1 x2 x3 : Int32) (M : ml_M) : Option ml_R :=
  (if x2 ≤ x3 then if ml_ok (11 + x1) 960 then ml_lt (M 12 (11 + x1).toNatClampNeg) (fun v1 => ml_bd (fX7_copies 11 0 M) (fun r2 M3 => some (.inl v1, M3))) else none else ml_bd (fX7_ticks M) (fun r4 M5 => rec x1 x2 (x3 + 1) M5))
def fX7_volumeAfter_l (a0 : Int32) (a1 : Int32) : Nat → Int32 → Int32 → Int32 → ml_M → Option ml_R
  | 0 => fun _ _ _ _ => none
  | n + 1 => fX7_volumeAfter_s0 a0 a1 (fX7_volumeAfter_l a0 a1 n)
set_option maxHeartbeats 4000000 in
set_option maxRecDepth 100000 in
theorem fX7_volumeAfter_w (a0 : Int32) (a1 : Int32) {E : ml_E} {g : ml_G} {res : ml_R} (F : ml_F E g cX7_volumeAfter yX7_volumeAfter.cls 5 6 0 0 (some .int) []) : ∀ fuel : Nat, ∀ (x1 x2 x3 : Int32) (M : ml_M), fX7_volumeAfter_l a0 a1 fuel x1 x2 x3 M = some res → ml_J E g 5 (ml_Z E g (fun r _ => some (.int r)) res 0 0) 0 0 49 [(0, ml_rf g 11), (1, .int x1), (2, .int x2), (3, .int x3)] [] M := by
  have hst := ml_F_st F
  intro fuel
  induction fuel with
  | zero => intro _ _ _ _ h; exact nomatch (show (none : Option ml_R) = some res from h)
  | succ fuel ih =>
    intro x1 x2 x3 M h
    replace h : fX7_volumeAfter_s0 a0 a1 (fX7_volumeAfter_l a0 a1 fuel) x1 x2 x3 M = some res := h
    unfold fX7_volumeAfter_s0 at h
    refine ml_iload_n (q := 3) F dX7_volumeAfter_49 rfl rfl ?_
    refine ml_iload_n (q := 2) F dX7_volumeAfter_50 rfl rfl ?_
    refine ml_icmp_ge (tgt := 66) F dX7_volumeAfter_51 (by decide) h (fun _ h => ?_) (fun _ h => ?_)
    · refine ml_aload_n (q := 0) F dX7_volumeAfter_66 rfl rfl ?_
      refine ml_get (v := ml_rf g 12) F (pc11 g) rfl iaX7 1 (by decide) lkX7_9 rfl rfl dX7_volumeAfter_67 ?_
      refine ml_bipush (v := 11) F dX7_volumeAfter_70 (by decide) ?_
      refine ml_iload_n (q := 1) F dX7_volumeAfter_72 rfl rfl ?_
      refine ml_iadd F dX7_volumeAfter_73 ?_
      refine ml_iald F (pc12 g) h dX7_volumeAfter_74 (fun h => ?_)
      refine ml_ltI h (fun v1 _ h => ?_)
      refine ml_istore_n (ls2 := [(3, .int v1), (0, ml_rf g 11), (1, .int x1), (2, .int x2)]) F dX7_volumeAfter_75 rfl (by decide) rfl ?_
      refine ml_aload_n (q := 1) F dX7_volumeAfter_76 rfl rfl ?_
      refine ml_bipush (v := 11) F dX7_volumeAfter_77 (by decide) ?_
      refine ml_iconst (v := 0) F dX7_volumeAfter_79 (by decide) ?_
      refine ml_callV (av := [.int 11, .int 0]) (T := TX7) (N := 16) F (pc11 g) rfl h (fun rs h9 => fX7_copies_c 11 0 M rs hst h9) wcX7_copies mlX7_33 wdX7_copies (by decide) (by decide) (by decide) rfl seX7_copies imX7_copies rfl (Nat.le_of_ble_eq_true rfl) dX7_volumeAfter_80 (fun r2 M3 h => ?_)
      refine ml_iload_n (q := 0) F dX7_volumeAfter_83 rfl rfl ?_
      exact ml_iret (st := []) F (Option.some.inj h) rfl rfl rfl (by decide) (by decide) dX7_volumeAfter_84
    · refine ml_aload_n (q := 0) F dX7_volumeAfter_54 rfl rfl ?_
      refine ml_callV (av := []) (T := TX7) (N := 16) F (pc11 g) rfl h (fun rs h9 => fX7_ticks_c M rs hst h9) wcX7_ticks mlX7_125 wdX7_ticks (by decide) (by decide) (by decide) rfl seX7_ticks imX7_ticks rfl (Nat.le_of_ble_eq_true rfl) dX7_volumeAfter_55 (fun r4 M5 h => ?_)
      refine ml_istore (ls2 := [(4, .int r4), (0, ml_rf g 11), (1, .int x1), (2, .int x2), (3, .int x3)]) F dX7_volumeAfter_58 (by decide) rfl ?_
      refine ml_iinc (q := 4) (v := x3 + 1) (ls2 := [(3, .int (x3 + 1)), (4, .int r4), (0, ml_rf g 11), (1, .int x1), (2, .int x2)]) F dX7_volumeAfter_60 rfl rfl (by decide) rfl ?_
      refine ml_goto (tgt := 49) F dX7_volumeAfter_63 (by decide) ?_
      exact ml_sub [2, 3, 4, 0] rfl (ih _ _ _ _ h)
set_option maxRecDepth 100000 in
def fX7_volumeAfter (a0 : Int32) (a1 : Int32) (M : ml_M) : Option ml_R :=
  ml_bd (fX7_isBasin a0 M) (fun r1 M2 => ml_jn (fun (y3 : Int32) (M4 : ml_M) => ml_lt (ml_w M4 11 0 y3) (fun M7 => (if (M7 11 0) = 0 then ml_bd (fX7_copies 0 11 M7) (fun r8 M9 => fX7_volumeAfter_l a0 a1 ml_fuel a0 a1 0 M9) else some (.inl 0, M7)))) (fun B5 => (if r1 = 0 then B5 1 M2 else ml_bd (fX7_in a1 0 200 M2) (fun r10 M11 => (if r10 = 0 then B5 2 M11 else B5 0 M11)))))
set_option maxHeartbeats 4000000 in
set_option maxRecDepth 100000 in
theorem fX7_volumeAfter_c (a0 : Int32) (a1 : Int32) (M : ml_M) (res : ml_R) {g : ml_G} (hst : g.2.2.2.2.2.stackTraces = false) (h : fX7_volumeAfter a0 a1 M = some res) : ml_C yX7_volumeAfter cX7_volumeAfter 5 (some .int) 6 0 0 g (fun r _ => some (.int r)) [ml_rf g 11, .int a0, .int a1] M res := by
  refine ml_of [(0, ml_rf g 11), (1, .int a0), (2, .int a1)] hst (by decide) (Nat.le_of_ble_eq_true rfl) rfl (fun E F => ?_)
  unfold fX7_volumeAfter at h
  refine ml_aload_n (q := 0) F dX7_volumeAfter_0 rfl rfl ?_
  refine ml_iload_n (q := 1) F dX7_volumeAfter_1 rfl rfl ?_
  refine ml_callS (av := [.int a0]) F h (fun rs h9 => fX7_isBasin_c a0 M rs hst h9) wcX7_isBasin mlX7_131 wdX7_isBasin (by decide) (by decide) (by decide) rfl stX7_isBasin rfl (Nat.le_of_ble_eq_true rfl) dX7_volumeAfter_2 (fun r1 M2 h => ?_)
  refine ml_jnR (P := fun B => ∀ (y3 : Int32) (M4 : ml_M), B y3 M4 = some res → ml_J E g 5 (ml_Z E g (fun r _ => some (.int r)) res 0 0) (0 + 0 + 0) (0 + 0 + 0) 28 [(0, ml_rf g 11), (1, .int a0), (2, .int a1)] (.int y3 :: ml_rf g 11 :: []) M4) h ?_ (fun jn6 h => ?_)
  · intro y3 M4 h
    dsimp only at h
    refine ml_set F (pc11 g) rfl iaX7 tyX7_ok nmX7 0 (by decide) lkX7_30 rfl rfl rfl rfl rfl (Nat.le_of_ble_eq_true rfl) (fun m => by simp [upd]) dX7_volumeAfter_28 ?_
    refine ml_ltM h (fun M7 _ h => ?_)
    refine ml_aload_n (q := 0) F dX7_volumeAfter_31 rfl rfl ?_
    refine ml_get (v := .int (M7 11 0)) F (pc11 g) rfl iaX7 0 (by decide) lkX7_30 rfl rfl dX7_volumeAfter_32 ?_
    refine ml_if_eq (tgt := 40) F dX7_volumeAfter_35 (by decide) h (fun _ h => ?_) (fun _ h => ?_)
    · refine ml_aload_n (q := 0) F dX7_volumeAfter_40 rfl rfl ?_
      refine ml_iconst (v := 0) F dX7_volumeAfter_41 (by decide) ?_
      refine ml_bipush (v := 11) F dX7_volumeAfter_42 (by decide) ?_
      refine ml_callV (av := [.int 0, .int 11]) (T := TX7) (N := 16) F (pc11 g) rfl h (fun rs h9 => fX7_copies_c 0 11 M7 rs hst h9) wcX7_copies mlX7_33 wdX7_copies (by decide) (by decide) (by decide) rfl seX7_copies imX7_copies rfl (Nat.le_of_ble_eq_true rfl) dX7_volumeAfter_44 (fun r8 M9 h => ?_)
      refine ml_iconst (v := 0) F dX7_volumeAfter_47 (by decide) ?_
      refine ml_istore_n (ls2 := [(3, .int 0), (0, ml_rf g 11), (1, .int a0), (2, .int a1)]) F dX7_volumeAfter_48 rfl (by decide) rfl ?_
      exact ml_sub [1, 2, 3, 0] rfl ((fX7_volumeAfter_w a0 a1 F ml_fuel) _ _ _ _ h)
    · refine ml_iconst (v := 0) F dX7_volumeAfter_38 (by decide) ?_
      exact ml_iret (st := []) F (Option.some.inj h) rfl rfl rfl (by decide) (by decide) dX7_volumeAfter_39
  refine ml_if_ne (tgt := 12) F dX7_volumeAfter_5 (by decide) h (fun _ h => ?_) (fun _ h => ?_)
  · refine ml_iload_n (q := 2) F dX7_volumeAfter_12 rfl rfl ?_
    refine ml_iconst (v := 0) F dX7_volumeAfter_13 (by decide) ?_
    refine ml_sipush (v := 200) F dX7_volumeAfter_14 (by decide) ?_
    refine ml_callS (av := [.int a1, .int 0, .int 200]) F h (fun rs h9 => fX7_in_c a1 0 200 M2 rs hst h9) wcX7_in mlX7_43 wdX7_in (by decide) (by decide) (by decide) rfl stX7_in rfl (Nat.le_of_ble_eq_true rfl) dX7_volumeAfter_17 (fun r10 M11 h => ?_)
    refine ml_if_eq (tgt := 27) F dX7_volumeAfter_20 (by decide) h (fun _ h => ?_) (fun _ h => ?_)
    · refine ml_iconst (v := 2) F dX7_volumeAfter_27 (by decide) ?_
      exact ml_sub [0, 1, 2] rfl (jn6 _ _ h)
    · refine ml_iconst (v := 0) F dX7_volumeAfter_23 (by decide) ?_
      refine ml_goto (tgt := 28) F dX7_volumeAfter_24 (by decide) ?_
      exact ml_sub [0, 1, 2] rfl (jn6 _ _ h)
  · refine ml_iconst (v := 1) F dX7_volumeAfter_8 (by decide) ?_
    refine ml_goto (tgt := 28) F dX7_volumeAfter_9 (by decide) ?_
    exact ml_sub [0, 1, 2] rfl (jn6 _ _ h)
set_option maxRecDepth 100000 in
def fX7_eventCount (M : ml_M) : Option ml_R :=
  ml_bd (fX7_told 7 M) (fun r1 M2 => some (.inl r1, M2))
set_option maxHeartbeats 4000000 in
set_option maxRecDepth 100000 in
theorem fX7_eventCount_c (M : ml_M) (res : ml_R) {g : ml_G} (hst : g.2.2.2.2.2.stackTraces = false) (h : fX7_eventCount M = some res) : ml_C yX7_eventCount cX7_eventCount 1 (some .int) 2 0 0 g (fun r _ => some (.int r)) [ml_rf g 11] M res := by
  refine ml_of [(0, ml_rf g 11)] hst (by decide) (Nat.le_of_ble_eq_true rfl) rfl (fun E F => ?_)
  unfold fX7_eventCount at h
  refine ml_aload_n (q := 0) F dX7_eventCount_0 rfl rfl ?_
  refine ml_bipush (v := 7) F dX7_eventCount_1 (by decide) ?_
  refine ml_callV (av := [.int 7]) (T := TX7) (N := 16) F (pc11 g) rfl h (fun rs h9 => fX7_told_c 7 M rs hst h9) wcX7_told mlX7_141 wdX7_told (by decide) (by decide) (by decide) rfl seX7_told imX7_told rfl (Nat.le_of_ble_eq_true rfl) dX7_eventCount_3 (fun r1 M2 h => ?_)
  exact ml_iret (st := []) F (Option.some.inj h) rfl rfl rfl (by decide) (by decide) dX7_eventCount_6
set_option maxRecDepth 100000 in
def fX7_isEvent (a0 : Int32) (M : ml_M) : Option ml_R :=
  ml_bd (fX7_in a0 0 ((M 12 7) - 1) M) (fun r1 M2 => if narrow .boolean (.int r1) = .int r1 then some (.inl r1, M2) else none)
set_option maxHeartbeats 4000000 in
set_option maxRecDepth 100000 in
theorem fX7_isEvent_c (a0 : Int32) (M : ml_M) (res : ml_R) {g : ml_G} (hst : g.2.2.2.2.2.stackTraces = false) (h : fX7_isEvent a0 M = some res) : ml_C yX7_isEvent cX7_isEvent 2 (some .boolean) 2 0 0 g (fun r _ => some (.int r)) [ml_rf g 11, .int a0] M res := by
  refine ml_of [(0, ml_rf g 11), (1, .int a0)] hst (by decide) (Nat.le_of_ble_eq_true rfl) rfl (fun E F => ?_)
  unfold fX7_isEvent at h
  refine ml_iload_n (q := 1) F dX7_isEvent_0 rfl rfl ?_
  refine ml_iconst (v := 0) F dX7_isEvent_1 (by decide) ?_
  refine ml_aload_n (q := 0) F dX7_isEvent_2 rfl rfl ?_
  refine ml_get (v := ml_rf g 12) F (pc11 g) rfl iaX7 1 (by decide) lkX7_9 rfl rfl dX7_isEvent_3 ?_
  refine ml_bipush (v := 7) F dX7_isEvent_6 (by decide) ?_
  refine ml_ialdK (j := 7) F (pc12 g) (by decide) (by decide) dX7_isEvent_8 ?_
  refine ml_iconst (v := 1) F dX7_isEvent_9 (by decide) ?_
  refine ml_isub F dX7_isEvent_10 ?_
  refine ml_callS (av := [.int a0, .int 0, .int ((M 12 7) - 1)]) F h (fun rs h9 => fX7_in_c a0 0 ((M 12 7) - 1) M rs hst h9) wcX7_in mlX7_43 wdX7_in (by decide) (by decide) (by decide) rfl stX7_in rfl (Nat.le_of_ble_eq_true rfl) dX7_isEvent_11 (fun r1 M2 h => ?_)
  obtain ⟨q3, h⟩ := ml_if h
  exact ml_iret (st := []) F (Option.some.inj h) rfl rfl q3 (by decide) (by decide) dX7_isEvent_14
set_option maxRecDepth 100000 in
def fX7_eventKind (a0 : Int32) (M : ml_M) : Option ml_R :=
  ml_bd (fX7_isEvent a0 M) (fun r1 M2 => ml_bd (fX7_isFine r1 M2) (fun r3 M4 => ml_jn (fun (y5 : Int32) => if narrow .char (.int y5) = .int y5 then some (.inl y5, M4) else none) (fun B6 => (if r3 = 0 then B6 0 else if ml_ok (24 + (2 * a0)) 960 then B6 (((M4 12 (24 + (2 * a0)).toNatClampNeg).toUInt32 % 65536).toInt32) else none))))
set_option maxHeartbeats 4000000 in
set_option maxRecDepth 100000 in
theorem fX7_eventKind_c (a0 : Int32) (M : ml_M) (res : ml_R) {g : ml_G} (hst : g.2.2.2.2.2.stackTraces = false) (h : fX7_eventKind a0 M = some res) : ml_C yX7_eventKind cX7_eventKind 2 (some .char) 3 0 0 g (fun r _ => some (.int r)) [ml_rf g 11, .int a0] M res := by
  refine ml_of [(0, ml_rf g 11), (1, .int a0)] hst (by decide) (Nat.le_of_ble_eq_true rfl) rfl (fun E F => ?_)
  unfold fX7_eventKind at h
  refine ml_aload_n (q := 0) F dX7_eventKind_0 rfl rfl ?_
  refine ml_aload_n (q := 0) F dX7_eventKind_1 rfl rfl ?_
  refine ml_iload_n (q := 1) F dX7_eventKind_2 rfl rfl ?_
  refine ml_callV (av := [.int a0]) (T := TX7) (N := 16) F (pc11 g) rfl h (fun rs h9 => fX7_isEvent_c a0 M rs hst h9) wcX7_isEvent mlX7_164 wdX7_isEvent (by decide) (by decide) (by decide) rfl seX7_isEvent imX7_isEvent rfl (Nat.le_of_ble_eq_true rfl) dX7_eventKind_3 (fun r1 M2 h => ?_)
  refine ml_callV (av := [.int r1]) (T := TX7) (N := 16) F (pc11 g) rfl h (fun rs h9 => fX7_isFine_c r1 M2 rs hst h9) wcX7_isFine mlX7_134 wdX7_isFine (by decide) (by decide) (by decide) rfl seX7_isFine imX7_isFine rfl (Nat.le_of_ble_eq_true rfl) dX7_eventKind_6 (fun r3 M4 h => ?_)
  refine ml_jnR (P := fun B => ∀ (y5 : Int32), B y5 = some res → ml_J E g 2 (ml_Z E g (fun r _ => some (.int r)) res 0 0) (0 + 0 + 0) (0 + 0 + 0) 28 [(0, ml_rf g 11), (1, .int a0)] (.int y5 :: []) M4) h ?_ (fun jn7 h => ?_)
  · intro y5 h
    dsimp only at h
    obtain ⟨q8, h⟩ := ml_if h
    exact ml_iret (st := []) F (Option.some.inj h) rfl rfl q8 (by decide) (by decide) dX7_eventKind_28
  refine ml_if_eq (tgt := 27) F dX7_eventKind_9 (by decide) h (fun _ h => ?_) (fun _ h => ?_)
  · refine ml_iconst (v := 0) F dX7_eventKind_27 (by decide) ?_
    exact ml_sub [0, 1] rfl (jn7 _ h)
  · refine ml_aload_n (q := 0) F dX7_eventKind_12 rfl rfl ?_
    refine ml_get (v := ml_rf g 12) F (pc11 g) rfl iaX7 1 (by decide) lkX7_9 rfl rfl dX7_eventKind_13 ?_
    refine ml_bipush (v := 24) F dX7_eventKind_16 (by decide) ?_
    refine ml_iconst (v := 2) F dX7_eventKind_18 (by decide) ?_
    refine ml_iload_n (q := 1) F dX7_eventKind_19 rfl rfl ?_
    refine ml_imul F dX7_eventKind_20 ?_
    refine ml_iadd F dX7_eventKind_21 ?_
    refine ml_iald F (pc12 g) h dX7_eventKind_22 (fun h => ?_)
    refine ml_i2c F dX7_eventKind_23 ?_
    refine ml_goto (tgt := 28) F dX7_eventKind_24 (by decide) ?_
    exact ml_sub [0, 1] rfl (jn7 _ h)
set_option maxRecDepth 100000 in
def fX7_eventNumber (a0 : Int32) (M : ml_M) : Option ml_R :=
  ml_bd (fX7_isEvent a0 M) (fun r1 M2 => ml_bd (fX7_isFine r1 M2) (fun r3 M4 => ml_jn (fun (y5 : Int32) => some (.inl y5, M4)) (fun B6 => (if r3 = 0 then B6 0 else if ml_ok ((24 + (2 * a0)) + 1) 960 then B6 (M4 12 ((24 + (2 * a0)) + 1).toNatClampNeg) else none))))
set_option maxHeartbeats 4000000 in
set_option maxRecDepth 100000 in
theorem fX7_eventNumber_c (a0 : Int32) (M : ml_M) (res : ml_R) {g : ml_G} (hst : g.2.2.2.2.2.stackTraces = false) (h : fX7_eventNumber a0 M = some res) : ml_C yX7_eventNumber cX7_eventNumber 2 (some .int) 3 0 0 g (fun r _ => some (.int r)) [ml_rf g 11, .int a0] M res := by
  refine ml_of [(0, ml_rf g 11), (1, .int a0)] hst (by decide) (Nat.le_of_ble_eq_true rfl) rfl (fun E F => ?_)
  unfold fX7_eventNumber at h
  refine ml_aload_n (q := 0) F dX7_eventNumber_0 rfl rfl ?_
  refine ml_aload_n (q := 0) F dX7_eventNumber_1 rfl rfl ?_
  refine ml_iload_n (q := 1) F dX7_eventNumber_2 rfl rfl ?_
  refine ml_callV (av := [.int a0]) (T := TX7) (N := 16) F (pc11 g) rfl h (fun rs h9 => fX7_isEvent_c a0 M rs hst h9) wcX7_isEvent mlX7_164 wdX7_isEvent (by decide) (by decide) (by decide) rfl seX7_isEvent imX7_isEvent rfl (Nat.le_of_ble_eq_true rfl) dX7_eventNumber_3 (fun r1 M2 h => ?_)
  refine ml_callV (av := [.int r1]) (T := TX7) (N := 16) F (pc11 g) rfl h (fun rs h9 => fX7_isFine_c r1 M2 rs hst h9) wcX7_isFine mlX7_134 wdX7_isFine (by decide) (by decide) (by decide) rfl seX7_isFine imX7_isFine rfl (Nat.le_of_ble_eq_true rfl) dX7_eventNumber_6 (fun r3 M4 h => ?_)
  refine ml_jnR (P := fun B => ∀ (y5 : Int32), B y5 = some res → ml_J E g 2 (ml_Z E g (fun r _ => some (.int r)) res 0 0) (0 + 0 + 0) (0 + 0 + 0) 29 [(0, ml_rf g 11), (1, .int a0)] (.int y5 :: []) M4) h ?_ (fun jn7 h => ?_)
  · intro y5 h
    dsimp only at h
    exact ml_iret (st := []) F (Option.some.inj h) rfl rfl rfl (by decide) (by decide) dX7_eventNumber_29
  refine ml_if_eq (tgt := 28) F dX7_eventNumber_9 (by decide) h (fun _ h => ?_) (fun _ h => ?_)
  · refine ml_iconst (v := 0) F dX7_eventNumber_28 (by decide) ?_
    exact ml_sub [0, 1] rfl (jn7 _ h)
  · refine ml_aload_n (q := 0) F dX7_eventNumber_12 rfl rfl ?_
    refine ml_get (v := ml_rf g 12) F (pc11 g) rfl iaX7 1 (by decide) lkX7_9 rfl rfl dX7_eventNumber_13 ?_
    refine ml_bipush (v := 24) F dX7_eventNumber_16 (by decide) ?_
    refine ml_iconst (v := 2) F dX7_eventNumber_18 (by decide) ?_
    refine ml_iload_n (q := 1) F dX7_eventNumber_19 rfl rfl ?_
    refine ml_imul F dX7_eventNumber_20 ?_
    refine ml_iadd F dX7_eventNumber_21 ?_
    refine ml_iconst (v := 1) F dX7_eventNumber_22 (by decide) ?_
    refine ml_iadd F dX7_eventNumber_23 ?_
    refine ml_iald F (pc12 g) h dX7_eventNumber_24 (fun h => ?_)
    refine ml_goto (tgt := 29) F dX7_eventNumber_25 (by decide) ?_
    exact ml_sub [0, 1] rfl (jn7 _ h)
set_option maxRecDepth 100000 in
def fX7_time (M : ml_M) : Option ml_R :=
  ml_bd (fX7_told 0 M) (fun r1 M2 => some (.inl r1, M2))
set_option maxHeartbeats 4000000 in
set_option maxRecDepth 100000 in
theorem fX7_time_c (M : ml_M) (res : ml_R) {g : ml_G} (hst : g.2.2.2.2.2.stackTraces = false) (h : fX7_time M = some res) : ml_C yX7_time cX7_time 1 (some .int) 2 0 0 g (fun r _ => some (.int r)) [ml_rf g 11] M res := by
  refine ml_of [(0, ml_rf g 11)] hst (by decide) (Nat.le_of_ble_eq_true rfl) rfl (fun E F => ?_)
  unfold fX7_time at h
  refine ml_aload_n (q := 0) F dX7_time_0 rfl rfl ?_
  refine ml_iconst (v := 0) F dX7_time_1 (by decide) ?_
  refine ml_callV (av := [.int 0]) (T := TX7) (N := 16) F (pc11 g) rfl h (fun rs h9 => fX7_told_c 0 M rs hst h9) wcX7_told mlX7_141 wdX7_told (by decide) (by decide) (by decide) rfl seX7_told imX7_told rfl (Nat.le_of_ble_eq_true rfl) dX7_time_2 (fun r1 M2 h => ?_)
  exact ml_iret (st := []) F (Option.some.inj h) rfl rfl rfl (by decide) (by decide) dX7_time_5
set_option maxRecDepth 100000 in
def fX7_meanLevel (M : ml_M) : Option ml_R :=
  ml_lt (ml_w M 11 0 0) (fun M1 => ml_bd (fX7_sum M1) (fun r2 M3 => if (FP.fdiv (FP.i2f r2) 1108869120) &&& 0x7fffffff ≤ 0x7f800000 then some (.inl 0, (ml_w (ml_w M3 200 0 r2) 200 1 38)) else none))
set_option maxHeartbeats 4000000 in
set_option maxRecDepth 100000 in
theorem fX7_meanLevel_c (M : ml_M) (res : ml_R) {g : ml_G} (hst : g.2.2.2.2.2.stackTraces = false) (h : fX7_meanLevel M = some res) : ml_C yX7_meanLevel cX7_meanLevel 1 (some .float) 2 0 0 g (fun _ M => some (.float (FP.fdiv (FP.i2f (M 200 0)) (FP.i2f 38)))) [ml_rf g 11] M res := by
  refine ml_of [(0, ml_rf g 11)] hst (by decide) (Nat.le_of_ble_eq_true rfl) rfl (fun E F => ?_)
  unfold fX7_meanLevel at h
  refine ml_aload_n (q := 0) F dX7_meanLevel_0 rfl rfl ?_
  refine ml_iconst (v := 0) F dX7_meanLevel_1 (by decide) ?_
  refine ml_set F (pc11 g) rfl iaX7 tyX7_ok nmX7 0 (by decide) lkX7_30 rfl rfl rfl rfl rfl (Nat.le_of_ble_eq_true rfl) (fun m => by simp [upd]) dX7_meanLevel_2 ?_
  refine ml_ltM h (fun M1 _ h => ?_)
  refine ml_aload_n (q := 0) F dX7_meanLevel_5 rfl rfl ?_
  refine ml_callV (av := []) (T := TX7) (N := 16) F (pc11 g) rfl h (fun rs h9 => fX7_sum_c M1 rs hst h9) wcX7_sum mlX7_144 wdX7_sum (by decide) (by decide) (by decide) rfl seX7_sum imX7_sum rfl (Nat.le_of_ble_eq_true rfl) dX7_meanLevel_6 (fun r2 M3 h => ?_)
  refine ml_i2f F dX7_meanLevel_9 ?_
  refine ml_ldcf F cfX7_167 dX7_meanLevel_10 ?_
  obtain ⟨q4, h⟩ := ml_if h
  refine ml_fdiv F dX7_meanLevel_12 q4 ?_
  refine ml_scr (ml_w (ml_w M3 200 0 r2) 200 1 38) (fun k hk => by rw [ml_w_ne (by omega), ml_w_ne (by omega)]) ?_
  exact ml_fret (st := []) (v := FP.fdiv (FP.i2f r2) 1108869120) F (Option.some.inj h) (by show some (Value.float _) = some (Value.float _); rfl) rfl (by decide) (by decide) dX7_meanLevel_13
set_option maxRecDepth 100000 in
def fX7_isConsistent (M : ml_M) : Option ml_R :=
  ml_lt (ml_w M 11 0 0) (fun M1 => some (.inl 1, M1))
set_option maxHeartbeats 4000000 in
set_option maxRecDepth 100000 in
theorem fX7_isConsistent_c (M : ml_M) (res : ml_R) {g : ml_G} (hst : g.2.2.2.2.2.stackTraces = false) (h : fX7_isConsistent M = some res) : ml_C yX7_isConsistent cX7_isConsistent 1 (some .boolean) 1 0 0 g (fun r _ => some (.int r)) [ml_rf g 11] M res := by
  refine ml_of [(0, ml_rf g 11)] hst (by decide) (Nat.le_of_ble_eq_true rfl) rfl (fun E F => ?_)
  unfold fX7_isConsistent at h
  refine ml_aload_n (q := 0) F dX7_isConsistent_0 rfl rfl ?_
  refine ml_iconst (v := 0) F dX7_isConsistent_1 (by decide) ?_
  refine ml_set F (pc11 g) rfl iaX7 tyX7_ok nmX7 0 (by decide) lkX7_30 rfl rfl rfl rfl rfl (Nat.le_of_ble_eq_true rfl) (fun m => by simp [upd]) dX7_isConsistent_2 ?_
  refine ml_ltM h (fun M1 _ h => ?_)
  refine ml_iconst (v := 1) F dX7_isConsistent_5 (by decide) ?_
  exact ml_iret (st := []) F (Option.some.inj h) rfl rfl (by decide) (by decide) (by decide) dX7_isConsistent_6
set_option maxRecDepth 100000 in
def fX7_writes (a0 : Int32) (M : ml_M) : Option ml_R :=
  if ml_ok (M 11 7) 40 then ml_lt (ml_w M 13 (M 11 7).toNatClampNeg (vp_nar .char ((a0.toUInt32 % 65536).toInt32))) (fun M1 => ml_lt (ml_w M1 11 7 ((M1 11 7) + 1)) (fun M2 => some (.inl 0, M2))) else none
set_option maxHeartbeats 4000000 in
set_option maxRecDepth 100000 in
theorem fX7_writes_c (a0 : Int32) (M : ml_M) (res : ml_R) {g : ml_G} (hst : g.2.2.2.2.2.stackTraces = false) (h : fX7_writes a0 M = some res) : ml_C yX7_writes cX7_writes 2 none 1 0 0 g (fun _ _ => none) [ml_rf g 11, .int a0] M res := by
  refine ml_of [(0, ml_rf g 11), (1, .int a0)] hst (by decide) (Nat.le_of_ble_eq_true rfl) rfl (fun E F => ?_)
  unfold fX7_writes at h
  refine ml_aload_n (q := 0) F dX7_writes_0 rfl rfl ?_
  refine ml_get (v := ml_rf g 13) F (pc11 g) rfl iaX7 6 (by decide) lkX7_13 rfl rfl dX7_writes_1 ?_
  refine ml_aload_n (q := 0) F dX7_writes_4 rfl rfl ?_
  refine ml_get (v := .int (M 11 7)) F (pc11 g) rfl iaX7 7 (by decide) lkX7_168 rfl rfl dX7_writes_5 ?_
  refine ml_iload_n (q := 1) F dX7_writes_8 rfl rfl ?_
  refine ml_i2c F dX7_writes_9 ?_
  refine ml_cast F (pc13 g) h dX7_writes_10 (fun h => ?_)
  refine ml_ltM h (fun M1 _ h => ?_)
  refine ml_aload_n (q := 0) F dX7_writes_11 rfl rfl ?_
  refine ml_dup F dX7_writes_12 rfl ?_
  refine ml_get (v := .int (M1 11 7)) F (pc11 g) rfl iaX7 7 (by decide) lkX7_168 rfl rfl dX7_writes_13 ?_
  refine ml_iconst (v := 1) F dX7_writes_16 (by decide) ?_
  refine ml_iadd F dX7_writes_17 ?_
  refine ml_set F (pc11 g) rfl iaX7 tyX7_ok nmX7 7 (by decide) lkX7_168 rfl rfl rfl rfl rfl (Nat.le_of_ble_eq_true rfl) (fun m => by simp [upd]) dX7_writes_18 ?_
  refine ml_ltM h (fun M2 _ h => ?_)
  exact ml_vret (st := []) F (Option.some.inj h) rfl rfl (by decide) (by decide) dX7_writes_21
set_option maxRecDepth 100000 in
def fX7_writesNumber_s0 (rec : Int32 → ml_M → Option ml_R) (a0 : Int32) (M : ml_M) : Option ml_R :=
  ml_jn (fun (M1 : ml_M) => ml_bd (fX7_writes (48 + (a0 - a0 / 10 * 10)) M1) (fun r4 M5 => some (.inl 0, M5))) (fun B2 => (if a0 ≤ 9 then B2 M else ml_bd (rec (a0 / 10) M) (fun r6 M7 => B2 M7)))
def fX7_writesNumber_l : Nat → Int32 → ml_M → Option ml_R
  | 0 => fun _ _ => none
  | n + 1 => fX7_writesNumber_s0 (fX7_writesNumber_l n)
set_option maxHeartbeats 4000000 in
set_option maxRecDepth 100000 in
theorem fX7_writesNumber_r {g : ml_G} (hst : g.2.2.2.2.2.stackTraces = false) : ∀ (n : Nat) (a0 : Int32) (M : ml_M) (res : ml_R), fX7_writesNumber_l n a0 M = some res → ml_C yX7_writesNumber cX7_writesNumber 2 none (2 + n) 0 0 g (fun _ _ => none) [ml_rf g 11, .int a0] M res := by
  intro n
  induction n with
  | zero => intro a0 M res h; exact nomatch (show (none : Option ml_R) = some res from h)
  | succ n ih =>
    intro a0 M res h
    replace h : fX7_writesNumber_s0 (fX7_writesNumber_l n) a0 M = some res := h
    refine ml_of [(0, ml_rf g 11), (1, .int a0)] hst (by decide) (Nat.le_of_ble_eq_true rfl) rfl (fun E F => ?_)
    unfold fX7_writesNumber_s0 at h
    refine ml_iload_n (q := 1) F dX7_writesNumber_0 rfl rfl ?_
    refine ml_bipush (v := 9) F dX7_writesNumber_1 (by decide) ?_
    refine ml_jnR (P := fun B => ∀ (M1 : ml_M), B M1 = some res → ml_J E g 2 (ml_Z E g (fun _ _ => none) res 0 0) (0) (0) 14 [(0, ml_rf g 11), (1, .int a0)] ([]) M1) h ?_ (fun jn3 h => ?_)
    · intro M1 h
      dsimp only at h
      refine ml_aload_n (q := 0) F dX7_writesNumber_14 rfl rfl ?_
      refine ml_bipush (v := 48) F dX7_writesNumber_15 (by decide) ?_
      refine ml_iload_n (q := 1) F dX7_writesNumber_17 rfl rfl ?_
      refine ml_bipush (v := 10) F dX7_writesNumber_18 (by decide) ?_
      refine ml_irem F dX7_writesNumber_20 (by decide) ?_
      refine ml_iadd F dX7_writesNumber_21 ?_
      refine ml_callV (av := [.int (48 + (a0 - a0 / 10 * 10))]) (T := TX7) (N := 16) F (pc11 g) rfl h (fun rs h9 => fX7_writes_c (48 + (a0 - a0 / 10 * 10)) M1 rs hst h9) wcX7_writes mlX7_174 wdX7_writes (by omega) (by decide) (by decide) rfl seX7_writes imX7_writes rfl (Nat.le_of_ble_eq_true rfl) dX7_writesNumber_22 (fun r4 M5 h => ?_)
      exact ml_vret (st := []) F (Option.some.inj h) rfl rfl (by decide) (by decide) dX7_writesNumber_25
    refine ml_icmp_le (tgt := 14) F dX7_writesNumber_3 (by decide) h (fun _ h => ?_) (fun _ h => ?_)
    · exact ml_sub [0, 1] rfl (jn3 _ h)
    · refine ml_aload_n (q := 0) F dX7_writesNumber_6 rfl rfl ?_
      refine ml_iload_n (q := 1) F dX7_writesNumber_7 rfl rfl ?_
      refine ml_bipush (v := 10) F dX7_writesNumber_8 (by decide) ?_
      refine ml_idiv F dX7_writesNumber_10 (by decide) ?_
      refine ml_callV (av := [.int (a0 / 10)]) (T := TX7) (N := 16) F (pc11 g) rfl h (fun rs h9 => ih (a0 / 10) M rs h9) wcX7_writesNumber mlX7_171 wdX7_writesNumber (by omega) (by decide) (by decide) rfl seX7_writesNumber imX7_writesNumber rfl (Nat.le_of_ble_eq_true rfl) dX7_writesNumber_11 (fun r6 M7 h => ?_)
      exact ml_sub [0, 1] rfl (jn3 _ h)
def fX7_writesNumber (a0 : Int32) (M : ml_M) : Option ml_R := fX7_writesNumber_l 12 a0 M
theorem fX7_writesNumber_c (a0 : Int32) (M : ml_M) (res : ml_R) {g : ml_G} (hst : g.2.2.2.2.2.stackTraces = false) (h : fX7_writesNumber a0 M = some res) : ml_C yX7_writesNumber cX7_writesNumber 2 none 14 0 0 g (fun _ _ => none) [ml_rf g 11, .int a0] M res := fX7_writesNumber_r hst 12 a0 M res h
set_option maxRecDepth 100000 in
def fX7_renderLevels_s0 (rec : Int32 → ml_M → Option ml_R) (x1 : Int32) (M : ml_M) : Option ml_R :=
  (if 5 ≤ x1 then some (.inl (M 11 7), M) else ml_jn (fun (M1 : ml_M) => if ml_ok (11 + x1) 960 then ml_bd (fX7_size x1 M1) (fun r4 M5 => if ¬ (r4 = 0) then ml_bd (fX7_writesNumber ((M1 12 (11 + x1).toNatClampNeg) / r4) M5) (fun r7 M8 => rec (x1 + 1) M8) else none) else none) (fun B2 => (if x1 ≤ 0 then B2 M else if ml_ok ((20 + x1) - 1) 960 then ml_jn (fun (y9 : Int32) => ml_bd (fX7_writes y9 M) (fun r12 M13 => B2 M13)) (fun B10 => (if (M 12 ((20 + x1) - 1).toNatClampNeg) = 1 then B10 47 else B10 124)) else none)))
def fX7_renderLevels_l : Nat → Int32 → ml_M → Option ml_R
  | 0 => fun _ _ => none
  | n + 1 => fX7_renderLevels_s0 (fX7_renderLevels_l n)
set_option maxHeartbeats 4000000 in
set_option maxRecDepth 100000 in
theorem fX7_renderLevels_w {E : ml_E} {g : ml_G} {res : ml_R} (F : ml_F E g cX7_renderLevels yX7_renderLevels.cls 2 15 0 0 (some .int) []) : ∀ fuel : Nat, ∀ (x1 : Int32) (M : ml_M), fX7_renderLevels_l fuel x1 M = some res → ml_J E g 2 (ml_Z E g (fun r _ => some (.int r)) res 0 0) 0 0 12 [(0, ml_rf g 11), (1, .int x1)] [] M := by
  have hst := ml_F_st F
  intro fuel
  induction fuel with
  | zero => intro _ _ h; exact nomatch (show (none : Option ml_R) = some res from h)
  | succ fuel ih =>
    intro x1 M h
    replace h : fX7_renderLevels_s0 (fX7_renderLevels_l fuel) x1 M = some res := h
    unfold fX7_renderLevels_s0 at h
    refine ml_iload_n (q := 1) F dX7_renderLevels_12 rfl rfl ?_
    refine ml_iconst (v := 5) F dX7_renderLevels_13 (by decide) ?_
    refine ml_icmp_ge (tgt := 71) F dX7_renderLevels_14 (by decide) h (fun _ h => ?_) (fun _ h => ?_)
    · refine ml_aload_n (q := 0) F dX7_renderLevels_71 rfl rfl ?_
      refine ml_get (v := .int (M 11 7)) F (pc11 g) rfl iaX7 7 (by decide) lkX7_168 rfl rfl dX7_renderLevels_72 ?_
      exact ml_iret (st := []) F (Option.some.inj h) rfl rfl rfl (by decide) (by decide) dX7_renderLevels_75
    · refine ml_iload_n (q := 1) F dX7_renderLevels_17 rfl rfl ?_
      refine ml_jnR (P := fun B => ∀ (M1 : ml_M), B M1 = some res → ml_J E g 2 (ml_Z E g (fun r _ => some (.int r)) res 0 0) (0) (0) 47 [(0, ml_rf g 11), (1, .int x1)] ([]) M1) h ?_ (fun jn3 h => ?_)
      · intro M1 h
        dsimp only at h
        refine ml_aload_n (q := 0) F dX7_renderLevels_47 rfl rfl ?_
        refine ml_aload_n (q := 0) F dX7_renderLevels_48 rfl rfl ?_
        refine ml_get (v := ml_rf g 12) F (pc11 g) rfl iaX7 1 (by decide) lkX7_9 rfl rfl dX7_renderLevels_49 ?_
        refine ml_bipush (v := 11) F dX7_renderLevels_52 (by decide) ?_
        refine ml_iload_n (q := 1) F dX7_renderLevels_54 rfl rfl ?_
        refine ml_iadd F dX7_renderLevels_55 ?_
        refine ml_iald F (pc12 g) h dX7_renderLevels_56 (fun h => ?_)
        refine ml_iload_n (q := 1) F dX7_renderLevels_57 rfl rfl ?_
        refine ml_callS (av := [.int x1]) F h (fun rs h9 => fX7_size_c x1 M1 rs hst h9) wcX7_size mlX7_47 wdX7_size (by decide) (by decide) (by decide) rfl stX7_size rfl (Nat.le_of_ble_eq_true rfl) dX7_renderLevels_58 (fun r4 M5 h => ?_)
        obtain ⟨q6, h⟩ := ml_if h
        refine ml_idiv F dX7_renderLevels_61 q6 ?_
        refine ml_callV (av := [.int ((M1 12 (11 + x1).toNatClampNeg) / r4)]) (T := TX7) (N := 16) F (pc11 g) rfl h (fun rs h9 => fX7_writesNumber_c ((M1 12 (11 + x1).toNatClampNeg) / r4) M5 rs hst h9) wcX7_writesNumber mlX7_171 wdX7_writesNumber (by decide) (by decide) (by decide) rfl seX7_writesNumber imX7_writesNumber rfl (Nat.le_of_ble_eq_true rfl) dX7_renderLevels_62 (fun r7 M8 h => ?_)
        refine ml_iinc (q := 1) (v := x1 + 1) (ls2 := [(1, .int (x1 + 1)), (0, ml_rf g 11)]) F dX7_renderLevels_65 rfl rfl (by decide) rfl ?_
        refine ml_goto (tgt := 12) F dX7_renderLevels_68 (by decide) ?_
        exact ml_sub [1, 0] rfl (ih _ _ h)
      refine ml_if_le (tgt := 47) F dX7_renderLevels_18 (by decide) h (fun _ h => ?_) (fun _ h => ?_)
      · exact ml_sub [0, 1] rfl (jn3 _ h)
      · refine ml_aload_n (q := 0) F dX7_renderLevels_21 rfl rfl ?_
        refine ml_aload_n (q := 0) F dX7_renderLevels_22 rfl rfl ?_
        refine ml_get (v := ml_rf g 12) F (pc11 g) rfl iaX7 1 (by decide) lkX7_9 rfl rfl dX7_renderLevels_23 ?_
        refine ml_bipush (v := 20) F dX7_renderLevels_26 (by decide) ?_
        refine ml_iload_n (q := 1) F dX7_renderLevels_28 rfl rfl ?_
        refine ml_iadd F dX7_renderLevels_29 ?_
        refine ml_iconst (v := 1) F dX7_renderLevels_30 (by decide) ?_
        refine ml_isub F dX7_renderLevels_31 ?_
        refine ml_iald F (pc12 g) h dX7_renderLevels_32 (fun h => ?_)
        refine ml_iconst (v := 1) F dX7_renderLevels_33 (by decide) ?_
        refine ml_jnR (P := fun B => ∀ (y9 : Int32), B y9 = some res → ml_J E g 2 (ml_Z E g (fun r _ => some (.int r)) res 0 0) (0) (0) 44 [(0, ml_rf g 11), (1, .int x1)] (.int y9 :: ml_rf g 11 :: []) M) h ?_ (fun jn11 h => ?_)
        · intro y9 h
          dsimp only at h
          refine ml_callV (av := [.int y9]) (T := TX7) (N := 16) F (pc11 g) rfl h (fun rs h9 => fX7_writes_c y9 M rs hst h9) wcX7_writes mlX7_174 wdX7_writes (by decide) (by decide) (by decide) rfl seX7_writes imX7_writes rfl (Nat.le_of_ble_eq_true rfl) dX7_renderLevels_44 (fun r12 M13 h => ?_)
          exact ml_sub [0, 1] rfl (jn3 _ h)
        refine ml_icmp_ne (tgt := 42) F dX7_renderLevels_34 (by decide) h (fun _ h => ?_) (fun _ h => ?_)
        · refine ml_bipush (v := 124) F dX7_renderLevels_42 (by decide) ?_
          exact ml_sub [0, 1] rfl (jn11 _ h)
        · refine ml_bipush (v := 47) F dX7_renderLevels_37 (by decide) ?_
          refine ml_goto (tgt := 44) F dX7_renderLevels_39 (by decide) ?_
          exact ml_sub [0, 1] rfl (jn11 _ h)
set_option maxRecDepth 100000 in
def fX7_renderLevels (M : ml_M) : Option ml_R :=
  ml_lt (ml_w M 11 0 0) (fun M1 => ml_lt (ml_w M1 11 7 0) (fun M2 => fX7_renderLevels_l ml_fuel 0 M2))
set_option maxHeartbeats 4000000 in
set_option maxRecDepth 100000 in
theorem fX7_renderLevels_c (M : ml_M) (res : ml_R) {g : ml_G} (hst : g.2.2.2.2.2.stackTraces = false) (h : fX7_renderLevels M = some res) : ml_C yX7_renderLevels cX7_renderLevels 2 (some .int) 15 0 0 g (fun r _ => some (.int r)) [ml_rf g 11] M res := by
  refine ml_of [(0, ml_rf g 11)] hst (by decide) (Nat.le_of_ble_eq_true rfl) rfl (fun E F => ?_)
  unfold fX7_renderLevels at h
  refine ml_aload_n (q := 0) F dX7_renderLevels_0 rfl rfl ?_
  refine ml_iconst (v := 0) F dX7_renderLevels_1 (by decide) ?_
  refine ml_set F (pc11 g) rfl iaX7 tyX7_ok nmX7 0 (by decide) lkX7_30 rfl rfl rfl rfl rfl (Nat.le_of_ble_eq_true rfl) (fun m => by simp [upd]) dX7_renderLevels_2 ?_
  refine ml_ltM h (fun M1 _ h => ?_)
  refine ml_aload_n (q := 0) F dX7_renderLevels_5 rfl rfl ?_
  refine ml_iconst (v := 0) F dX7_renderLevels_6 (by decide) ?_
  refine ml_set F (pc11 g) rfl iaX7 tyX7_ok nmX7 7 (by decide) lkX7_168 rfl rfl rfl rfl rfl (Nat.le_of_ble_eq_true rfl) (fun m => by simp [upd]) dX7_renderLevels_7 ?_
  refine ml_ltM h (fun M2 _ h => ?_)
  refine ml_iconst (v := 0) F dX7_renderLevels_10 (by decide) ?_
  refine ml_istore_n (ls2 := [(1, .int 0), (0, ml_rf g 11)]) F dX7_renderLevels_11 rfl (by decide) rfl ?_
  exact ml_sub [1, 0] rfl ((fX7_renderLevels_w F ml_fuel) _ _ h)
set_option maxRecDepth 100000 in
def fX7_renderBoat (a0 : Int32) (M : ml_M) : Option ml_R :=
  ml_bd (fX7_isBoat a0 M) (fun r1 M2 => ml_bd (fX7_isFine r1 M2) (fun r3 M4 => (if r3 = 0 then some (.inl 0, M4) else ml_lt (ml_w M4 11 7 0) (fun M5 => ml_bd (fX7_b a0 0 M5) (fun r6 M7 => ml_bd (fX7_signOf r6 M7) (fun r8 M9 => ml_bd (fX7_writes r8 M9) (fun r10 M11 => ml_bd (fX7_b a0 1 M11) (fun r12 M13 => ml_bd (fX7_writesNumber r12 M13) (fun r14 M15 => ml_bd (fX7_b a0 2 M15) (fun r16 M17 => ml_jn (fun (y18 : Int32) => ml_bd (fX7_writes y18 M17) (fun r21 M22 => ml_bd (fX7_b a0 3 M22) (fun r23 M24 => ml_bd (fX7_writesNumber r23 M24) (fun r25 M26 => some (.inl (M26 11 7), M26))))) (fun B19 => (if r16 = 1 then B19 118 else B19 94))))))))))))
set_option maxHeartbeats 4000000 in
set_option maxRecDepth 100000 in
theorem fX7_renderBoat_c (a0 : Int32) (M : ml_M) (res : ml_R) {g : ml_G} (hst : g.2.2.2.2.2.stackTraces = false) (h : fX7_renderBoat a0 M = some res) : ml_C yX7_renderBoat cX7_renderBoat 2 (some .int) 15 0 0 g (fun r _ => some (.int r)) [ml_rf g 11, .int a0] M res := by
  refine ml_of [(0, ml_rf g 11), (1, .int a0)] hst (by decide) (Nat.le_of_ble_eq_true rfl) rfl (fun E F => ?_)
  unfold fX7_renderBoat at h
  refine ml_aload_n (q := 0) F dX7_renderBoat_0 rfl rfl ?_
  refine ml_aload_n (q := 0) F dX7_renderBoat_1 rfl rfl ?_
  refine ml_iload_n (q := 1) F dX7_renderBoat_2 rfl rfl ?_
  refine ml_callV (av := [.int a0]) (T := TX7) (N := 16) F (pc11 g) rfl h (fun rs h9 => fX7_isBoat_c a0 M rs hst h9) wcX7_isBoat mlX7_150 wdX7_isBoat (by decide) (by decide) (by decide) rfl seX7_isBoat imX7_isBoat rfl (Nat.le_of_ble_eq_true rfl) dX7_renderBoat_3 (fun r1 M2 h => ?_)
  refine ml_callV (av := [.int r1]) (T := TX7) (N := 16) F (pc11 g) rfl h (fun rs h9 => fX7_isFine_c r1 M2 rs hst h9) wcX7_isFine mlX7_134 wdX7_isFine (by decide) (by decide) (by decide) rfl seX7_isFine imX7_isFine rfl (Nat.le_of_ble_eq_true rfl) dX7_renderBoat_6 (fun r3 M4 h => ?_)
  refine ml_if_ne (tgt := 14) F dX7_renderBoat_9 (by decide) h (fun _ h => ?_) (fun _ h => ?_)
  · refine ml_aload_n (q := 0) F dX7_renderBoat_14 rfl rfl ?_
    refine ml_iconst (v := 0) F dX7_renderBoat_15 (by decide) ?_
    refine ml_set F (pc11 g) rfl iaX7 tyX7_ok nmX7 7 (by decide) lkX7_168 rfl rfl rfl rfl rfl (Nat.le_of_ble_eq_true rfl) (fun m => by simp [upd]) dX7_renderBoat_16 ?_
    refine ml_ltM h (fun M5 _ h => ?_)
    refine ml_aload_n (q := 0) F dX7_renderBoat_19 rfl rfl ?_
    refine ml_aload_n (q := 0) F dX7_renderBoat_20 rfl rfl ?_
    refine ml_iload_n (q := 1) F dX7_renderBoat_21 rfl rfl ?_
    refine ml_iconst (v := 0) F dX7_renderBoat_22 (by decide) ?_
    refine ml_callV (av := [.int a0, .int 0]) (T := TX7) (N := 16) F (pc11 g) rfl h (fun rs h9 => fX7_b_c a0 0 M5 rs hst h9) wcX7_b mlX7_61 wdX7_b (by decide) (by decide) (by decide) rfl seX7_b imX7_b rfl (Nat.le_of_ble_eq_true rfl) dX7_renderBoat_23 (fun r6 M7 h => ?_)
    refine ml_callS (av := [.int r6]) F h (fun rs h9 => fX7_signOf_c r6 M7 rs hst h9) wcX7_signOf mlX7_153 wdX7_signOf (by decide) (by decide) (by decide) rfl stX7_signOf rfl (Nat.le_of_ble_eq_true rfl) dX7_renderBoat_26 (fun r8 M9 h => ?_)
    refine ml_callV (av := [.int r8]) (T := TX7) (N := 16) F (pc11 g) rfl h (fun rs h9 => fX7_writes_c r8 M9 rs hst h9) wcX7_writes mlX7_174 wdX7_writes (by decide) (by decide) (by decide) rfl seX7_writes imX7_writes rfl (Nat.le_of_ble_eq_true rfl) dX7_renderBoat_29 (fun r10 M11 h => ?_)
    refine ml_aload_n (q := 0) F dX7_renderBoat_32 rfl rfl ?_
    refine ml_aload_n (q := 0) F dX7_renderBoat_33 rfl rfl ?_
    refine ml_iload_n (q := 1) F dX7_renderBoat_34 rfl rfl ?_
    refine ml_iconst (v := 1) F dX7_renderBoat_35 (by decide) ?_
    refine ml_callV (av := [.int a0, .int 1]) (T := TX7) (N := 16) F (pc11 g) rfl h (fun rs h9 => fX7_b_c a0 1 M11 rs hst h9) wcX7_b mlX7_61 wdX7_b (by decide) (by decide) (by decide) rfl seX7_b imX7_b rfl (Nat.le_of_ble_eq_true rfl) dX7_renderBoat_36 (fun r12 M13 h => ?_)
    refine ml_callV (av := [.int r12]) (T := TX7) (N := 16) F (pc11 g) rfl h (fun rs h9 => fX7_writesNumber_c r12 M13 rs hst h9) wcX7_writesNumber mlX7_171 wdX7_writesNumber (by decide) (by decide) (by decide) rfl seX7_writesNumber imX7_writesNumber rfl (Nat.le_of_ble_eq_true rfl) dX7_renderBoat_39 (fun r14 M15 h => ?_)
    refine ml_aload_n (q := 0) F dX7_renderBoat_42 rfl rfl ?_
    refine ml_aload_n (q := 0) F dX7_renderBoat_43 rfl rfl ?_
    refine ml_iload_n (q := 1) F dX7_renderBoat_44 rfl rfl ?_
    refine ml_iconst (v := 2) F dX7_renderBoat_45 (by decide) ?_
    refine ml_callV (av := [.int a0, .int 2]) (T := TX7) (N := 16) F (pc11 g) rfl h (fun rs h9 => fX7_b_c a0 2 M15 rs hst h9) wcX7_b mlX7_61 wdX7_b (by decide) (by decide) (by decide) rfl seX7_b imX7_b rfl (Nat.le_of_ble_eq_true rfl) dX7_renderBoat_46 (fun r16 M17 h => ?_)
    refine ml_iconst (v := 1) F dX7_renderBoat_49 (by decide) ?_
    refine ml_jnR (P := fun B => ∀ (y18 : Int32), B y18 = some res → ml_J E g 2 (ml_Z E g (fun r _ => some (.int r)) res 0 0) (0 + 0 + 0 + 0 + 0 + 0 + 0 + 0 + 0) (0 + 0 + 0 + 0 + 0 + 0 + 0 + 0 + 0) 60 [(0, ml_rf g 11), (1, .int a0)] (.int y18 :: ml_rf g 11 :: []) M17) h ?_ (fun jn20 h => ?_)
    · intro y18 h
      dsimp only at h
      refine ml_callV (av := [.int y18]) (T := TX7) (N := 16) F (pc11 g) rfl h (fun rs h9 => fX7_writes_c y18 M17 rs hst h9) wcX7_writes mlX7_174 wdX7_writes (by decide) (by decide) (by decide) rfl seX7_writes imX7_writes rfl (Nat.le_of_ble_eq_true rfl) dX7_renderBoat_60 (fun r21 M22 h => ?_)
      refine ml_aload_n (q := 0) F dX7_renderBoat_63 rfl rfl ?_
      refine ml_aload_n (q := 0) F dX7_renderBoat_64 rfl rfl ?_
      refine ml_iload_n (q := 1) F dX7_renderBoat_65 rfl rfl ?_
      refine ml_iconst (v := 3) F dX7_renderBoat_66 (by decide) ?_
      refine ml_callV (av := [.int a0, .int 3]) (T := TX7) (N := 16) F (pc11 g) rfl h (fun rs h9 => fX7_b_c a0 3 M22 rs hst h9) wcX7_b mlX7_61 wdX7_b (by decide) (by decide) (by decide) rfl seX7_b imX7_b rfl (Nat.le_of_ble_eq_true rfl) dX7_renderBoat_67 (fun r23 M24 h => ?_)
      refine ml_callV (av := [.int r23]) (T := TX7) (N := 16) F (pc11 g) rfl h (fun rs h9 => fX7_writesNumber_c r23 M24 rs hst h9) wcX7_writesNumber mlX7_171 wdX7_writesNumber (by decide) (by decide) (by decide) rfl seX7_writesNumber imX7_writesNumber rfl (Nat.le_of_ble_eq_true rfl) dX7_renderBoat_70 (fun r25 M26 h => ?_)
      refine ml_aload_n (q := 0) F dX7_renderBoat_73 rfl rfl ?_
      refine ml_get (v := .int (M26 11 7)) F (pc11 g) rfl iaX7 7 (by decide) lkX7_168 rfl rfl dX7_renderBoat_74 ?_
      exact ml_iret (st := []) F (Option.some.inj h) rfl rfl rfl (by decide) (by decide) dX7_renderBoat_77
    refine ml_icmp_ne (tgt := 58) F dX7_renderBoat_50 (by decide) h (fun _ h => ?_) (fun _ h => ?_)
    · refine ml_bipush (v := 94) F dX7_renderBoat_58 (by decide) ?_
      exact ml_sub [0, 1] rfl (jn20 _ h)
    · refine ml_bipush (v := 118) F dX7_renderBoat_53 (by decide) ?_
      refine ml_goto (tgt := 60) F dX7_renderBoat_55 (by decide) ?_
      exact ml_sub [0, 1] rfl (jn20 _ h)
  · refine ml_iconst (v := 0) F dX7_renderBoat_12 (by decide) ?_
    exact ml_iret (st := []) F (Option.some.inj h) rfl rfl rfl (by decide) (by decide) dX7_renderBoat_13
set_option maxRecDepth 100000 in
def fX7_outputAt (a0 : Int32) (M : ml_M) : Option ml_R :=
  ml_bd (fX7_in a0 0 ((M 11 7) - 1) M) (fun r1 M2 => ml_bd (fX7_isFine r1 M2) (fun r3 M4 => ml_jn (fun (y5 : Int32) => if narrow .char (.int y5) = .int y5 then some (.inl y5, M4) else none) (fun B6 => (if r3 = 0 then B6 0 else if ml_ok a0 40 then B6 (M4 13 a0.toNatClampNeg) else none))))
set_option maxHeartbeats 4000000 in
set_option maxRecDepth 100000 in
theorem fX7_outputAt_c (a0 : Int32) (M : ml_M) (res : ml_R) {g : ml_G} (hst : g.2.2.2.2.2.stackTraces = false) (h : fX7_outputAt a0 M = some res) : ml_C yX7_outputAt cX7_outputAt 2 (some .char) 2 0 0 g (fun r _ => some (.int r)) [ml_rf g 11, .int a0] M res := by
  refine ml_of [(0, ml_rf g 11), (1, .int a0)] hst (by decide) (Nat.le_of_ble_eq_true rfl) rfl (fun E F => ?_)
  unfold fX7_outputAt at h
  refine ml_aload_n (q := 0) F dX7_outputAt_0 rfl rfl ?_
  refine ml_iload_n (q := 1) F dX7_outputAt_1 rfl rfl ?_
  refine ml_iconst (v := 0) F dX7_outputAt_2 (by decide) ?_
  refine ml_aload_n (q := 0) F dX7_outputAt_3 rfl rfl ?_
  refine ml_get (v := .int (M 11 7)) F (pc11 g) rfl iaX7 7 (by decide) lkX7_168 rfl rfl dX7_outputAt_4 ?_
  refine ml_iconst (v := 1) F dX7_outputAt_7 (by decide) ?_
  refine ml_isub F dX7_outputAt_8 ?_
  refine ml_callS (av := [.int a0, .int 0, .int ((M 11 7) - 1)]) F h (fun rs h9 => fX7_in_c a0 0 ((M 11 7) - 1) M rs hst h9) wcX7_in mlX7_43 wdX7_in (by decide) (by decide) (by decide) rfl stX7_in rfl (Nat.le_of_ble_eq_true rfl) dX7_outputAt_9 (fun r1 M2 h => ?_)
  refine ml_callV (av := [.int r1]) (T := TX7) (N := 16) F (pc11 g) rfl h (fun rs h9 => fX7_isFine_c r1 M2 rs hst h9) wcX7_isFine mlX7_134 wdX7_isFine (by decide) (by decide) (by decide) rfl seX7_isFine imX7_isFine rfl (Nat.le_of_ble_eq_true rfl) dX7_outputAt_12 (fun r3 M4 h => ?_)
  refine ml_jnR (P := fun B => ∀ (y5 : Int32), B y5 = some res → ml_J E g 2 (ml_Z E g (fun r _ => some (.int r)) res 0 0) (0 + 0 + 0) (0 + 0 + 0) 28 [(0, ml_rf g 11), (1, .int a0)] (.int y5 :: []) M4) h ?_ (fun jn7 h => ?_)
  · intro y5 h
    dsimp only at h
    obtain ⟨q8, h⟩ := ml_if h
    exact ml_iret (st := []) F (Option.some.inj h) rfl rfl q8 (by decide) (by decide) dX7_outputAt_28
  refine ml_if_eq (tgt := 27) F dX7_outputAt_15 (by decide) h (fun _ h => ?_) (fun _ h => ?_)
  · refine ml_iconst (v := 0) F dX7_outputAt_27 (by decide) ?_
    exact ml_sub [0, 1] rfl (jn7 _ h)
  · refine ml_aload_n (q := 0) F dX7_outputAt_18 rfl rfl ?_
    refine ml_get (v := ml_rf g 13) F (pc11 g) rfl iaX7 6 (by decide) lkX7_13 rfl rfl dX7_outputAt_19 ?_
    refine ml_iload_n (q := 1) F dX7_outputAt_22 rfl rfl ?_
    refine ml_cald F (pc13 g) h dX7_outputAt_23 (fun h => ?_)
    refine ml_goto (tgt := 28) F dX7_outputAt_24 (by decide) ?_
    exact ml_sub [0, 1] rfl (jn7 _ h)
set_option maxRecDepth 100000 in
def fX7_type (a0 : Int32) (M : ml_M) : Option ml_R :=
  ml_bd (fX7_in a0 32 126 M) (fun r1 M2 => ml_jn (fun (y3 : Int32) => ml_lt (ml_w M2 11 0 y3) (fun M6 => (if (M6 11 0) = 0 then if ml_ok (M6 11 9) 60 then ml_lt (ml_w M6 14 (M6 11 9).toNatClampNeg (vp_nar .char a0)) (fun M7 => ml_lt (ml_w M7 11 9 ((M7 11 9) + 1)) (fun M8 => some (.inl (M8 11 9), M8))) else none else some (.inl 0, M6)))) (fun B4 => (if r1 = 0 then B4 1 else (if (M2 11 9) = 60 then B4 2 else B4 0))))
set_option maxHeartbeats 4000000 in
set_option maxRecDepth 100000 in
theorem fX7_type_c (a0 : Int32) (M : ml_M) (res : ml_R) {g : ml_G} (hst : g.2.2.2.2.2.stackTraces = false) (h : fX7_type a0 M = some res) : ml_C yX7_type cX7_type 2 (some .int) 2 0 0 g (fun r _ => some (.int r)) [ml_rf g 11, .int a0] M res := by
  refine ml_of [(0, ml_rf g 11), (1, .int a0)] hst (by decide) (Nat.le_of_ble_eq_true rfl) rfl (fun E F => ?_)
  unfold fX7_type at h
  refine ml_aload_n (q := 0) F dX7_type_0 rfl rfl ?_
  refine ml_iload_n (q := 1) F dX7_type_1 rfl rfl ?_
  refine ml_bipush (v := 32) F dX7_type_2 (by decide) ?_
  refine ml_bipush (v := 126) F dX7_type_4 (by decide) ?_
  refine ml_callS (av := [.int a0, .int 32, .int 126]) F h (fun rs h9 => fX7_in_c a0 32 126 M rs hst h9) wcX7_in mlX7_43 wdX7_in (by decide) (by decide) (by decide) rfl stX7_in rfl (Nat.le_of_ble_eq_true rfl) dX7_type_6 (fun r1 M2 h => ?_)
  refine ml_jnR (P := fun B => ∀ (y3 : Int32), B y3 = some res → ml_J E g 2 (ml_Z E g (fun r _ => some (.int r)) res 0 0) (0 + 0) (0 + 0) 30 [(0, ml_rf g 11), (1, .int a0)] (.int y3 :: ml_rf g 11 :: []) M2) h ?_ (fun jn5 h => ?_)
  · intro y3 h
    dsimp only at h
    refine ml_set F (pc11 g) rfl iaX7 tyX7_ok nmX7 0 (by decide) lkX7_30 rfl rfl rfl rfl rfl (Nat.le_of_ble_eq_true rfl) (fun m => by simp [upd]) dX7_type_30 ?_
    refine ml_ltM h (fun M6 _ h => ?_)
    refine ml_aload_n (q := 0) F dX7_type_33 rfl rfl ?_
    refine ml_get (v := .int (M6 11 0)) F (pc11 g) rfl iaX7 0 (by decide) lkX7_30 rfl rfl dX7_type_34 ?_
    refine ml_if_eq (tgt := 42) F dX7_type_37 (by decide) h (fun _ h => ?_) (fun _ h => ?_)
    · refine ml_aload_n (q := 0) F dX7_type_42 rfl rfl ?_
      refine ml_get (v := ml_rf g 14) F (pc11 g) rfl iaX7 8 (by decide) lkX7_17 rfl rfl dX7_type_43 ?_
      refine ml_aload_n (q := 0) F dX7_type_46 rfl rfl ?_
      refine ml_get (v := .int (M6 11 9)) F (pc11 g) rfl iaX7 9 (by decide) lkX7_177 rfl rfl dX7_type_47 ?_
      refine ml_iload_n (q := 1) F dX7_type_50 rfl rfl ?_
      refine ml_cast F (pc14 g) h dX7_type_51 (fun h => ?_)
      refine ml_ltM h (fun M7 _ h => ?_)
      refine ml_aload_n (q := 0) F dX7_type_52 rfl rfl ?_
      refine ml_dup F dX7_type_53 rfl ?_
      refine ml_get (v := .int (M7 11 9)) F (pc11 g) rfl iaX7 9 (by decide) lkX7_177 rfl rfl dX7_type_54 ?_
      refine ml_iconst (v := 1) F dX7_type_57 (by decide) ?_
      refine ml_iadd F dX7_type_58 ?_
      refine ml_set F (pc11 g) rfl iaX7 tyX7_ok nmX7 9 (by decide) lkX7_177 rfl rfl rfl rfl rfl (Nat.le_of_ble_eq_true rfl) (fun m => by simp [upd]) dX7_type_59 ?_
      refine ml_ltM h (fun M8 _ h => ?_)
      refine ml_aload_n (q := 0) F dX7_type_62 rfl rfl ?_
      refine ml_get (v := .int (M8 11 9)) F (pc11 g) rfl iaX7 9 (by decide) lkX7_177 rfl rfl dX7_type_63 ?_
      exact ml_iret (st := []) F (Option.some.inj h) rfl rfl rfl (by decide) (by decide) dX7_type_66
    · refine ml_iconst (v := 0) F dX7_type_40 (by decide) ?_
      exact ml_iret (st := []) F (Option.some.inj h) rfl rfl rfl (by decide) (by decide) dX7_type_41
  refine ml_if_ne (tgt := 16) F dX7_type_9 (by decide) h (fun _ h => ?_) (fun _ h => ?_)
  · refine ml_aload_n (q := 0) F dX7_type_16 rfl rfl ?_
    refine ml_get (v := .int (M2 11 9)) F (pc11 g) rfl iaX7 9 (by decide) lkX7_177 rfl rfl dX7_type_17 ?_
    refine ml_bipush (v := 60) F dX7_type_20 (by decide) ?_
    refine ml_icmp_ne (tgt := 29) F dX7_type_22 (by decide) h (fun _ h => ?_) (fun _ h => ?_)
    · refine ml_iconst (v := 0) F dX7_type_29 (by decide) ?_
      exact ml_sub [0, 1] rfl (jn5 _ h)
    · refine ml_iconst (v := 2) F dX7_type_25 (by decide) ?_
      refine ml_goto (tgt := 30) F dX7_type_26 (by decide) ?_
      exact ml_sub [0, 1] rfl (jn5 _ h)
  · refine ml_iconst (v := 1) F dX7_type_12 (by decide) ?_
    refine ml_goto (tgt := 30) F dX7_type_13 (by decide) ?_
    exact ml_sub [0, 1] rfl (jn5 _ h)
set_option maxRecDepth 100000 in
def fX7_sign (M : ml_M) : Option ml_R :=
  ml_jn (fun (y1 : Int32) => some (.inl y1, M)) (fun B2 => (if (M 11 9) ≤ (M 11 10) then B2 (-1) else if ml_ok (M 11 10) 60 then B2 (M 14 (M 11 10).toNatClampNeg) else none))
set_option maxHeartbeats 4000000 in
set_option maxRecDepth 100000 in
theorem fX7_sign_c (M : ml_M) (res : ml_R) {g : ml_G} (hst : g.2.2.2.2.2.stackTraces = false) (h : fX7_sign M = some res) : ml_C yX7_sign cX7_sign 1 (some .int) 1 0 0 g (fun r _ => some (.int r)) [ml_rf g 11] M res := by
  refine ml_of [(0, ml_rf g 11)] hst (by decide) (Nat.le_of_ble_eq_true rfl) rfl (fun E F => ?_)
  unfold fX7_sign at h
  refine ml_aload_n (q := 0) F dX7_sign_0 rfl rfl ?_
  refine ml_get (v := .int (M 11 10)) F (pc11 g) rfl iaX7 10 (by decide) lkX7_180 rfl rfl dX7_sign_1 ?_
  refine ml_aload_n (q := 0) F dX7_sign_4 rfl rfl ?_
  refine ml_get (v := .int (M 11 9)) F (pc11 g) rfl iaX7 9 (by decide) lkX7_177 rfl rfl dX7_sign_5 ?_
  refine ml_jnR (P := fun B => ∀ (y1 : Int32), B y1 = some res → ml_J E g 1 (ml_Z E g (fun r _ => some (.int r)) res 0 0) (0) (0) 24 [(0, ml_rf g 11)] (.int y1 :: []) M) h ?_ (fun jn3 h => ?_)
  · intro y1 h
    dsimp only at h
    exact ml_iret (st := []) F (Option.some.inj h) rfl rfl rfl (by decide) (by decide) dX7_sign_24
  refine ml_icmp_ge (tgt := 23) F dX7_sign_8 (by decide) h (fun _ h => ?_) (fun _ h => ?_)
  · refine ml_iconst (v := (-1)) F dX7_sign_23 (by decide) ?_
    exact ml_sub [0] rfl (jn3 _ h)
  · refine ml_aload_n (q := 0) F dX7_sign_11 rfl rfl ?_
    refine ml_get (v := ml_rf g 14) F (pc11 g) rfl iaX7 8 (by decide) lkX7_17 rfl rfl dX7_sign_12 ?_
    refine ml_aload_n (q := 0) F dX7_sign_15 rfl rfl ?_
    refine ml_get (v := .int (M 11 10)) F (pc11 g) rfl iaX7 10 (by decide) lkX7_180 rfl rfl dX7_sign_16 ?_
    refine ml_cald F (pc14 g) h dX7_sign_19 (fun h => ?_)
    refine ml_goto (tgt := 24) F dX7_sign_20 (by decide) ?_
    exact ml_sub [0] rfl (jn3 _ h)
set_option maxRecDepth 100000 in
def fX7_needs (a0 : Int32) (M : ml_M) : Option ml_R :=
  (if (M 11 11) < 0 then ml_bd (fX7_sign M) (fun r1 M2 => (if r1 = a0 then ml_lt (ml_w M2 11 10 ((M2 11 10) + 1)) (fun M3 => some (.inl 0, M3)) else ml_lt (ml_w M2 11 11 (M2 11 10)) (fun M4 => some (.inl 0, M4)))) else some (.inl 0, M))
set_option maxHeartbeats 4000000 in
set_option maxRecDepth 100000 in
theorem fX7_needs_c (a0 : Int32) (M : ml_M) (res : ml_R) {g : ml_G} (hst : g.2.2.2.2.2.stackTraces = false) (h : fX7_needs a0 M = some res) : ml_C yX7_needs cX7_needs 2 none 2 0 0 g (fun _ _ => none) [ml_rf g 11, .int a0] M res := by
  refine ml_of [(0, ml_rf g 11), (1, .int a0)] hst (by decide) (Nat.le_of_ble_eq_true rfl) rfl (fun E F => ?_)
  unfold fX7_needs at h
  refine ml_aload_n (q := 0) F dX7_needs_0 rfl rfl ?_
  refine ml_get (v := .int (M 11 11)) F (pc11 g) rfl iaX7 11 (by decide) lkX7_183 rfl rfl dX7_needs_1 ?_
  refine ml_if_lt (tgt := 8) F dX7_needs_4 (by decide) h (fun _ h => ?_) (fun _ h => ?_)
  · refine ml_aload_n (q := 0) F dX7_needs_8 rfl rfl ?_
    refine ml_callV (av := []) (T := TX7) (N := 16) F (pc11 g) rfl h (fun rs h9 => fX7_sign_c M rs hst h9) wcX7_sign mlX7_186 wdX7_sign (by decide) (by decide) (by decide) rfl seX7_sign imX7_sign rfl (Nat.le_of_ble_eq_true rfl) dX7_needs_9 (fun r1 M2 h => ?_)
    refine ml_iload_n (q := 1) F dX7_needs_12 rfl rfl ?_
    refine ml_icmp_eq (tgt := 25) F dX7_needs_13 (by decide) h (fun _ h => ?_) (fun _ h => ?_)
    · refine ml_aload_n (q := 0) F dX7_needs_25 rfl rfl ?_
      refine ml_dup F dX7_needs_26 rfl ?_
      refine ml_get (v := .int (M2 11 10)) F (pc11 g) rfl iaX7 10 (by decide) lkX7_180 rfl rfl dX7_needs_27 ?_
      refine ml_iconst (v := 1) F dX7_needs_30 (by decide) ?_
      refine ml_iadd F dX7_needs_31 ?_
      refine ml_set F (pc11 g) rfl iaX7 tyX7_ok nmX7 10 (by decide) lkX7_180 rfl rfl rfl rfl rfl (Nat.le_of_ble_eq_true rfl) (fun m => by simp [upd]) dX7_needs_32 ?_
      refine ml_ltM h (fun M3 _ h => ?_)
      exact ml_vret (st := []) F (Option.some.inj h) rfl rfl (by decide) (by decide) dX7_needs_35
    · refine ml_aload_n (q := 0) F dX7_needs_16 rfl rfl ?_
      refine ml_aload_n (q := 0) F dX7_needs_17 rfl rfl ?_
      refine ml_get (v := .int (M2 11 10)) F (pc11 g) rfl iaX7 10 (by decide) lkX7_180 rfl rfl dX7_needs_18 ?_
      refine ml_set F (pc11 g) rfl iaX7 tyX7_ok nmX7 11 (by decide) lkX7_183 rfl rfl rfl rfl rfl (Nat.le_of_ble_eq_true rfl) (fun m => by simp [upd]) dX7_needs_21 ?_
      refine ml_ltM h (fun M4 _ h => ?_)
      exact ml_vret (st := []) F (Option.some.inj h) rfl rfl (by decide) (by decide) dX7_needs_24
  · exact ml_vret (st := []) F (Option.some.inj h) rfl rfl (by decide) (by decide) dX7_needs_7
set_option maxRecDepth 100000 in
def fX7_letters (a0 : Int32) (a1 : Int32) (a2 : Int32) (M : ml_M) : Option ml_R :=
  ml_bd (fX7_needs a0 M) (fun r1 M2 => ml_bd (fX7_needs a1 M2) (fun r3 M4 => ml_bd (fX7_needs a2 M4) (fun r5 M6 => some (.inl 0, M6))))
set_option maxHeartbeats 4000000 in
set_option maxRecDepth 100000 in
theorem fX7_letters_c (a0 : Int32) (a1 : Int32) (a2 : Int32) (M : ml_M) (res : ml_R) {g : ml_G} (hst : g.2.2.2.2.2.stackTraces = false) (h : fX7_letters a0 a1 a2 M = some res) : ml_C yX7_letters cX7_letters 4 none 3 0 0 g (fun _ _ => none) [ml_rf g 11, .int a0, .int a1, .int a2] M res := by
  refine ml_of [(0, ml_rf g 11), (1, .int a0), (2, .int a1), (3, .int a2)] hst (by decide) (Nat.le_of_ble_eq_true rfl) rfl (fun E F => ?_)
  unfold fX7_letters at h
  refine ml_aload_n (q := 0) F dX7_letters_0 rfl rfl ?_
  refine ml_iload_n (q := 1) F dX7_letters_1 rfl rfl ?_
  refine ml_callV (av := [.int a0]) (T := TX7) (N := 16) F (pc11 g) rfl h (fun rs h9 => fX7_needs_c a0 M rs hst h9) wcX7_needs mlX7_189 wdX7_needs (by decide) (by decide) (by decide) rfl seX7_needs imX7_needs rfl (Nat.le_of_ble_eq_true rfl) dX7_letters_2 (fun r1 M2 h => ?_)
  refine ml_aload_n (q := 0) F dX7_letters_5 rfl rfl ?_
  refine ml_iload_n (q := 2) F dX7_letters_6 rfl rfl ?_
  refine ml_callV (av := [.int a1]) (T := TX7) (N := 16) F (pc11 g) rfl h (fun rs h9 => fX7_needs_c a1 M2 rs hst h9) wcX7_needs mlX7_189 wdX7_needs (by decide) (by decide) (by decide) rfl seX7_needs imX7_needs rfl (Nat.le_of_ble_eq_true rfl) dX7_letters_7 (fun r3 M4 h => ?_)
  refine ml_aload_n (q := 0) F dX7_letters_10 rfl rfl ?_
  refine ml_iload_n (q := 3) F dX7_letters_11 rfl rfl ?_
  refine ml_callV (av := [.int a2]) (T := TX7) (N := 16) F (pc11 g) rfl h (fun rs h9 => fX7_needs_c a2 M4 rs hst h9) wcX7_needs mlX7_189 wdX7_needs (by decide) (by decide) (by decide) rfl seX7_needs imX7_needs rfl (Nat.le_of_ble_eq_true rfl) dX7_letters_12 (fun r5 M6 h => ?_)
  exact ml_vret (st := []) F (Option.some.inj h) rfl rfl (by decide) (by decide) dX7_letters_15
set_option maxRecDepth 100000 in
def fX7_number_s0 (a0 : Int32) (rec : Int32 → Int32 → Int32 → ml_M → Option ml_R) (x1 x2 x3 : Int32) (M : ml_M) : Option ml_R :=
  ml_jn (fun (M1 : ml_M) => some (.inl x2, M1)) (fun B2 => (if x1 ≤ x3 then B2 M else ml_bd (fX7_sign M) (fun r4 M5 => ml_bd (fX7_in r4 48 57 M5) (fun r6 M7 => (if r6 = 0 then B2 M7 else ml_bd (fX7_sign M7) (fun r8 M9 => ml_lt (((10 * x2) + r8) - 48) (fun v10 => ml_lt (ml_w M9 11 10 ((M9 11 10) + 1)) (fun M11 => rec x1 v10 (x3 + 1) M11))))))))
def fX7_number_l (a0 : Int32) : Nat → Int32 → Int32 → Int32 → ml_M → Option ml_R
  | 0 => fun _ _ _ _ => none
  | n + 1 => fX7_number_s0 a0 (fX7_number_l a0 n)
set_option maxHeartbeats 4000000 in
set_option maxRecDepth 100000 in
theorem fX7_number_w (a0 : Int32) {E : ml_E} {g : ml_G} {res : ml_R} (F : ml_F E g cX7_number yX7_number.cls 4 2 0 0 (some .int) []) : ∀ fuel : Nat, ∀ (x1 x2 x3 : Int32) (M : ml_M), fX7_number_l a0 fuel x1 x2 x3 M = some res → ml_J E g 4 (ml_Z E g (fun r _ => some (.int r)) res 0 0) 0 0 37 [(0, ml_rf g 11), (1, .int x1), (2, .int x2), (3, .int x3)] [] M := by
  have hst := ml_F_st F
  intro fuel
  induction fuel with
  | zero => intro _ _ _ _ h; exact nomatch (show (none : Option ml_R) = some res from h)
  | succ fuel ih =>
    intro x1 x2 x3 M h
    replace h : fX7_number_s0 a0 (fX7_number_l a0 fuel) x1 x2 x3 M = some res := h
    unfold fX7_number_s0 at h
    refine ml_iload_n (q := 3) F dX7_number_37 rfl rfl ?_
    refine ml_iload_n (q := 1) F dX7_number_38 rfl rfl ?_
    refine ml_jnR (P := fun B => ∀ (M1 : ml_M), B M1 = some res → ml_J E g 4 (ml_Z E g (fun r _ => some (.int r)) res 0 0) (0) (0) 85 [(0, ml_rf g 11), (1, .int x1), (2, .int x2), (3, .int x3)] ([]) M1) h ?_ (fun jn3 h => ?_)
    · intro M1 h
      dsimp only at h
      refine ml_iload_n (q := 2) F dX7_number_85 rfl rfl ?_
      exact ml_iret (st := []) F (Option.some.inj h) rfl rfl rfl (by decide) (by decide) dX7_number_86
    refine ml_icmp_ge (tgt := 85) F dX7_number_39 (by decide) h (fun _ h => ?_) (fun _ h => ?_)
    · exact ml_sub [0, 1, 2, 3] rfl (jn3 _ h)
    · refine ml_aload_n (q := 0) F dX7_number_42 rfl rfl ?_
      refine ml_callV (av := []) (T := TX7) (N := 16) F (pc11 g) rfl h (fun rs h9 => fX7_sign_c M rs hst h9) wcX7_sign mlX7_186 wdX7_sign (by decide) (by decide) (by decide) rfl seX7_sign imX7_sign rfl (Nat.le_of_ble_eq_true rfl) dX7_number_43 (fun r4 M5 h => ?_)
      refine ml_bipush (v := 48) F dX7_number_46 (by decide) ?_
      refine ml_bipush (v := 57) F dX7_number_48 (by decide) ?_
      refine ml_callS (av := [.int r4, .int 48, .int 57]) F h (fun rs h9 => fX7_in_c r4 48 57 M5 rs hst h9) wcX7_in mlX7_43 wdX7_in (by decide) (by decide) (by decide) rfl stX7_in rfl (Nat.le_of_ble_eq_true rfl) dX7_number_50 (fun r6 M7 h => ?_)
      refine ml_if_eq (tgt := 85) F dX7_number_53 (by decide) h (fun _ h => ?_) (fun _ h => ?_)
      · exact ml_sub [0, 1, 2, 3] rfl (jn3 _ h)
      · refine ml_bipush (v := 10) F dX7_number_56 (by decide) ?_
        refine ml_iload_n (q := 2) F dX7_number_58 rfl rfl ?_
        refine ml_imul F dX7_number_59 ?_
        refine ml_aload_n (q := 0) F dX7_number_60 rfl rfl ?_
        refine ml_callV (av := []) (T := TX7) (N := 16) F (pc11 g) rfl h (fun rs h9 => fX7_sign_c M7 rs hst h9) wcX7_sign mlX7_186 wdX7_sign (by decide) (by decide) (by decide) rfl seX7_sign imX7_sign rfl (Nat.le_of_ble_eq_true rfl) dX7_number_61 (fun r8 M9 h => ?_)
        refine ml_iadd F dX7_number_64 ?_
        refine ml_bipush (v := 48) F dX7_number_65 (by decide) ?_
        refine ml_isub F dX7_number_67 ?_
        refine ml_ltI h (fun v10 _ h => ?_)
        refine ml_istore_n (ls2 := [(2, .int v10), (0, ml_rf g 11), (1, .int x1), (3, .int x3)]) F dX7_number_68 rfl (by decide) rfl ?_
        refine ml_aload_n (q := 1) F dX7_number_69 rfl rfl ?_
        refine ml_dup F dX7_number_70 rfl ?_
        refine ml_get (v := .int (M9 11 10)) F (pc11 g) rfl iaX7 10 (by decide) lkX7_180 rfl rfl dX7_number_71 ?_
        refine ml_iconst (v := 1) F dX7_number_74 (by decide) ?_
        refine ml_iadd F dX7_number_75 ?_
        refine ml_set F (pc11 g) rfl iaX7 tyX7_ok nmX7 10 (by decide) lkX7_180 rfl rfl rfl rfl rfl (Nat.le_of_ble_eq_true rfl) (fun m => by simp [upd]) dX7_number_76 ?_
        refine ml_ltM h (fun M11 _ h => ?_)
        refine ml_iinc (q := 3) (v := x3 + 1) (ls2 := [(3, .int (x3 + 1)), (2, .int v10), (0, ml_rf g 11), (1, .int x1)]) F dX7_number_79 rfl rfl (by decide) rfl ?_
        refine ml_goto (tgt := 37) F dX7_number_82 (by decide) ?_
        exact ml_sub [2, 3, 1, 0] rfl (ih _ _ _ _ h)
set_option maxRecDepth 100000 in
def fX7_number (a0 : Int32) (M : ml_M) : Option ml_R :=
  (if (M 11 11) < 0 then ml_bd (fX7_sign M) (fun r1 M2 => ml_bd (fX7_in r1 48 57 M2) (fun r3 M4 => (if r3 = 0 then ml_lt (ml_w M4 11 11 (M4 11 10)) (fun M5 => some (.inl 0, M5)) else fX7_number_l a0 ml_fuel a0 0 0 M4))) else some (.inl 0, M))
set_option maxHeartbeats 4000000 in
set_option maxRecDepth 100000 in
theorem fX7_number_c (a0 : Int32) (M : ml_M) (res : ml_R) {g : ml_G} (hst : g.2.2.2.2.2.stackTraces = false) (h : fX7_number a0 M = some res) : ml_C yX7_number cX7_number 4 (some .int) 2 0 0 g (fun r _ => some (.int r)) [ml_rf g 11, .int a0] M res := by
  refine ml_of [(0, ml_rf g 11), (1, .int a0)] hst (by decide) (Nat.le_of_ble_eq_true rfl) rfl (fun E F => ?_)
  unfold fX7_number at h
  refine ml_aload_n (q := 0) F dX7_number_0 rfl rfl ?_
  refine ml_get (v := .int (M 11 11)) F (pc11 g) rfl iaX7 11 (by decide) lkX7_183 rfl rfl dX7_number_1 ?_
  refine ml_if_lt (tgt := 9) F dX7_number_4 (by decide) h (fun _ h => ?_) (fun _ h => ?_)
  · refine ml_aload_n (q := 0) F dX7_number_9 rfl rfl ?_
    refine ml_callV (av := []) (T := TX7) (N := 16) F (pc11 g) rfl h (fun rs h9 => fX7_sign_c M rs hst h9) wcX7_sign mlX7_186 wdX7_sign (by decide) (by decide) (by decide) rfl seX7_sign imX7_sign rfl (Nat.le_of_ble_eq_true rfl) dX7_number_10 (fun r1 M2 h => ?_)
    refine ml_bipush (v := 48) F dX7_number_13 (by decide) ?_
    refine ml_bipush (v := 57) F dX7_number_15 (by decide) ?_
    refine ml_callS (av := [.int r1, .int 48, .int 57]) F h (fun rs h9 => fX7_in_c r1 48 57 M2 rs hst h9) wcX7_in mlX7_43 wdX7_in (by decide) (by decide) (by decide) rfl stX7_in rfl (Nat.le_of_ble_eq_true rfl) dX7_number_17 (fun r3 M4 h => ?_)
    refine ml_if_ne (tgt := 33) F dX7_number_20 (by decide) h (fun _ h => ?_) (fun _ h => ?_)
    · refine ml_iconst (v := 0) F dX7_number_33 (by decide) ?_
      refine ml_istore_n (ls2 := [(2, .int 0), (0, ml_rf g 11), (1, .int a0)]) F dX7_number_34 rfl (by decide) rfl ?_
      refine ml_iconst (v := 0) F dX7_number_35 (by decide) ?_
      refine ml_istore_n (ls2 := [(3, .int 0), (2, .int 0), (0, ml_rf g 11), (1, .int a0)]) F dX7_number_36 rfl (by decide) rfl ?_
      exact ml_sub [2, 3, 1, 0] rfl ((fX7_number_w a0 F ml_fuel) _ _ _ _ h)
    · refine ml_aload_n (q := 0) F dX7_number_23 rfl rfl ?_
      refine ml_aload_n (q := 0) F dX7_number_24 rfl rfl ?_
      refine ml_get (v := .int (M4 11 10)) F (pc11 g) rfl iaX7 10 (by decide) lkX7_180 rfl rfl dX7_number_25 ?_
      refine ml_set F (pc11 g) rfl iaX7 tyX7_ok nmX7 11 (by decide) lkX7_183 rfl rfl rfl rfl rfl (Nat.le_of_ble_eq_true rfl) (fun m => by simp [upd]) dX7_number_28 ?_
      refine ml_ltM h (fun M5 _ h => ?_)
      refine ml_iconst (v := 0) F dX7_number_31 (by decide) ?_
      exact ml_iret (st := []) F (Option.some.inj h) rfl rfl rfl (by decide) (by decide) dX7_number_32
  · refine ml_iconst (v := 0) F dX7_number_7 (by decide) ?_
    exact ml_iret (st := []) F (Option.some.inj h) rfl rfl rfl (by decide) (by decide) dX7_number_8
set_option maxRecDepth 100000 in
def fX7_behind (a0 : Int32) (M : ml_M) : Option ml_R :=
  ml_bd (fX7_needs 32 M) (fun r1 M2 => ml_bd (fX7_number a0 M2) (fun r3 M4 => some (.inl r3, M4)))
set_option maxHeartbeats 4000000 in
set_option maxRecDepth 100000 in
theorem fX7_behind_c (a0 : Int32) (M : ml_M) (res : ml_R) {g : ml_G} (hst : g.2.2.2.2.2.stackTraces = false) (h : fX7_behind a0 M = some res) : ml_C yX7_behind cX7_behind 2 (some .int) 3 0 0 g (fun r _ => some (.int r)) [ml_rf g 11, .int a0] M res := by
  refine ml_of [(0, ml_rf g 11), (1, .int a0)] hst (by decide) (Nat.le_of_ble_eq_true rfl) rfl (fun E F => ?_)
  unfold fX7_behind at h
  refine ml_aload_n (q := 0) F dX7_behind_0 rfl rfl ?_
  refine ml_bipush (v := 32) F dX7_behind_1 (by decide) ?_
  refine ml_callV (av := [.int 32]) (T := TX7) (N := 16) F (pc11 g) rfl h (fun rs h9 => fX7_needs_c 32 M rs hst h9) wcX7_needs mlX7_189 wdX7_needs (by decide) (by decide) (by decide) rfl seX7_needs imX7_needs rfl (Nat.le_of_ble_eq_true rfl) dX7_behind_3 (fun r1 M2 h => ?_)
  refine ml_aload_n (q := 0) F dX7_behind_6 rfl rfl ?_
  refine ml_iload_n (q := 1) F dX7_behind_7 rfl rfl ?_
  refine ml_callV (av := [.int a0]) (T := TX7) (N := 16) F (pc11 g) rfl h (fun rs h9 => fX7_number_c a0 M2 rs hst h9) wcX7_number mlX7_192 wdX7_number (by decide) (by decide) (by decide) rfl seX7_number imX7_number rfl (Nat.le_of_ble_eq_true rfl) dX7_behind_8 (fun r3 M4 h => ?_)
  exact ml_iret (st := []) F (Option.some.inj h) rfl rfl rfl (by decide) (by decide) dX7_behind_11
set_option maxRecDepth 100000 in
def fX7_oneOf (a0 : Int32) (a1 : Int32) (a2 : Int32) (M : ml_M) : Option ml_R :=
  (if (M 11 11) < 0 then ml_bd (fX7_sign M) (fun r1 M2 => ml_jn (fun (y3 : Int32) => (if 0 ≤ y3 then ml_lt (ml_w M2 11 10 ((M2 11 10) + 1)) (fun M6 => some (.inl y3, M6)) else ml_lt (ml_w M2 11 11 (M2 11 10)) (fun M7 => some (.inl 0, M7)))) (fun B4 => (if r1 = a0 then B4 0 else (if r1 = a1 then B4 1 else (if a2 = 0 then B4 (-1) else (if r1 = a2 then B4 2 else B4 (-1))))))) else some (.inl 0, M))
set_option maxHeartbeats 4000000 in
set_option maxRecDepth 100000 in
theorem fX7_oneOf_c (a0 : Int32) (a1 : Int32) (a2 : Int32) (M : ml_M) (res : ml_R) {g : ml_G} (hst : g.2.2.2.2.2.stackTraces = false) (h : fX7_oneOf a0 a1 a2 M = some res) : ml_C yX7_oneOf cX7_oneOf 6 (some .int) 2 0 0 g (fun r _ => some (.int r)) [ml_rf g 11, .int a0, .int a1, .int a2] M res := by
  refine ml_of [(0, ml_rf g 11), (1, .int a0), (2, .int a1), (3, .int a2)] hst (by decide) (Nat.le_of_ble_eq_true rfl) rfl (fun E F => ?_)
  unfold fX7_oneOf at h
  refine ml_aload_n (q := 0) F dX7_oneOf_0 rfl rfl ?_
  refine ml_get (v := .int (M 11 11)) F (pc11 g) rfl iaX7 11 (by decide) lkX7_183 rfl rfl dX7_oneOf_1 ?_
  refine ml_if_lt (tgt := 9) F dX7_oneOf_4 (by decide) h (fun _ h => ?_) (fun _ h => ?_)
  · refine ml_aload_n (q := 0) F dX7_oneOf_9 rfl rfl ?_
    refine ml_callV (av := []) (T := TX7) (N := 16) F (pc11 g) rfl h (fun rs h9 => fX7_sign_c M rs hst h9) wcX7_sign mlX7_186 wdX7_sign (by decide) (by decide) (by decide) rfl seX7_sign imX7_sign rfl (Nat.le_of_ble_eq_true rfl) dX7_oneOf_10 (fun r1 M2 h => ?_)
    refine ml_istore (ls2 := [(4, .int r1), (0, ml_rf g 11), (1, .int a0), (2, .int a1), (3, .int a2)]) F dX7_oneOf_13 (by decide) rfl ?_
    refine ml_iload (q := 0) F dX7_oneOf_15 rfl ?_
    refine ml_iload_n (q := 2) F dX7_oneOf_17 rfl rfl ?_
    refine ml_jnR (P := fun B => ∀ (y3 : Int32), B y3 = some res → ml_J E g 6 (ml_Z E g (fun r _ => some (.int r)) res 0 0) (0 + 0) (0 + 0) 50 [(0, ml_rf g 11), (1, .int a0), (2, .int a1), (3, .int a2), (4, .int r1)] (.int y3 :: []) M2) h ?_ (fun jn5 h => ?_)
    · intro y3 h
      dsimp only at h
      refine ml_istore (ls2 := [(5, .int y3), (0, ml_rf g 11), (1, .int a0), (2, .int a1), (3, .int a2), (4, .int r1)]) F dX7_oneOf_50 (by decide) rfl ?_
      refine ml_iload (q := 0) F dX7_oneOf_52 rfl ?_
      refine ml_if_ge (tgt := 67) F dX7_oneOf_54 (by decide) h (fun _ h => ?_) (fun _ h => ?_)
      · refine ml_aload_n (q := 1) F dX7_oneOf_67 rfl rfl ?_
        refine ml_dup F dX7_oneOf_68 rfl ?_
        refine ml_get (v := .int (M2 11 10)) F (pc11 g) rfl iaX7 10 (by decide) lkX7_180 rfl rfl dX7_oneOf_69 ?_
        refine ml_iconst (v := 1) F dX7_oneOf_72 (by decide) ?_
        refine ml_iadd F dX7_oneOf_73 ?_
        refine ml_set F (pc11 g) rfl iaX7 tyX7_ok nmX7 10 (by decide) lkX7_180 rfl rfl rfl rfl rfl (Nat.le_of_ble_eq_true rfl) (fun m => by simp [upd]) dX7_oneOf_74 ?_
        refine ml_ltM h (fun M6 _ h => ?_)
        refine ml_iload (q := 0) F dX7_oneOf_77 rfl ?_
        exact ml_iret (st := []) F (Option.some.inj h) rfl rfl rfl (by decide) (by decide) dX7_oneOf_79
      · refine ml_aload_n (q := 1) F dX7_oneOf_57 rfl rfl ?_
        refine ml_aload_n (q := 1) F dX7_oneOf_58 rfl rfl ?_
        refine ml_get (v := .int (M2 11 10)) F (pc11 g) rfl iaX7 10 (by decide) lkX7_180 rfl rfl dX7_oneOf_59 ?_
        refine ml_set F (pc11 g) rfl iaX7 tyX7_ok nmX7 11 (by decide) lkX7_183 rfl rfl rfl rfl rfl (Nat.le_of_ble_eq_true rfl) (fun m => by simp [upd]) dX7_oneOf_62 ?_
        refine ml_ltM h (fun M7 _ h => ?_)
        refine ml_iconst (v := 0) F dX7_oneOf_65 (by decide) ?_
        exact ml_iret (st := []) F (Option.some.inj h) rfl rfl rfl (by decide) (by decide) dX7_oneOf_66
    refine ml_icmp_ne (tgt := 25) F dX7_oneOf_18 (by decide) h (fun _ h => ?_) (fun _ h => ?_)
    · refine ml_iload (q := 0) F dX7_oneOf_25 rfl ?_
      refine ml_iload_n (q := 3) F dX7_oneOf_27 rfl rfl ?_
      refine ml_icmp_ne (tgt := 35) F dX7_oneOf_28 (by decide) h (fun _ h => ?_) (fun _ h => ?_)
      · refine ml_iload_n (q := 4) F dX7_oneOf_35 rfl rfl ?_
        refine ml_if_eq (tgt := 49) F dX7_oneOf_36 (by decide) h (fun _ h => ?_) (fun _ h => ?_)
        · refine ml_iconst (v := (-1)) F dX7_oneOf_49 (by decide) ?_
          exact ml_sub [1, 2, 3, 4, 0] rfl (jn5 _ h)
        · refine ml_iload (q := 0) F dX7_oneOf_39 rfl ?_
          refine ml_iload_n (q := 4) F dX7_oneOf_41 rfl rfl ?_
          refine ml_icmp_ne (tgt := 49) F dX7_oneOf_42 (by decide) h (fun _ h => ?_) (fun _ h => ?_)
          · refine ml_iconst (v := (-1)) F dX7_oneOf_49 (by decide) ?_
            exact ml_sub [1, 2, 3, 4, 0] rfl (jn5 _ h)
          · refine ml_iconst (v := 2) F dX7_oneOf_45 (by decide) ?_
            refine ml_goto (tgt := 50) F dX7_oneOf_46 (by decide) ?_
            exact ml_sub [1, 2, 3, 4, 0] rfl (jn5 _ h)
      · refine ml_iconst (v := 1) F dX7_oneOf_31 (by decide) ?_
        refine ml_goto (tgt := 50) F dX7_oneOf_32 (by decide) ?_
        exact ml_sub [1, 2, 3, 4, 0] rfl (jn5 _ h)
    · refine ml_iconst (v := 0) F dX7_oneOf_21 (by decide) ?_
      refine ml_goto (tgt := 50) F dX7_oneOf_22 (by decide) ?_
      exact ml_sub [1, 2, 3, 4, 0] rfl (jn5 _ h)
  · refine ml_iconst (v := 0) F dX7_oneOf_7 (by decide) ?_
    exact ml_iret (st := []) F (Option.some.inj h) rfl rfl rfl (by decide) (by decide) dX7_oneOf_8
set_option maxRecDepth 100000 in
def fX7_word (a0 : Int32) (M : ml_M) : Option ml_R :=
  ml_jn (fun (M1 : ml_M) => some (.inl 0, M1)) (fun B2 => (if a0 = 98 then ml_bd (fX7_letters 111 97 116 M) (fun r5 M6 => B2 M6) else (if a0 = 100 then ml_bd (fX7_letters 114 97 105 M) (fun r8 M9 => ml_bd (fX7_needs 110 M9) (fun r10 M11 => B2 M11)) else (if a0 = 111 then ml_bd (fX7_letters 112 101 110 M) (fun r13 M14 => B2 M14) else (if a0 = 114 then ml_bd (fX7_letters 97 105 110 M) (fun r16 M17 => B2 M17) else (if a0 = 115 then ml_bd (fX7_letters 104 117 116 M) (fun r19 M20 => B2 M20) else (if a0 = 118 then ml_bd (fX7_letters 97 108 118 M) (fun r22 M23 => ml_bd (fX7_needs 101 M23) (fun r24 M25 => B2 M25)) else (ml_bd (fX7_letters 97 105 116 M) (fun r26 M27 => B2 M27)))))))))
set_option maxHeartbeats 4000000 in
set_option maxRecDepth 100000 in
theorem fX7_word_c (a0 : Int32) (M : ml_M) (res : ml_R) {g : ml_G} (hst : g.2.2.2.2.2.stackTraces = false) (h : fX7_word a0 M = some res) : ml_C yX7_word cX7_word 2 none 4 0 0 g (fun _ _ => none) [ml_rf g 11, .int a0] M res := by
  refine ml_of [(0, ml_rf g 11), (1, .int a0)] hst (by decide) (Nat.le_of_ble_eq_true rfl) rfl (fun E F => ?_)
  unfold fX7_word at h
  refine ml_iload_n (q := 1) F dX7_word_0 rfl rfl ?_
  refine ml_jnR (P := fun B => ∀ (M1 : ml_M), B M1 = some res → ml_J E g 2 (ml_Z E g (fun _ _ => none) res 0 0) (0 + 0) (0 + 0) 160 [(0, ml_rf g 11), (1, .int a0)] ([]) M1) h ?_ (fun jn3 h => ?_)
  · intro M1 h
    dsimp only at h
    exact ml_vret (st := []) F (Option.some.inj h) rfl rfl (by decide) (by decide) dX7_word_160
  refine ml_ifc h (fun c4 h => ?_) (fun c4 h => ?_)
  · refine ml_lookup (tgt := 60) F dX7_word_1 (by decide) (by rw [c4]; try rfl) (by decide) ?_
    refine ml_aload_n (q := 0) F dX7_word_60 rfl rfl ?_
    refine ml_bipush (v := 111) F dX7_word_61 (by decide) ?_
    refine ml_bipush (v := 97) F dX7_word_63 (by decide) ?_
    refine ml_bipush (v := 116) F dX7_word_65 (by decide) ?_
    refine ml_callV (av := [.int 111, .int 97, .int 116]) (T := TX7) (N := 16) F (pc11 g) rfl h (fun rs h9 => fX7_letters_c 111 97 116 M rs hst h9) wcX7_letters mlX7_195 wdX7_letters (by decide) (by decide) (by decide) rfl seX7_letters imX7_letters rfl (Nat.le_of_ble_eq_true rfl) dX7_word_67 (fun r5 M6 h => ?_)
    refine ml_goto (tgt := 160) F dX7_word_70 (by decide) ?_
    exact ml_sub [0, 1] rfl (jn3 _ h)
  refine ml_ifc h (fun c7 h => ?_) (fun c7 h => ?_)
  · refine ml_lookup (tgt := 131) F dX7_word_1 (by decide) (by rw [c7]; try rfl) (by decide) ?_
    refine ml_aload_n (q := 0) F dX7_word_131 rfl rfl ?_
    refine ml_bipush (v := 114) F dX7_word_132 (by decide) ?_
    refine ml_bipush (v := 97) F dX7_word_134 (by decide) ?_
    refine ml_bipush (v := 105) F dX7_word_136 (by decide) ?_
    refine ml_callV (av := [.int 114, .int 97, .int 105]) (T := TX7) (N := 16) F (pc11 g) rfl h (fun rs h9 => fX7_letters_c 114 97 105 M rs hst h9) wcX7_letters mlX7_195 wdX7_letters (by decide) (by decide) (by decide) rfl seX7_letters imX7_letters rfl (Nat.le_of_ble_eq_true rfl) dX7_word_138 (fun r8 M9 h => ?_)
    refine ml_aload_n (q := 0) F dX7_word_141 rfl rfl ?_
    refine ml_bipush (v := 110) F dX7_word_142 (by decide) ?_
    refine ml_callV (av := [.int 110]) (T := TX7) (N := 16) F (pc11 g) rfl h (fun rs h9 => fX7_needs_c 110 M9 rs hst h9) wcX7_needs mlX7_189 wdX7_needs (by decide) (by decide) (by decide) rfl seX7_needs imX7_needs rfl (Nat.le_of_ble_eq_true rfl) dX7_word_144 (fun r10 M11 h => ?_)
    refine ml_goto (tgt := 160) F dX7_word_147 (by decide) ?_
    exact ml_sub [0, 1] rfl (jn3 _ h)
  refine ml_ifc h (fun c12 h => ?_) (fun c12 h => ?_)
  · refine ml_lookup (tgt := 92) F dX7_word_1 (by decide) (by rw [c12]; try rfl) (by decide) ?_
    refine ml_aload_n (q := 0) F dX7_word_92 rfl rfl ?_
    refine ml_bipush (v := 112) F dX7_word_93 (by decide) ?_
    refine ml_bipush (v := 101) F dX7_word_95 (by decide) ?_
    refine ml_bipush (v := 110) F dX7_word_97 (by decide) ?_
    refine ml_callV (av := [.int 112, .int 101, .int 110]) (T := TX7) (N := 16) F (pc11 g) rfl h (fun rs h9 => fX7_letters_c 112 101 110 M rs hst h9) wcX7_letters mlX7_195 wdX7_letters (by decide) (by decide) (by decide) rfl seX7_letters imX7_letters rfl (Nat.le_of_ble_eq_true rfl) dX7_word_99 (fun r13 M14 h => ?_)
    refine ml_goto (tgt := 160) F dX7_word_102 (by decide) ?_
    exact ml_sub [0, 1] rfl (jn3 _ h)
  refine ml_ifc h (fun c15 h => ?_) (fun c15 h => ?_)
  · refine ml_lookup (tgt := 118) F dX7_word_1 (by decide) (by rw [c15]; try rfl) (by decide) ?_
    refine ml_aload_n (q := 0) F dX7_word_118 rfl rfl ?_
    refine ml_bipush (v := 97) F dX7_word_119 (by decide) ?_
    refine ml_bipush (v := 105) F dX7_word_121 (by decide) ?_
    refine ml_bipush (v := 110) F dX7_word_123 (by decide) ?_
    refine ml_callV (av := [.int 97, .int 105, .int 110]) (T := TX7) (N := 16) F (pc11 g) rfl h (fun rs h9 => fX7_letters_c 97 105 110 M rs hst h9) wcX7_letters mlX7_195 wdX7_letters (by decide) (by decide) (by decide) rfl seX7_letters imX7_letters rfl (Nat.le_of_ble_eq_true rfl) dX7_word_125 (fun r16 M17 h => ?_)
    refine ml_goto (tgt := 160) F dX7_word_128 (by decide) ?_
    exact ml_sub [0, 1] rfl (jn3 _ h)
  refine ml_ifc h (fun c18 h => ?_) (fun c18 h => ?_)
  · refine ml_lookup (tgt := 105) F dX7_word_1 (by decide) (by rw [c18]; try rfl) (by decide) ?_
    refine ml_aload_n (q := 0) F dX7_word_105 rfl rfl ?_
    refine ml_bipush (v := 104) F dX7_word_106 (by decide) ?_
    refine ml_bipush (v := 117) F dX7_word_108 (by decide) ?_
    refine ml_bipush (v := 116) F dX7_word_110 (by decide) ?_
    refine ml_callV (av := [.int 104, .int 117, .int 116]) (T := TX7) (N := 16) F (pc11 g) rfl h (fun rs h9 => fX7_letters_c 104 117 116 M rs hst h9) wcX7_letters mlX7_195 wdX7_letters (by decide) (by decide) (by decide) rfl seX7_letters imX7_letters rfl (Nat.le_of_ble_eq_true rfl) dX7_word_112 (fun r19 M20 h => ?_)
    refine ml_goto (tgt := 160) F dX7_word_115 (by decide) ?_
    exact ml_sub [0, 1] rfl (jn3 _ h)
  refine ml_ifc h (fun c21 h => ?_) (fun c21 h => ?_)
  · refine ml_lookup (tgt := 73) F dX7_word_1 (by decide) (by rw [c21]; try rfl) (by decide) ?_
    refine ml_aload_n (q := 0) F dX7_word_73 rfl rfl ?_
    refine ml_bipush (v := 97) F dX7_word_74 (by decide) ?_
    refine ml_bipush (v := 108) F dX7_word_76 (by decide) ?_
    refine ml_bipush (v := 118) F dX7_word_78 (by decide) ?_
    refine ml_callV (av := [.int 97, .int 108, .int 118]) (T := TX7) (N := 16) F (pc11 g) rfl h (fun rs h9 => fX7_letters_c 97 108 118 M rs hst h9) wcX7_letters mlX7_195 wdX7_letters (by decide) (by decide) (by decide) rfl seX7_letters imX7_letters rfl (Nat.le_of_ble_eq_true rfl) dX7_word_80 (fun r22 M23 h => ?_)
    refine ml_aload_n (q := 0) F dX7_word_83 rfl rfl ?_
    refine ml_bipush (v := 101) F dX7_word_84 (by decide) ?_
    refine ml_callV (av := [.int 101]) (T := TX7) (N := 16) F (pc11 g) rfl h (fun rs h9 => fX7_needs_c 101 M23 rs hst h9) wcX7_needs mlX7_189 wdX7_needs (by decide) (by decide) (by decide) rfl seX7_needs imX7_needs rfl (Nat.le_of_ble_eq_true rfl) dX7_word_86 (fun r24 M25 h => ?_)
    refine ml_goto (tgt := 160) F dX7_word_89 (by decide) ?_
    exact ml_sub [0, 1] rfl (jn3 _ h)
  refine ml_lookup (tgt := 150) F dX7_word_1 (by decide) (by simp only [Op.lookupswitch.offset_cons, Op.lookupswitch.offset_nil, if_neg (show ¬ ((98 : Int) = _) from ml_ne_i (k := 98) c4), if_neg (show ¬ ((100 : Int) = _) from ml_ne_i (k := 100) c7), if_neg (show ¬ ((111 : Int) = _) from ml_ne_i (k := 111) c12), if_neg (show ¬ ((114 : Int) = _) from ml_ne_i (k := 114) c15), if_neg (show ¬ ((115 : Int) = _) from ml_ne_i (k := 115) c18), if_neg (show ¬ ((118 : Int) = _) from ml_ne_i (k := 118) c21)]; try rfl) (by decide) ?_
  refine ml_aload_n (q := 0) F dX7_word_150 rfl rfl ?_
  refine ml_bipush (v := 97) F dX7_word_151 (by decide) ?_
  refine ml_bipush (v := 105) F dX7_word_153 (by decide) ?_
  refine ml_bipush (v := 116) F dX7_word_155 (by decide) ?_
  refine ml_callV (av := [.int 97, .int 105, .int 116]) (T := TX7) (N := 16) F (pc11 g) rfl h (fun rs h9 => fX7_letters_c 97 105 116 M rs hst h9) wcX7_letters mlX7_195 wdX7_letters (by decide) (by decide) (by decide) rfl seX7_letters imX7_letters rfl (Nat.le_of_ble_eq_true rfl) dX7_word_157 (fun r26 M27 h => ?_)
  exact ml_sub [0, 1] rfl (jn3 _ h)
set_option maxRecDepth 100000 in
def fX7_command_s0 (rec : Int32 → Int32 → Int32 → ml_M → Option ml_R) (x1 x2 x3 : Int32) (M : ml_M) : Option ml_R :=
  (if 4 ≤ x3 then ml_jn (fun (_u : Unit) => ml_lt (ml_w M 11 10 ((M 11 10) + 1)) (fun M3 => ml_bd (fX7_word x2 M3) (fun r4 M5 => if ml_ok x1 244 then ml_lt (ml_w M5 15 x1.toNatClampNeg x2) (fun M6 => ml_jn (fun (M7 : ml_M) => some (.inl 0, M7)) (fun B8 => (if x2 = 98 then ml_bd (fX7_needs 32 M6) (fun r11 M12 => ml_bd (fX7_oneOf 114 103 98 M12) (fun r13 M14 => if ml_ok (x1 + 1) 244 then ml_lt (ml_w M14 15 (x1 + 1).toNatClampNeg r13) (fun M15 => ml_bd (fX7_number 1 M15) (fun r16 M17 => if ml_ok (x1 + 2) 244 then ml_lt (ml_w M17 15 (x1 + 2).toNatClampNeg r16) (fun M18 => ml_bd (fX7_needs 32 M18) (fun r19 M20 => ml_bd (fX7_oneOf 100 117 0 M20) (fun r21 M22 => if ml_ok (x1 + 3) 244 then ml_lt (ml_w M22 15 (x1 + 3).toNatClampNeg (1 - r21)) (fun M23 => B8 M23) else none))) else none)) else none)) else (if x2 = 118 then ml_bd (fX7_behind 1 M6) (fun r25 M26 => if ml_ok (x1 + 1) 244 then ml_lt (ml_w M26 15 (x1 + 1).toNatClampNeg r25) (fun M27 => ml_bd (fX7_behind 1 M27) (fun r28 M29 => if ml_ok (x1 + 2) 244 then ml_lt (ml_w M29 15 (x1 + 2).toNatClampNeg r28) (fun M30 => B8 M30) else none)) else none) else (if x2 = 119 then ml_jn (fun (y32 : Int32) (M33 : ml_M) => if ml_ok (x1 + 1) 244 then ml_lt (ml_w M33 15 (x1 + 1).toNatClampNeg y32) (fun M36 => B8 M36) else none) (fun B34 => (if 0 ≤ (M6 11 11) then B34 1 M6 else ml_bd (fX7_sign M6) (fun r37 M38 => (if r37 = 32 then ml_bd (fX7_behind 3 M38) (fun r39 M40 => B34 r39 M40) else B34 1 M38)))) else (ml_bd (fX7_behind 1 M6) (fun r41 M42 => if ml_ok (x1 + 1) 244 then ml_lt (ml_w M42 15 (x1 + 1).toNatClampNeg r41) (fun M43 => B8 M43) else none))))))) else none))) (fun B1 => (if x2 = 98 then B1 () else (if x2 = 118 then B1 () else (if x2 = 111 then B1 () else (if x2 = 115 then B1 () else (if x2 = 114 then B1 () else (if x2 = 100 then B1 () else (if x2 = 119 then B1 () else ml_lt (ml_w M 11 11 (M 11 10)) (fun M44 => some (.inl 0, M44)))))))))) else if ml_ok (x1 + x3) 244 then ml_lt (ml_w M 15 (x1 + x3).toNatClampNeg 0) (fun M45 => rec x1 x2 (x3 + 1) M45) else none)
def fX7_command_l : Nat → Int32 → Int32 → Int32 → ml_M → Option ml_R
  | 0 => fun _ _ _ _ => none
  | n + 1 => fX7_command_s0 (fX7_command_l n)
set_option maxHeartbeats 4000000 in
set_option maxRecDepth 100000 in
theorem fX7_command_w {E : ml_E} {g : ml_G} {res : ml_R} (F : ml_F E g cX7_command yX7_command.cls 4 5 0 0 none []) : ∀ fuel : Nat, ∀ (x1 x2 x3 : Int32) (M : ml_M), fX7_command_l fuel x1 x2 x3 M = some res → ml_J E g 4 (ml_Z E g (fun _ _ => none) res 0 0) 0 0 24 [(0, ml_rf g 11), (1, .int x1), (2, .int x2), (3, .int x3)] [] M := by
  have hst := ml_F_st F
  intro fuel
  induction fuel with
  | zero => intro _ _ _ _ h; exact nomatch (show (none : Option ml_R) = some res from h)
  | succ fuel ih =>
    intro x1 x2 x3 M h
    replace h : fX7_command_s0 (fX7_command_l fuel) x1 x2 x3 M = some res := h
    unfold fX7_command_s0 at h
    refine ml_iload_n (q := 3) F dX7_command_24 rfl rfl ?_
    refine ml_iconst (v := 4) F dX7_command_25 (by decide) ?_
    refine ml_icmp_ge (tgt := 44) F dX7_command_26 (by decide) h (fun _ h => ?_) (fun _ h => ?_)
    · refine ml_iload_n (q := 2) F dX7_command_44 rfl rfl ?_
      refine ml_bipush (v := 98) F dX7_command_45 (by decide) ?_
      refine ml_jnR (P := fun B => ∀ (_u : Unit), B () = some res → ml_J E g 4 (ml_Z E g (fun _ _ => none) res 0 0) (0) (0) 95 [(0, ml_rf g 11), (1, .int x1), (2, .int x2), (3, .int x3)] ([]) M) h ?_ (fun jn2 h => ?_)
      · intro _u h
        dsimp only at h
        refine ml_aload_n (q := 0) F dX7_command_95 rfl rfl ?_
        refine ml_dup F dX7_command_96 rfl ?_
        refine ml_get (v := .int (M 11 10)) F (pc11 g) rfl iaX7 10 (by decide) lkX7_180 rfl rfl dX7_command_97 ?_
        refine ml_iconst (v := 1) F dX7_command_100 (by decide) ?_
        refine ml_iadd F dX7_command_101 ?_
        refine ml_set F (pc11 g) rfl iaX7 tyX7_ok nmX7 10 (by decide) lkX7_180 rfl rfl rfl rfl rfl (Nat.le_of_ble_eq_true rfl) (fun m => by simp [upd]) dX7_command_102 ?_
        refine ml_ltM h (fun M3 _ h => ?_)
        refine ml_aload_n (q := 0) F dX7_command_105 rfl rfl ?_
        refine ml_iload_n (q := 2) F dX7_command_106 rfl rfl ?_
        refine ml_callV (av := [.int x2]) (T := TX7) (N := 16) F (pc11 g) rfl h (fun rs h9 => fX7_word_c x2 M3 rs hst h9) wcX7_word mlX7_201 wdX7_word (by decide) (by decide) (by decide) rfl seX7_word imX7_word rfl (Nat.le_of_ble_eq_true rfl) dX7_command_107 (fun r4 M5 h => ?_)
        refine ml_aload_n (q := 0) F dX7_command_110 rfl rfl ?_
        refine ml_get (v := ml_rf g 15) F (pc11 g) rfl iaX7 14 (by decide) lkX7_27 rfl rfl dX7_command_111 ?_
        refine ml_iload_n (q := 1) F dX7_command_114 rfl rfl ?_
        refine ml_iload_n (q := 2) F dX7_command_115 rfl rfl ?_
        refine ml_iast F (pc15 g) h dX7_command_116 (fun h => ?_)
        refine ml_ltM h (fun M6 _ h => ?_)
        refine ml_iload_n (q := 2) F dX7_command_117 rfl rfl ?_
        refine ml_jnR (P := fun B => ∀ (M7 : ml_M), B M7 = some res → ml_J E g 4 (ml_Z E g (fun _ _ => none) res 0 0) (0 + 0 + 0 + 0 + 0 + 0 + 0) (0 + 0 + 0 + 0 + 0 + 0 + 0) 295 [(0, ml_rf g 11), (1, .int x1), (2, .int x2), (3, .int x3)] ([]) M7) h ?_ (fun jn9 h => ?_)
        · intro M7 h
          dsimp only at h
          exact ml_vret (st := []) F (Option.some.inj h) rfl rfl (by decide) (by decide) dX7_command_295
        refine ml_ifc h (fun c10 h => ?_) (fun c10 h => ?_)
        · refine ml_lookup (tgt := 152) F dX7_command_118 (by decide) (by rw [c10]; try rfl) (by decide) ?_
          refine ml_aload_n (q := 0) F dX7_command_152 rfl rfl ?_
          refine ml_bipush (v := 32) F dX7_command_153 (by decide) ?_
          refine ml_callV (av := [.int 32]) (T := TX7) (N := 16) F (pc11 g) rfl h (fun rs h9 => fX7_needs_c 32 M6 rs hst h9) wcX7_needs mlX7_189 wdX7_needs (by decide) (by decide) (by decide) rfl seX7_needs imX7_needs rfl (Nat.le_of_ble_eq_true rfl) dX7_command_155 (fun r11 M12 h => ?_)
          refine ml_aload_n (q := 0) F dX7_command_158 rfl rfl ?_
          refine ml_get (v := ml_rf g 15) F (pc11 g) rfl iaX7 14 (by decide) lkX7_27 rfl rfl dX7_command_159 ?_
          refine ml_iload_n (q := 1) F dX7_command_162 rfl rfl ?_
          refine ml_iconst (v := 1) F dX7_command_163 (by decide) ?_
          refine ml_iadd F dX7_command_164 ?_
          refine ml_aload_n (q := 0) F dX7_command_165 rfl rfl ?_
          refine ml_bipush (v := 114) F dX7_command_166 (by decide) ?_
          refine ml_bipush (v := 103) F dX7_command_168 (by decide) ?_
          refine ml_bipush (v := 98) F dX7_command_170 (by decide) ?_
          refine ml_callV (av := [.int 114, .int 103, .int 98]) (T := TX7) (N := 16) F (pc11 g) rfl h (fun rs h9 => fX7_oneOf_c 114 103 98 M12 rs hst h9) wcX7_oneOf mlX7_204 wdX7_oneOf (by decide) (by decide) (by decide) rfl seX7_oneOf imX7_oneOf rfl (Nat.le_of_ble_eq_true rfl) dX7_command_172 (fun r13 M14 h => ?_)
          refine ml_iast F (pc15 g) h dX7_command_175 (fun h => ?_)
          refine ml_ltM h (fun M15 _ h => ?_)
          refine ml_aload_n (q := 0) F dX7_command_176 rfl rfl ?_
          refine ml_get (v := ml_rf g 15) F (pc11 g) rfl iaX7 14 (by decide) lkX7_27 rfl rfl dX7_command_177 ?_
          refine ml_iload_n (q := 1) F dX7_command_180 rfl rfl ?_
          refine ml_iconst (v := 2) F dX7_command_181 (by decide) ?_
          refine ml_iadd F dX7_command_182 ?_
          refine ml_aload_n (q := 0) F dX7_command_183 rfl rfl ?_
          refine ml_iconst (v := 1) F dX7_command_184 (by decide) ?_
          refine ml_callV (av := [.int 1]) (T := TX7) (N := 16) F (pc11 g) rfl h (fun rs h9 => fX7_number_c 1 M15 rs hst h9) wcX7_number mlX7_192 wdX7_number (by decide) (by decide) (by decide) rfl seX7_number imX7_number rfl (Nat.le_of_ble_eq_true rfl) dX7_command_185 (fun r16 M17 h => ?_)
          refine ml_iast F (pc15 g) h dX7_command_188 (fun h => ?_)
          refine ml_ltM h (fun M18 _ h => ?_)
          refine ml_aload_n (q := 0) F dX7_command_189 rfl rfl ?_
          refine ml_bipush (v := 32) F dX7_command_190 (by decide) ?_
          refine ml_callV (av := [.int 32]) (T := TX7) (N := 16) F (pc11 g) rfl h (fun rs h9 => fX7_needs_c 32 M18 rs hst h9) wcX7_needs mlX7_189 wdX7_needs (by decide) (by decide) (by decide) rfl seX7_needs imX7_needs rfl (Nat.le_of_ble_eq_true rfl) dX7_command_192 (fun r19 M20 h => ?_)
          refine ml_aload_n (q := 0) F dX7_command_195 rfl rfl ?_
          refine ml_get (v := ml_rf g 15) F (pc11 g) rfl iaX7 14 (by decide) lkX7_27 rfl rfl dX7_command_196 ?_
          refine ml_iload_n (q := 1) F dX7_command_199 rfl rfl ?_
          refine ml_iconst (v := 3) F dX7_command_200 (by decide) ?_
          refine ml_iadd F dX7_command_201 ?_
          refine ml_iconst (v := 1) F dX7_command_202 (by decide) ?_
          refine ml_aload_n (q := 0) F dX7_command_203 rfl rfl ?_
          refine ml_bipush (v := 100) F dX7_command_204 (by decide) ?_
          refine ml_bipush (v := 117) F dX7_command_206 (by decide) ?_
          refine ml_iconst (v := 0) F dX7_command_208 (by decide) ?_
          refine ml_callV (av := [.int 100, .int 117, .int 0]) (T := TX7) (N := 16) F (pc11 g) rfl h (fun rs h9 => fX7_oneOf_c 100 117 0 M20 rs hst h9) wcX7_oneOf mlX7_204 wdX7_oneOf (by decide) (by decide) (by decide) rfl seX7_oneOf imX7_oneOf rfl (Nat.le_of_ble_eq_true rfl) dX7_command_209 (fun r21 M22 h => ?_)
          refine ml_isub F dX7_command_212 ?_
          refine ml_iast F (pc15 g) h dX7_command_213 (fun h => ?_)
          refine ml_ltM h (fun M23 _ h => ?_)
          refine ml_goto (tgt := 295) F dX7_command_214 (by decide) ?_
          exact ml_sub [0, 1, 2, 3] rfl (jn9 _ h)
        refine ml_ifc h (fun c24 h => ?_) (fun c24 h => ?_)
        · refine ml_lookup (tgt := 217) F dX7_command_118 (by decide) (by rw [c24]; try rfl) (by decide) ?_
          refine ml_aload_n (q := 0) F dX7_command_217 rfl rfl ?_
          refine ml_get (v := ml_rf g 15) F (pc11 g) rfl iaX7 14 (by decide) lkX7_27 rfl rfl dX7_command_218 ?_
          refine ml_iload_n (q := 1) F dX7_command_221 rfl rfl ?_
          refine ml_iconst (v := 1) F dX7_command_222 (by decide) ?_
          refine ml_iadd F dX7_command_223 ?_
          refine ml_aload_n (q := 0) F dX7_command_224 rfl rfl ?_
          refine ml_iconst (v := 1) F dX7_command_225 (by decide) ?_
          refine ml_callV (av := [.int 1]) (T := TX7) (N := 16) F (pc11 g) rfl h (fun rs h9 => fX7_behind_c 1 M6 rs hst h9) wcX7_behind mlX7_207 wdX7_behind (by decide) (by decide) (by decide) rfl seX7_behind imX7_behind rfl (Nat.le_of_ble_eq_true rfl) dX7_command_226 (fun r25 M26 h => ?_)
          refine ml_iast F (pc15 g) h dX7_command_229 (fun h => ?_)
          refine ml_ltM h (fun M27 _ h => ?_)
          refine ml_aload_n (q := 0) F dX7_command_230 rfl rfl ?_
          refine ml_get (v := ml_rf g 15) F (pc11 g) rfl iaX7 14 (by decide) lkX7_27 rfl rfl dX7_command_231 ?_
          refine ml_iload_n (q := 1) F dX7_command_234 rfl rfl ?_
          refine ml_iconst (v := 2) F dX7_command_235 (by decide) ?_
          refine ml_iadd F dX7_command_236 ?_
          refine ml_aload_n (q := 0) F dX7_command_237 rfl rfl ?_
          refine ml_iconst (v := 1) F dX7_command_238 (by decide) ?_
          refine ml_callV (av := [.int 1]) (T := TX7) (N := 16) F (pc11 g) rfl h (fun rs h9 => fX7_behind_c 1 M27 rs hst h9) wcX7_behind mlX7_207 wdX7_behind (by decide) (by decide) (by decide) rfl seX7_behind imX7_behind rfl (Nat.le_of_ble_eq_true rfl) dX7_command_239 (fun r28 M29 h => ?_)
          refine ml_iast F (pc15 g) h dX7_command_242 (fun h => ?_)
          refine ml_ltM h (fun M30 _ h => ?_)
          refine ml_goto (tgt := 295) F dX7_command_243 (by decide) ?_
          exact ml_sub [0, 1, 2, 3] rfl (jn9 _ h)
        refine ml_ifc h (fun c31 h => ?_) (fun c31 h => ?_)
        · refine ml_lookup (tgt := 246) F dX7_command_118 (by decide) (by rw [c31]; try rfl) (by decide) ?_
          refine ml_aload_n (q := 0) F dX7_command_246 rfl rfl ?_
          refine ml_get (v := ml_rf g 15) F (pc11 g) rfl iaX7 14 (by decide) lkX7_27 rfl rfl dX7_command_247 ?_
          refine ml_iload_n (q := 1) F dX7_command_250 rfl rfl ?_
          refine ml_iconst (v := 1) F dX7_command_251 (by decide) ?_
          refine ml_iadd F dX7_command_252 ?_
          refine ml_aload_n (q := 0) F dX7_command_253 rfl rfl ?_
          refine ml_get (v := .int (M6 11 11)) F (pc11 g) rfl iaX7 11 (by decide) lkX7_183 rfl rfl dX7_command_254 ?_
          refine ml_jnR (P := fun B => ∀ (y32 : Int32) (M33 : ml_M), B y32 M33 = some res → ml_J E g 4 (ml_Z E g (fun _ _ => none) res 0 0) (0 + 0) (0 + 0) 278 [(0, ml_rf g 11), (1, .int x1), (2, .int x2), (3, .int x3)] (.int y32 :: .int (x1 + 1) :: ml_rf g 15 :: []) M33) h ?_ (fun jn35 h => ?_)
          · intro y32 M33 h
            dsimp only at h
            refine ml_iast F (pc15 g) h dX7_command_278 (fun h => ?_)
            refine ml_ltM h (fun M36 _ h => ?_)
            refine ml_goto (tgt := 295) F dX7_command_279 (by decide) ?_
            exact ml_sub [0, 1, 2, 3] rfl (jn9 _ h)
          refine ml_if_ge (tgt := 277) F dX7_command_257 (by decide) h (fun _ h => ?_) (fun _ h => ?_)
          · refine ml_iconst (v := 1) F dX7_command_277 (by decide) ?_
            exact ml_sub [0, 1, 2, 3] rfl (jn35 _ _ h)
          · refine ml_aload_n (q := 0) F dX7_command_260 rfl rfl ?_
            refine ml_callV (av := []) (T := TX7) (N := 16) F (pc11 g) rfl h (fun rs h9 => fX7_sign_c M6 rs hst h9) wcX7_sign mlX7_186 wdX7_sign (by decide) (by decide) (by decide) rfl seX7_sign imX7_sign rfl (Nat.le_of_ble_eq_true rfl) dX7_command_261 (fun r37 M38 h => ?_)
            refine ml_bipush (v := 32) F dX7_command_264 (by decide) ?_
            refine ml_icmp_ne (tgt := 277) F dX7_command_266 (by decide) h (fun _ h => ?_) (fun _ h => ?_)
            · refine ml_iconst (v := 1) F dX7_command_277 (by decide) ?_
              exact ml_sub [0, 1, 2, 3] rfl (jn35 _ _ h)
            · refine ml_aload_n (q := 0) F dX7_command_269 rfl rfl ?_
              refine ml_iconst (v := 3) F dX7_command_270 (by decide) ?_
              refine ml_callV (av := [.int 3]) (T := TX7) (N := 16) F (pc11 g) rfl h (fun rs h9 => fX7_behind_c 3 M38 rs hst h9) wcX7_behind mlX7_207 wdX7_behind (by decide) (by decide) (by decide) rfl seX7_behind imX7_behind rfl (Nat.le_of_ble_eq_true rfl) dX7_command_271 (fun r39 M40 h => ?_)
              refine ml_goto (tgt := 278) F dX7_command_274 (by decide) ?_
              exact ml_sub [0, 1, 2, 3] rfl (jn35 _ _ h)
        refine ml_lookup (tgt := 282) F dX7_command_118 (by decide) (by simp only [Op.lookupswitch.offset_cons, Op.lookupswitch.offset_nil, if_neg (show ¬ ((98 : Int) = _) from ml_ne_i (k := 98) c10), if_neg (show ¬ ((118 : Int) = _) from ml_ne_i (k := 118) c24), if_neg (show ¬ ((119 : Int) = _) from ml_ne_i (k := 119) c31)]; try rfl) (by decide) ?_
        refine ml_aload_n (q := 0) F dX7_command_282 rfl rfl ?_
        refine ml_get (v := ml_rf g 15) F (pc11 g) rfl iaX7 14 (by decide) lkX7_27 rfl rfl dX7_command_283 ?_
        refine ml_iload_n (q := 1) F dX7_command_286 rfl rfl ?_
        refine ml_iconst (v := 1) F dX7_command_287 (by decide) ?_
        refine ml_iadd F dX7_command_288 ?_
        refine ml_aload_n (q := 0) F dX7_command_289 rfl rfl ?_
        refine ml_iconst (v := 1) F dX7_command_290 (by decide) ?_
        refine ml_callV (av := [.int 1]) (T := TX7) (N := 16) F (pc11 g) rfl h (fun rs h9 => fX7_behind_c 1 M6 rs hst h9) wcX7_behind mlX7_207 wdX7_behind (by decide) (by decide) (by decide) rfl seX7_behind imX7_behind rfl (Nat.le_of_ble_eq_true rfl) dX7_command_291 (fun r41 M42 h => ?_)
        refine ml_iast F (pc15 g) h dX7_command_294 (fun h => ?_)
        refine ml_ltM h (fun M43 _ h => ?_)
        exact ml_sub [0, 1, 2, 3] rfl (jn9 _ h)
      refine ml_icmp_eq (tgt := 95) F dX7_command_47 (by decide) h (fun _ h => ?_) (fun _ h => ?_)
      · exact ml_sub [0, 1, 2, 3] rfl (jn2 () h)
      · refine ml_iload_n (q := 2) F dX7_command_50 rfl rfl ?_
        refine ml_bipush (v := 118) F dX7_command_51 (by decide) ?_
        refine ml_icmp_eq (tgt := 95) F dX7_command_53 (by decide) h (fun _ h => ?_) (fun _ h => ?_)
        · exact ml_sub [0, 1, 2, 3] rfl (jn2 () h)
        · refine ml_iload_n (q := 2) F dX7_command_56 rfl rfl ?_
          refine ml_bipush (v := 111) F dX7_command_57 (by decide) ?_
          refine ml_icmp_eq (tgt := 95) F dX7_command_59 (by decide) h (fun _ h => ?_) (fun _ h => ?_)
          · exact ml_sub [0, 1, 2, 3] rfl (jn2 () h)
          · refine ml_iload_n (q := 2) F dX7_command_62 rfl rfl ?_
            refine ml_bipush (v := 115) F dX7_command_63 (by decide) ?_
            refine ml_icmp_eq (tgt := 95) F dX7_command_65 (by decide) h (fun _ h => ?_) (fun _ h => ?_)
            · exact ml_sub [0, 1, 2, 3] rfl (jn2 () h)
            · refine ml_iload_n (q := 2) F dX7_command_68 rfl rfl ?_
              refine ml_bipush (v := 114) F dX7_command_69 (by decide) ?_
              refine ml_icmp_eq (tgt := 95) F dX7_command_71 (by decide) h (fun _ h => ?_) (fun _ h => ?_)
              · exact ml_sub [0, 1, 2, 3] rfl (jn2 () h)
              · refine ml_iload_n (q := 2) F dX7_command_74 rfl rfl ?_
                refine ml_bipush (v := 100) F dX7_command_75 (by decide) ?_
                refine ml_icmp_eq (tgt := 95) F dX7_command_77 (by decide) h (fun _ h => ?_) (fun _ h => ?_)
                · exact ml_sub [0, 1, 2, 3] rfl (jn2 () h)
                · refine ml_iload_n (q := 2) F dX7_command_80 rfl rfl ?_
                  refine ml_bipush (v := 119) F dX7_command_81 (by decide) ?_
                  refine ml_icmp_eq (tgt := 95) F dX7_command_83 (by decide) h (fun _ h => ?_) (fun _ h => ?_)
                  · exact ml_sub [0, 1, 2, 3] rfl (jn2 () h)
                  · refine ml_aload_n (q := 0) F dX7_command_86 rfl rfl ?_
                    refine ml_aload_n (q := 0) F dX7_command_87 rfl rfl ?_
                    refine ml_get (v := .int (M 11 10)) F (pc11 g) rfl iaX7 10 (by decide) lkX7_180 rfl rfl dX7_command_88 ?_
                    refine ml_set F (pc11 g) rfl iaX7 tyX7_ok nmX7 11 (by decide) lkX7_183 rfl rfl rfl rfl rfl (Nat.le_of_ble_eq_true rfl) (fun m => by simp [upd]) dX7_command_91 ?_
                    refine ml_ltM h (fun M44 _ h => ?_)
                    exact ml_vret (st := []) F (Option.some.inj h) rfl rfl (by decide) (by decide) dX7_command_94
    · refine ml_aload_n (q := 0) F dX7_command_29 rfl rfl ?_
      refine ml_get (v := ml_rf g 15) F (pc11 g) rfl iaX7 14 (by decide) lkX7_27 rfl rfl dX7_command_30 ?_
      refine ml_iload_n (q := 1) F dX7_command_33 rfl rfl ?_
      refine ml_iload_n (q := 3) F dX7_command_34 rfl rfl ?_
      refine ml_iadd F dX7_command_35 ?_
      refine ml_iconst (v := 0) F dX7_command_36 (by decide) ?_
      refine ml_iast F (pc15 g) h dX7_command_37 (fun h => ?_)
      refine ml_ltM h (fun M45 _ h => ?_)
      refine ml_iinc (q := 3) (v := x3 + 1) (ls2 := [(3, .int (x3 + 1)), (0, ml_rf g 11), (1, .int x1), (2, .int x2)]) F dX7_command_38 rfl rfl (by decide) rfl ?_
      refine ml_goto (tgt := 24) F dX7_command_41 (by decide) ?_
      exact ml_sub [1, 2, 3, 0] rfl (ih _ _ _ _ h)
set_option maxRecDepth 100000 in
def fX7_command (M : ml_M) : Option ml_R :=
  ml_lt (4 * (M 11 15)) (fun v1 => ml_lt (ml_w M 11 15 ((M 11 15) + 1)) (fun M2 => ml_bd (fX7_sign M2) (fun r3 M4 => fX7_command_l ml_fuel v1 r3 0 M4)))
set_option maxHeartbeats 4000000 in
set_option maxRecDepth 100000 in
theorem fX7_command_c (M : ml_M) (res : ml_R) {g : ml_G} (hst : g.2.2.2.2.2.stackTraces = false) (h : fX7_command M = some res) : ml_C yX7_command cX7_command 4 none 5 0 0 g (fun _ _ => none) [ml_rf g 11] M res := by
  refine ml_of [(0, ml_rf g 11)] hst (by decide) (Nat.le_of_ble_eq_true rfl) rfl (fun E F => ?_)
  unfold fX7_command at h
  refine ml_iconst (v := 4) F dX7_command_0 (by decide) ?_
  refine ml_aload_n (q := 0) F dX7_command_1 rfl rfl ?_
  refine ml_get (v := .int (M 11 15)) F (pc11 g) rfl iaX7 15 (by decide) lkX7_198 rfl rfl dX7_command_2 ?_
  refine ml_imul F dX7_command_5 ?_
  refine ml_ltI h (fun v1 _ h => ?_)
  refine ml_istore_n (ls2 := [(1, .int v1), (0, ml_rf g 11)]) F dX7_command_6 rfl (by decide) rfl ?_
  refine ml_aload_n (q := 1) F dX7_command_7 rfl rfl ?_
  refine ml_dup F dX7_command_8 rfl ?_
  refine ml_get (v := .int (M 11 15)) F (pc11 g) rfl iaX7 15 (by decide) lkX7_198 rfl rfl dX7_command_9 ?_
  refine ml_iconst (v := 1) F dX7_command_12 (by decide) ?_
  refine ml_iadd F dX7_command_13 ?_
  refine ml_set F (pc11 g) rfl iaX7 tyX7_ok nmX7 15 (by decide) lkX7_198 rfl rfl rfl rfl rfl (Nat.le_of_ble_eq_true rfl) (fun m => by simp [upd]) dX7_command_14 ?_
  refine ml_ltM h (fun M2 _ h => ?_)
  refine ml_aload_n (q := 1) F dX7_command_17 rfl rfl ?_
  refine ml_callV (av := []) (T := TX7) (N := 16) F (pc11 g) rfl h (fun rs h9 => fX7_sign_c M2 rs hst h9) wcX7_sign mlX7_186 wdX7_sign (by decide) (by decide) (by decide) rfl seX7_sign imX7_sign rfl (Nat.le_of_ble_eq_true rfl) dX7_command_18 (fun r3 M4 h => ?_)
  refine ml_istore_n (ls2 := [(2, .int r3), (1, .int v1), (0, ml_rf g 11)]) F dX7_command_21 rfl (by decide) rfl ?_
  refine ml_iconst (v := 0) F dX7_command_22 (by decide) ?_
  refine ml_istore_n (ls2 := [(3, .int 0), (2, .int r3), (1, .int v1), (0, ml_rf g 11)]) F dX7_command_23 rfl (by decide) rfl ?_
  exact ml_sub [3, 2, 1, 0] rfl ((fX7_command_w F ml_fuel) _ _ _ _ h)
set_option maxRecDepth 100000 in
def fX7_parse_s0 (rec : ml_M → Option ml_R) (M : ml_M) : Option ml_R :=
  ml_jn (fun (M1 : ml_M) => ml_jn (fun (M4 : ml_M) => some (.inl 0, M4)) (fun B5 => (if 0 ≤ (M1 11 11) then B5 M1 else (if (M1 11 9) ≤ (M1 11 10) then B5 M1 else ml_lt (ml_w M1 11 11 (M1 11 10)) (fun M7 => B5 M7))))) (fun B2 => (if 0 ≤ (M 11 11) then B2 M else ml_bd (fX7_sign M) (fun r8 M9 => (if r8 = 59 then ml_lt (ml_w M9 11 10 ((M9 11 10) + 1)) (fun M10 => ml_bd (fX7_command M10) (fun r11 M12 => rec  M12)) else B2 M9))))
def fX7_parse_l : Nat → ml_M → Option ml_R
  | 0 => fun  _ => none
  | n + 1 => fX7_parse_s0 (fX7_parse_l n)
set_option maxHeartbeats 4000000 in
set_option maxRecDepth 100000 in
theorem fX7_parse_w {E : ml_E} {g : ml_G} {res : ml_R} (F : ml_F E g cX7_parse yX7_parse.cls 1 6 0 0 none []) : ∀ fuel : Nat, ∀ (M : ml_M), fX7_parse_l fuel M = some res → ml_J E g 1 (ml_Z E g (fun _ _ => none) res 0 0) 0 0 19 [(0, ml_rf g 11)] [] M := by
  have hst := ml_F_st F
  intro fuel
  induction fuel with
  | zero => intro  _ h; exact nomatch (show (none : Option ml_R) = some res from h)
  | succ fuel ih =>
    intro  M h
    replace h : fX7_parse_s0 (fX7_parse_l fuel)  M = some res := h
    unfold fX7_parse_s0 at h
    refine ml_aload_n (q := 0) F dX7_parse_19 rfl rfl ?_
    refine ml_get (v := .int (M 11 11)) F (pc11 g) rfl iaX7 11 (by decide) lkX7_183 rfl rfl dX7_parse_20 ?_
    refine ml_jnR (P := fun B => ∀ (M1 : ml_M), B M1 = some res → ml_J E g 1 (ml_Z E g (fun _ _ => none) res 0 0) (0) (0) 52 [(0, ml_rf g 11)] ([]) M1) h ?_ (fun jn3 h => ?_)
    · intro M1 h
      dsimp only at h
      refine ml_aload_n (q := 0) F dX7_parse_52 rfl rfl ?_
      refine ml_get (v := .int (M1 11 11)) F (pc11 g) rfl iaX7 11 (by decide) lkX7_183 rfl rfl dX7_parse_53 ?_
      refine ml_jnR (P := fun B => ∀ (M4 : ml_M), B M4 = some res → ml_J E g 1 (ml_Z E g (fun _ _ => none) res 0 0) (0) (0) 78 [(0, ml_rf g 11)] ([]) M4) h ?_ (fun jn6 h => ?_)
      · intro M4 h
        dsimp only at h
        exact ml_vret (st := []) F (Option.some.inj h) rfl rfl (by decide) (by decide) dX7_parse_78
      refine ml_if_ge (tgt := 78) F dX7_parse_56 (by decide) h (fun _ h => ?_) (fun _ h => ?_)
      · exact ml_sub [0] rfl (jn6 _ h)
      · refine ml_aload_n (q := 0) F dX7_parse_59 rfl rfl ?_
        refine ml_get (v := .int (M1 11 10)) F (pc11 g) rfl iaX7 10 (by decide) lkX7_180 rfl rfl dX7_parse_60 ?_
        refine ml_aload_n (q := 0) F dX7_parse_63 rfl rfl ?_
        refine ml_get (v := .int (M1 11 9)) F (pc11 g) rfl iaX7 9 (by decide) lkX7_177 rfl rfl dX7_parse_64 ?_
        refine ml_icmp_ge (tgt := 78) F dX7_parse_67 (by decide) h (fun _ h => ?_) (fun _ h => ?_)
        · exact ml_sub [0] rfl (jn6 _ h)
        · refine ml_aload_n (q := 0) F dX7_parse_70 rfl rfl ?_
          refine ml_aload_n (q := 0) F dX7_parse_71 rfl rfl ?_
          refine ml_get (v := .int (M1 11 10)) F (pc11 g) rfl iaX7 10 (by decide) lkX7_180 rfl rfl dX7_parse_72 ?_
          refine ml_set F (pc11 g) rfl iaX7 tyX7_ok nmX7 11 (by decide) lkX7_183 rfl rfl rfl rfl rfl (Nat.le_of_ble_eq_true rfl) (fun m => by simp [upd]) dX7_parse_75 ?_
          refine ml_ltM h (fun M7 _ h => ?_)
          exact ml_sub [0] rfl (jn6 _ h)
    refine ml_if_ge (tgt := 52) F dX7_parse_23 (by decide) h (fun _ h => ?_) (fun _ h => ?_)
    · exact ml_sub [0] rfl (jn3 _ h)
    · refine ml_aload_n (q := 0) F dX7_parse_26 rfl rfl ?_
      refine ml_callV (av := []) (T := TX7) (N := 16) F (pc11 g) rfl h (fun rs h9 => fX7_sign_c M rs hst h9) wcX7_sign mlX7_186 wdX7_sign (by decide) (by decide) (by decide) rfl seX7_sign imX7_sign rfl (Nat.le_of_ble_eq_true rfl) dX7_parse_27 (fun r8 M9 h => ?_)
      refine ml_bipush (v := 59) F dX7_parse_30 (by decide) ?_
      refine ml_icmp_ne (tgt := 52) F dX7_parse_32 (by decide) h (fun _ h => ?_) (fun _ h => ?_)
      · exact ml_sub [0] rfl (jn3 _ h)
      · refine ml_aload_n (q := 0) F dX7_parse_35 rfl rfl ?_
        refine ml_dup F dX7_parse_36 rfl ?_
        refine ml_get (v := .int (M9 11 10)) F (pc11 g) rfl iaX7 10 (by decide) lkX7_180 rfl rfl dX7_parse_37 ?_
        refine ml_iconst (v := 1) F dX7_parse_40 (by decide) ?_
        refine ml_iadd F dX7_parse_41 ?_
        refine ml_set F (pc11 g) rfl iaX7 tyX7_ok nmX7 10 (by decide) lkX7_180 rfl rfl rfl rfl rfl (Nat.le_of_ble_eq_true rfl) (fun m => by simp [upd]) dX7_parse_42 ?_
        refine ml_ltM h (fun M10 _ h => ?_)
        refine ml_aload_n (q := 0) F dX7_parse_45 rfl rfl ?_
        refine ml_callV (av := []) (T := TX7) (N := 16) F (pc11 g) rfl h (fun rs h9 => fX7_command_c M10 rs hst h9) wcX7_command mlX7_210 wdX7_command (by decide) (by decide) (by decide) rfl seX7_command imX7_command rfl (Nat.le_of_ble_eq_true rfl) dX7_parse_46 (fun r11 M12 h => ?_)
        refine ml_goto (tgt := 19) F dX7_parse_49 (by decide) ?_
        exact ml_sub [0] rfl (ih  _ h)
set_option maxRecDepth 100000 in
def fX7_parse (M : ml_M) : Option ml_R :=
  ml_lt (ml_w M 11 10 0) (fun M1 => ml_lt (ml_w M1 11 11 (-1)) (fun M2 => ml_lt (ml_w M2 11 15 0) (fun M3 => ml_bd (fX7_command M3) (fun r4 M5 => fX7_parse_l ml_fuel  M5))))
set_option maxHeartbeats 4000000 in
set_option maxRecDepth 100000 in
theorem fX7_parse_c (M : ml_M) (res : ml_R) {g : ml_G} (hst : g.2.2.2.2.2.stackTraces = false) (h : fX7_parse M = some res) : ml_C yX7_parse cX7_parse 1 none 6 0 0 g (fun _ _ => none) [ml_rf g 11] M res := by
  refine ml_of [(0, ml_rf g 11)] hst (by decide) (Nat.le_of_ble_eq_true rfl) rfl (fun E F => ?_)
  unfold fX7_parse at h
  refine ml_aload_n (q := 0) F dX7_parse_0 rfl rfl ?_
  refine ml_iconst (v := 0) F dX7_parse_1 (by decide) ?_
  refine ml_set F (pc11 g) rfl iaX7 tyX7_ok nmX7 10 (by decide) lkX7_180 rfl rfl rfl rfl rfl (Nat.le_of_ble_eq_true rfl) (fun m => by simp [upd]) dX7_parse_2 ?_
  refine ml_ltM h (fun M1 _ h => ?_)
  refine ml_aload_n (q := 0) F dX7_parse_5 rfl rfl ?_
  refine ml_iconst (v := (-1)) F dX7_parse_6 (by decide) ?_
  refine ml_set F (pc11 g) rfl iaX7 tyX7_ok nmX7 11 (by decide) lkX7_183 rfl rfl rfl rfl rfl (Nat.le_of_ble_eq_true rfl) (fun m => by simp [upd]) dX7_parse_7 ?_
  refine ml_ltM h (fun M2 _ h => ?_)
  refine ml_aload_n (q := 0) F dX7_parse_10 rfl rfl ?_
  refine ml_iconst (v := 0) F dX7_parse_11 (by decide) ?_
  refine ml_set F (pc11 g) rfl iaX7 tyX7_ok nmX7 15 (by decide) lkX7_198 rfl rfl rfl rfl rfl (Nat.le_of_ble_eq_true rfl) (fun m => by simp [upd]) dX7_parse_12 ?_
  refine ml_ltM h (fun M3 _ h => ?_)
  refine ml_aload_n (q := 0) F dX7_parse_15 rfl rfl ?_
  refine ml_callV (av := []) (T := TX7) (N := 16) F (pc11 g) rfl h (fun rs h9 => fX7_command_c M3 rs hst h9) wcX7_command mlX7_210 wdX7_command (by decide) (by decide) (by decide) rfl seX7_command imX7_command rfl (Nat.le_of_ble_eq_true rfl) dX7_parse_16 (fun r4 M5 h => ?_)
  exact ml_sub [0] rfl ((fX7_parse_w F ml_fuel)  _ h)
set_option maxRecDepth 100000 in
def fX7_does (a0 : Int32) (M : ml_M) : Option ml_R :=
  if ml_ok (a0 + 1) 244 then ml_lt (M 15 (a0 + 1).toNatClampNeg) (fun v1 => if ml_ok a0 244 then (if (M 15 a0.toNatClampNeg) = 98 then if ml_ok (a0 + 2) 244 then if ml_ok (a0 + 3) 244 then ml_bd (fX7_adds v1 (M 15 (a0 + 2).toNatClampNeg) (M 15 (a0 + 3).toNatClampNeg) M) (fun r3 M4 => some (.inl r3, M4)) else none else none else (if (M 15 a0.toNatClampNeg) = 100 then ml_bd (fX7_weather 2 v1 M) (fun r6 M7 => some (.inl r6, M7)) else (if (M 15 a0.toNatClampNeg) = 111 then ml_bd (fX7_opens v1 M) (fun r9 M10 => some (.inl r9, M10)) else (if (M 15 a0.toNatClampNeg) = 114 then ml_bd (fX7_weather 1 v1 M) (fun r12 M13 => some (.inl r12, M13)) else (if (M 15 a0.toNatClampNeg) = 115 then ml_bd (fX7_shuts v1 M) (fun r15 M16 => some (.inl r15, M16)) else (if (M 15 a0.toNatClampNeg) = 118 then if ml_ok (a0 + 2) 244 then ml_bd (fX7_turns v1 (M 15 (a0 + 2).toNatClampNeg) M) (fun r18 M19 => some (.inl r18, M19)) else none else (ml_bd (fX7_waits v1 M) (fun r20 M21 => some (.inl r20, M21))))))))) else none) else none
set_option maxHeartbeats 4000000 in
set_option maxRecDepth 100000 in
theorem fX7_does_c (a0 : Int32) (M : ml_M) (res : ml_R) {g : ml_G} (hst : g.2.2.2.2.2.stackTraces = false) (h : fX7_does a0 M = some res) : ml_C yX7_does cX7_does 3 (some .int) 7 0 0 g (fun r _ => some (.int r)) [ml_rf g 11, .int a0] M res := by
  refine ml_of [(0, ml_rf g 11), (1, .int a0)] hst (by decide) (Nat.le_of_ble_eq_true rfl) rfl (fun E F => ?_)
  unfold fX7_does at h
  refine ml_aload_n (q := 0) F dX7_does_0 rfl rfl ?_
  refine ml_get (v := ml_rf g 15) F (pc11 g) rfl iaX7 14 (by decide) lkX7_27 rfl rfl dX7_does_1 ?_
  refine ml_iload_n (q := 1) F dX7_does_4 rfl rfl ?_
  refine ml_iconst (v := 1) F dX7_does_5 (by decide) ?_
  refine ml_iadd F dX7_does_6 ?_
  refine ml_iald F (pc15 g) h dX7_does_7 (fun h => ?_)
  refine ml_ltI h (fun v1 _ h => ?_)
  refine ml_istore_n (ls2 := [(2, .int v1), (0, ml_rf g 11), (1, .int a0)]) F dX7_does_8 rfl (by decide) rfl ?_
  refine ml_aload_n (q := 1) F dX7_does_9 rfl rfl ?_
  refine ml_get (v := ml_rf g 15) F (pc11 g) rfl iaX7 14 (by decide) lkX7_27 rfl rfl dX7_does_10 ?_
  refine ml_iload_n (q := 2) F dX7_does_13 rfl rfl ?_
  refine ml_iald F (pc15 g) h dX7_does_14 (fun h => ?_)
  refine ml_ifc h (fun c2 h => ?_) (fun c2 h => ?_)
  · refine ml_lookup (tgt := 72) F dX7_does_15 (by decide) (by rw [c2]; try rfl) (by decide) ?_
    refine ml_aload_n (q := 1) F dX7_does_72 rfl rfl ?_
    refine ml_iload_n (q := 0) F dX7_does_73 rfl rfl ?_
    refine ml_aload_n (q := 1) F dX7_does_74 rfl rfl ?_
    refine ml_get (v := ml_rf g 15) F (pc11 g) rfl iaX7 14 (by decide) lkX7_27 rfl rfl dX7_does_75 ?_
    refine ml_iload_n (q := 2) F dX7_does_78 rfl rfl ?_
    refine ml_iconst (v := 2) F dX7_does_79 (by decide) ?_
    refine ml_iadd F dX7_does_80 ?_
    refine ml_iald F (pc15 g) h dX7_does_81 (fun h => ?_)
    refine ml_aload_n (q := 1) F dX7_does_82 rfl rfl ?_
    refine ml_get (v := ml_rf g 15) F (pc11 g) rfl iaX7 14 (by decide) lkX7_27 rfl rfl dX7_does_83 ?_
    refine ml_iload_n (q := 2) F dX7_does_86 rfl rfl ?_
    refine ml_iconst (v := 3) F dX7_does_87 (by decide) ?_
    refine ml_iadd F dX7_does_88 ?_
    refine ml_iald F (pc15 g) h dX7_does_89 (fun h => ?_)
    refine ml_callV (av := [.int v1, .int (M 15 (a0 + 2).toNatClampNeg), .int (M 15 (a0 + 3).toNatClampNeg)]) (T := TX7) (N := 16) F (pc11 g) rfl h (fun rs h9 => fX7_adds_c v1 (M 15 (a0 + 2).toNatClampNeg) (M 15 (a0 + 3).toNatClampNeg) M rs hst h9) wcX7_adds mlX7_98 wdX7_adds (by decide) (by decide) (by decide) rfl seX7_adds imX7_adds rfl (Nat.le_of_ble_eq_true rfl) dX7_does_90 (fun r3 M4 h => ?_)
    exact ml_iret (st := []) F (Option.some.inj h) rfl rfl rfl (by decide) (by decide) dX7_does_93
  refine ml_ifc h (fun c5 h => ?_) (fun c5 h => ?_)
  · refine ml_lookup (tgt := 127) F dX7_does_15 (by decide) (by rw [c5]; try rfl) (by decide) ?_
    refine ml_aload_n (q := 1) F dX7_does_127 rfl rfl ?_
    refine ml_iconst (v := 2) F dX7_does_128 (by decide) ?_
    refine ml_iload_n (q := 0) F dX7_does_129 rfl rfl ?_
    refine ml_callV (av := [.int 2, .int v1]) (T := TX7) (N := 16) F (pc11 g) rfl h (fun rs h9 => fX7_weather_c 2 v1 M rs hst h9) wcX7_weather mlX7_122 wdX7_weather (by decide) (by decide) (by decide) rfl seX7_weather imX7_weather rfl (Nat.le_of_ble_eq_true rfl) dX7_does_130 (fun r6 M7 h => ?_)
    exact ml_iret (st := []) F (Option.some.inj h) rfl rfl rfl (by decide) (by decide) dX7_does_133
  refine ml_ifc h (fun c8 h => ?_) (fun c8 h => ?_)
  · refine ml_lookup (tgt := 108) F dX7_does_15 (by decide) (by rw [c8]; try rfl) (by decide) ?_
    refine ml_aload_n (q := 1) F dX7_does_108 rfl rfl ?_
    refine ml_iload_n (q := 0) F dX7_does_109 rfl rfl ?_
    refine ml_callV (av := [.int v1]) (T := TX7) (N := 16) F (pc11 g) rfl h (fun rs h9 => fX7_opens_c v1 M rs hst h9) wcX7_opens mlX7_116 wdX7_opens (by decide) (by decide) (by decide) rfl seX7_opens imX7_opens rfl (Nat.le_of_ble_eq_true rfl) dX7_does_110 (fun r9 M10 h => ?_)
    exact ml_iret (st := []) F (Option.some.inj h) rfl rfl rfl (by decide) (by decide) dX7_does_113
  refine ml_ifc h (fun c11 h => ?_) (fun c11 h => ?_)
  · refine ml_lookup (tgt := 120) F dX7_does_15 (by decide) (by rw [c11]; try rfl) (by decide) ?_
    refine ml_aload_n (q := 1) F dX7_does_120 rfl rfl ?_
    refine ml_iconst (v := 1) F dX7_does_121 (by decide) ?_
    refine ml_iload_n (q := 0) F dX7_does_122 rfl rfl ?_
    refine ml_callV (av := [.int 1, .int v1]) (T := TX7) (N := 16) F (pc11 g) rfl h (fun rs h9 => fX7_weather_c 1 v1 M rs hst h9) wcX7_weather mlX7_122 wdX7_weather (by decide) (by decide) (by decide) rfl seX7_weather imX7_weather rfl (Nat.le_of_ble_eq_true rfl) dX7_does_123 (fun r12 M13 h => ?_)
    exact ml_iret (st := []) F (Option.some.inj h) rfl rfl rfl (by decide) (by decide) dX7_does_126
  refine ml_ifc h (fun c14 h => ?_) (fun c14 h => ?_)
  · refine ml_lookup (tgt := 114) F dX7_does_15 (by decide) (by rw [c14]; try rfl) (by decide) ?_
    refine ml_aload_n (q := 1) F dX7_does_114 rfl rfl ?_
    refine ml_iload_n (q := 0) F dX7_does_115 rfl rfl ?_
    refine ml_callV (av := [.int v1]) (T := TX7) (N := 16) F (pc11 g) rfl h (fun rs h9 => fX7_shuts_c v1 M rs hst h9) wcX7_shuts mlX7_119 wdX7_shuts (by decide) (by decide) (by decide) rfl seX7_shuts imX7_shuts rfl (Nat.le_of_ble_eq_true rfl) dX7_does_116 (fun r15 M16 h => ?_)
    exact ml_iret (st := []) F (Option.some.inj h) rfl rfl rfl (by decide) (by decide) dX7_does_119
  refine ml_ifc h (fun c17 h => ?_) (fun c17 h => ?_)
  · refine ml_lookup (tgt := 94) F dX7_does_15 (by decide) (by rw [c17]; try rfl) (by decide) ?_
    refine ml_aload_n (q := 1) F dX7_does_94 rfl rfl ?_
    refine ml_iload_n (q := 0) F dX7_does_95 rfl rfl ?_
    refine ml_aload_n (q := 1) F dX7_does_96 rfl rfl ?_
    refine ml_get (v := ml_rf g 15) F (pc11 g) rfl iaX7 14 (by decide) lkX7_27 rfl rfl dX7_does_97 ?_
    refine ml_iload_n (q := 2) F dX7_does_100 rfl rfl ?_
    refine ml_iconst (v := 2) F dX7_does_101 (by decide) ?_
    refine ml_iadd F dX7_does_102 ?_
    refine ml_iald F (pc15 g) h dX7_does_103 (fun h => ?_)
    refine ml_callV (av := [.int v1, .int (M 15 (a0 + 2).toNatClampNeg)]) (T := TX7) (N := 16) F (pc11 g) rfl h (fun rs h9 => fX7_turns_c v1 (M 15 (a0 + 2).toNatClampNeg) M rs hst h9) wcX7_turns mlX7_109 wdX7_turns (by decide) (by decide) (by decide) rfl seX7_turns imX7_turns rfl (Nat.le_of_ble_eq_true rfl) dX7_does_104 (fun r18 M19 h => ?_)
    exact ml_iret (st := []) F (Option.some.inj h) rfl rfl rfl (by decide) (by decide) dX7_does_107
  refine ml_lookup (tgt := 134) F dX7_does_15 (by decide) (by simp only [Op.lookupswitch.offset_cons, Op.lookupswitch.offset_nil, if_neg (show ¬ ((98 : Int) = _) from ml_ne_i (k := 98) c2), if_neg (show ¬ ((100 : Int) = _) from ml_ne_i (k := 100) c5), if_neg (show ¬ ((111 : Int) = _) from ml_ne_i (k := 111) c8), if_neg (show ¬ ((114 : Int) = _) from ml_ne_i (k := 114) c11), if_neg (show ¬ ((115 : Int) = _) from ml_ne_i (k := 115) c14), if_neg (show ¬ ((118 : Int) = _) from ml_ne_i (k := 118) c17)]; try rfl) (by decide) ?_
  refine ml_aload_n (q := 1) F dX7_does_134 rfl rfl ?_
  refine ml_iload_n (q := 0) F dX7_does_135 rfl rfl ?_
  refine ml_callV (av := [.int v1]) (T := TX7) (N := 16) F (pc11 g) rfl h (fun rs h9 => fX7_waits_c v1 M rs hst h9) wcX7_waits mlX7_128 wdX7_waits (by decide) (by decide) (by decide) rfl seX7_waits imX7_waits rfl (Nat.le_of_ble_eq_true rfl) dX7_does_136 (fun r20 M21 h => ?_)
  exact ml_iret (st := []) F (Option.some.inj h) rfl rfl rfl (by decide) (by decide) dX7_does_139
set_option maxRecDepth 100000 in
def fX7_runScript_s0 (rec : Int32 → ml_M → Option ml_R) (x1 : Int32) (M : ml_M) : Option ml_R :=
  ml_jn (fun (M1 : ml_M) => ml_jn (fun (y4 : Int32) => ml_jn (fun (y7 : Int32) => ml_lt (ml_w M1 11 13 y7) (fun M10 => ml_lt (ml_w M10 11 4 (M10 11 15)) (fun M11 => ml_jn (fun (y12 : Int32) => ml_bd (fX7_ends y12 0 0 2 0 M11) (fun r15 M16 => some (.inl r15, M16))) (fun B13 => (if y4 = 0 then B13 3 else B13 0))))) (fun B8 => (if y4 = 0 then B8 x1 else B8 (M1 11 13)))) (fun B5 => (if x1 = (M1 11 15) then B5 1 else B5 0))) (fun B2 => (if (M 11 15) ≤ x1 then B2 M else ml_bd (fX7_does (4 * x1) M) (fun r17 M18 => (if r17 = 0 then rec (x1 + 1) M18 else B2 M18))))
def fX7_runScript_l : Nat → Int32 → ml_M → Option ml_R
  | 0 => fun _ _ => none
  | n + 1 => fX7_runScript_s0 (fX7_runScript_l n)
set_option maxHeartbeats 4000000 in
set_option maxRecDepth 100000 in
theorem fX7_runScript_w {E : ml_E} {g : ml_G} {res : ml_R} (F : ml_F E g cX7_runScript yX7_runScript.cls 3 8 0 0 (some .int) []) : ∀ fuel : Nat, ∀ (x1 : Int32) (M : ml_M), fX7_runScript_l fuel x1 M = some res → ml_J E g 3 (ml_Z E g (fun r _ => some (.int r)) res 0 0) 0 0 37 [(0, ml_rf g 11), (1, .int x1)] [] M := by
  have hst := ml_F_st F
  intro fuel
  induction fuel with
  | zero => intro _ _ h; exact nomatch (show (none : Option ml_R) = some res from h)
  | succ fuel ih =>
    intro x1 M h
    replace h : fX7_runScript_s0 (fX7_runScript_l fuel) x1 M = some res := h
    unfold fX7_runScript_s0 at h
    refine ml_iload_n (q := 1) F dX7_runScript_37 rfl rfl ?_
    refine ml_aload_n (q := 0) F dX7_runScript_38 rfl rfl ?_
    refine ml_get (v := .int (M 11 15)) F (pc11 g) rfl iaX7 15 (by decide) lkX7_198 rfl rfl dX7_runScript_39 ?_
    refine ml_jnR (P := fun B => ∀ (M1 : ml_M), B M1 = some res → ml_J E g 3 (ml_Z E g (fun r _ => some (.int r)) res 0 0) (0) (0) 61 [(0, ml_rf g 11), (1, .int x1)] ([]) M1) h ?_ (fun jn3 h => ?_)
    · intro M1 h
      dsimp only at h
      refine ml_iload_n (q := 1) F dX7_runScript_61 rfl rfl ?_
      refine ml_aload_n (q := 0) F dX7_runScript_62 rfl rfl ?_
      refine ml_get (v := .int (M1 11 15)) F (pc11 g) rfl iaX7 15 (by decide) lkX7_198 rfl rfl dX7_runScript_63 ?_
      refine ml_jnR (P := fun B => ∀ (y4 : Int32), B y4 = some res → ml_J E g 3 (ml_Z E g (fun r _ => some (.int r)) res 0 0) (0) (0) 74 [(0, ml_rf g 11), (1, .int x1)] (.int y4 :: []) M1) h ?_ (fun jn6 h => ?_)
      · intro y4 h
        dsimp only at h
        refine ml_istore_n (ls2 := [(2, .int y4), (0, ml_rf g 11), (1, .int x1)]) F dX7_runScript_74 rfl (by decide) rfl ?_
        refine ml_aload_n (q := 1) F dX7_runScript_75 rfl rfl ?_
        refine ml_iload_n (q := 0) F dX7_runScript_76 rfl rfl ?_
        refine ml_jnR (P := fun B => ∀ (y7 : Int32), B y7 = some res → ml_J E g 3 (ml_Z E g (fun r _ => some (.int r)) res 0 0) (0) (0) 88 [(0, ml_rf g 11), (1, .int x1), (2, .int y4)] (.int y7 :: ml_rf g 11 :: []) M1) h ?_ (fun jn9 h => ?_)
        · intro y7 h
          dsimp only at h
          refine ml_set F (pc11 g) rfl iaX7 tyX7_ok nmX7 13 (by decide) lkX7_24 rfl rfl rfl rfl rfl (Nat.le_of_ble_eq_true rfl) (fun m => by simp [upd]) dX7_runScript_88 ?_
          refine ml_ltM h (fun M10 _ h => ?_)
          refine ml_aload_n (q := 0) F dX7_runScript_91 rfl rfl ?_
          refine ml_aload_n (q := 0) F dX7_runScript_92 rfl rfl ?_
          refine ml_get (v := .int (M10 11 15)) F (pc11 g) rfl iaX7 15 (by decide) lkX7_198 rfl rfl dX7_runScript_93 ?_
          refine ml_set F (pc11 g) rfl iaX7 tyX7_ok nmX7 4 (by decide) lkX7_40 rfl rfl rfl rfl rfl (Nat.le_of_ble_eq_true rfl) (fun m => by simp [upd]) dX7_runScript_96 ?_
          refine ml_ltM h (fun M11 _ h => ?_)
          refine ml_aload_n (q := 0) F dX7_runScript_99 rfl rfl ?_
          refine ml_iload_n (q := 2) F dX7_runScript_100 rfl rfl ?_
          refine ml_jnR (P := fun B => ∀ (y12 : Int32), B y12 = some res → ml_J E g 3 (ml_Z E g (fun r _ => some (.int r)) res 0 0) (0) (0) 109 [(0, ml_rf g 11), (1, .int x1), (2, .int y4)] (.int y12 :: ml_rf g 11 :: []) M11) h ?_ (fun jn14 h => ?_)
          · intro y12 h
            dsimp only at h
            refine ml_iconst (v := 0) F dX7_runScript_109 (by decide) ?_
            refine ml_iconst (v := 0) F dX7_runScript_110 (by decide) ?_
            refine ml_iconst (v := 2) F dX7_runScript_111 (by decide) ?_
            refine ml_iconst (v := 0) F dX7_runScript_112 (by decide) ?_
            refine ml_callV (av := [.int y12, .int 0, .int 0, .int 2, .int 0]) (T := TX7) (N := 16) F (pc11 g) rfl h (fun rs h9 => fX7_ends_c y12 0 0 2 0 M11 rs hst h9) wcX7_ends mlX7_102 wdX7_ends (by decide) (by decide) (by decide) rfl seX7_ends imX7_ends rfl (Nat.le_of_ble_eq_true rfl) dX7_runScript_113 (fun r15 M16 h => ?_)
            exact ml_iret (st := []) F (Option.some.inj h) rfl rfl rfl (by decide) (by decide) dX7_runScript_116
          refine ml_if_eq (tgt := 108) F dX7_runScript_101 (by decide) h (fun _ h => ?_) (fun _ h => ?_)
          · refine ml_iconst (v := 3) F dX7_runScript_108 (by decide) ?_
            exact ml_sub [0, 1, 2] rfl (jn14 _ h)
          · refine ml_iconst (v := 0) F dX7_runScript_104 (by decide) ?_
            refine ml_goto (tgt := 109) F dX7_runScript_105 (by decide) ?_
            exact ml_sub [0, 1, 2] rfl (jn14 _ h)
        refine ml_if_eq (tgt := 87) F dX7_runScript_77 (by decide) h (fun _ h => ?_) (fun _ h => ?_)
        · refine ml_iload_n (q := 2) F dX7_runScript_87 rfl rfl ?_
          exact ml_sub [1, 2, 0] rfl (jn9 _ h)
        · refine ml_aload_n (q := 1) F dX7_runScript_80 rfl rfl ?_
          refine ml_get (v := .int (M1 11 13)) F (pc11 g) rfl iaX7 13 (by decide) lkX7_24 rfl rfl dX7_runScript_81 ?_
          refine ml_goto (tgt := 88) F dX7_runScript_84 (by decide) ?_
          exact ml_sub [1, 2, 0] rfl (jn9 _ h)
      refine ml_icmp_ne (tgt := 73) F dX7_runScript_66 (by decide) h (fun _ h => ?_) (fun _ h => ?_)
      · refine ml_iconst (v := 0) F dX7_runScript_73 (by decide) ?_
        exact ml_sub [0, 1] rfl (jn6 _ h)
      · refine ml_iconst (v := 1) F dX7_runScript_69 (by decide) ?_
        refine ml_goto (tgt := 74) F dX7_runScript_70 (by decide) ?_
        exact ml_sub [0, 1] rfl (jn6 _ h)
    refine ml_icmp_ge (tgt := 61) F dX7_runScript_42 (by decide) h (fun _ h => ?_) (fun _ h => ?_)
    · exact ml_sub [0, 1] rfl (jn3 _ h)
    · refine ml_aload_n (q := 0) F dX7_runScript_45 rfl rfl ?_
      refine ml_iconst (v := 4) F dX7_runScript_46 (by decide) ?_
      refine ml_iload_n (q := 1) F dX7_runScript_47 rfl rfl ?_
      refine ml_imul F dX7_runScript_48 ?_
      refine ml_callV (av := [.int (4 * x1)]) (T := TX7) (N := 16) F (pc11 g) rfl h (fun rs h9 => fX7_does_c (4 * x1) M rs hst h9) wcX7_does mlX7_216 wdX7_does (by decide) (by decide) (by decide) rfl seX7_does imX7_does rfl (Nat.le_of_ble_eq_true rfl) dX7_runScript_49 (fun r17 M18 h => ?_)
      refine ml_if_ne (tgt := 61) F dX7_runScript_52 (by decide) h (fun _ h => ?_) (fun _ h => ?_)
      · exact ml_sub [0, 1] rfl (jn3 _ h)
      · refine ml_iinc (q := 1) (v := x1 + 1) (ls2 := [(1, .int (x1 + 1)), (0, ml_rf g 11)]) F dX7_runScript_55 rfl rfl (by decide) rfl ?_
        refine ml_goto (tgt := 37) F dX7_runScript_58 (by decide) ?_
        exact ml_sub [1, 0] rfl (ih _ _ h)
set_option maxRecDepth 100000 in
def fX7_runScript (M : ml_M) : Option ml_R :=
  ml_bd (fX7_parse M) (fun r1 M2 => ml_lt (ml_w M2 11 9 0) (fun M3 => (if (M3 11 11) < 0 then ml_bd (fX7_begins M3) (fun r4 M5 => fX7_runScript_l ml_fuel 0 M5) else ml_lt (ml_w M3 11 12 (M3 11 11)) (fun M6 => ml_lt (ml_w M6 11 0 1) (fun M7 => some (.inl 0, M7))))))
set_option maxHeartbeats 4000000 in
set_option maxRecDepth 100000 in
theorem fX7_runScript_c (M : ml_M) (res : ml_R) {g : ml_G} (hst : g.2.2.2.2.2.stackTraces = false) (h : fX7_runScript M = some res) : ml_C yX7_runScript cX7_runScript 3 (some .int) 8 0 0 g (fun r _ => some (.int r)) [ml_rf g 11] M res := by
  refine ml_of [(0, ml_rf g 11)] hst (by decide) (Nat.le_of_ble_eq_true rfl) rfl (fun E F => ?_)
  unfold fX7_runScript at h
  refine ml_aload_n (q := 0) F dX7_runScript_0 rfl rfl ?_
  refine ml_callV (av := []) (T := TX7) (N := 16) F (pc11 g) rfl h (fun rs h9 => fX7_parse_c M rs hst h9) wcX7_parse mlX7_213 wdX7_parse (by decide) (by decide) (by decide) rfl seX7_parse imX7_parse rfl (Nat.le_of_ble_eq_true rfl) dX7_runScript_1 (fun r1 M2 h => ?_)
  refine ml_aload_n (q := 0) F dX7_runScript_4 rfl rfl ?_
  refine ml_iconst (v := 0) F dX7_runScript_5 (by decide) ?_
  refine ml_set F (pc11 g) rfl iaX7 tyX7_ok nmX7 9 (by decide) lkX7_177 rfl rfl rfl rfl rfl (Nat.le_of_ble_eq_true rfl) (fun m => by simp [upd]) dX7_runScript_6 ?_
  refine ml_ltM h (fun M3 _ h => ?_)
  refine ml_aload_n (q := 0) F dX7_runScript_9 rfl rfl ?_
  refine ml_get (v := .int (M3 11 11)) F (pc11 g) rfl iaX7 11 (by decide) lkX7_183 rfl rfl dX7_runScript_10 ?_
  refine ml_if_lt (tgt := 31) F dX7_runScript_13 (by decide) h (fun _ h => ?_) (fun _ h => ?_)
  · refine ml_aload_n (q := 0) F dX7_runScript_31 rfl rfl ?_
    refine ml_callV (av := []) (T := TX7) (N := 16) F (pc11 g) rfl h (fun rs h9 => fX7_begins_c M3 rs hst h9) wcX7_begins mlX7_92 wdX7_begins (by decide) (by decide) (by decide) rfl seX7_begins imX7_begins rfl (Nat.le_of_ble_eq_true rfl) dX7_runScript_32 (fun r4 M5 h => ?_)
    refine ml_iconst (v := 0) F dX7_runScript_35 (by decide) ?_
    refine ml_istore_n (ls2 := [(1, .int 0), (0, ml_rf g 11)]) F dX7_runScript_36 rfl (by decide) rfl ?_
    exact ml_sub [1, 0] rfl ((fX7_runScript_w F ml_fuel) _ _ h)
  · refine ml_aload_n (q := 0) F dX7_runScript_16 rfl rfl ?_
    refine ml_aload_n (q := 0) F dX7_runScript_17 rfl rfl ?_
    refine ml_get (v := .int (M3 11 11)) F (pc11 g) rfl iaX7 11 (by decide) lkX7_183 rfl rfl dX7_runScript_18 ?_
    refine ml_set F (pc11 g) rfl iaX7 tyX7_ok nmX7 12 (by decide) lkX7_20 rfl rfl rfl rfl rfl (Nat.le_of_ble_eq_true rfl) (fun m => by simp [upd]) dX7_runScript_21 ?_
    refine ml_ltM h (fun M6 _ h => ?_)
    refine ml_aload_n (q := 0) F dX7_runScript_24 rfl rfl ?_
    refine ml_iconst (v := 1) F dX7_runScript_25 (by decide) ?_
    refine ml_set F (pc11 g) rfl iaX7 tyX7_ok nmX7 0 (by decide) lkX7_30 rfl rfl rfl rfl rfl (Nat.le_of_ble_eq_true rfl) (fun m => by simp [upd]) dX7_runScript_26 ?_
    refine ml_ltM h (fun M7 _ h => ?_)
    refine ml_iconst (v := 0) F dX7_runScript_29 (by decide) ?_
    exact ml_iret (st := []) F (Option.some.inj h) rfl rfl rfl (by decide) (by decide) dX7_runScript_30
set_option maxRecDepth 100000 in
def fX7_errorPosition (M : ml_M) : Option ml_R :=
  ml_jn (fun (y1 : Int32) => ml_bd (fX7_isFine y1 M) (fun r4 M5 => ml_jn (fun (y6 : Int32) => some (.inl y6, M5)) (fun B7 => (if r4 = 0 then B7 0 else B7 (M5 11 12))))) (fun B2 => (if (M 11 12) = (-1) then B2 0 else B2 1))
set_option maxHeartbeats 4000000 in
set_option maxRecDepth 100000 in
theorem fX7_errorPosition_c (M : ml_M) (res : ml_R) {g : ml_G} (hst : g.2.2.2.2.2.stackTraces = false) (h : fX7_errorPosition M = some res) : ml_C yX7_errorPosition cX7_errorPosition 1 (some .int) 2 0 0 g (fun r _ => some (.int r)) [ml_rf g 11] M res := by
  refine ml_of [(0, ml_rf g 11)] hst (by decide) (Nat.le_of_ble_eq_true rfl) rfl (fun E F => ?_)
  unfold fX7_errorPosition at h
  refine ml_aload_n (q := 0) F dX7_errorPosition_0 rfl rfl ?_
  refine ml_aload_n (q := 0) F dX7_errorPosition_1 rfl rfl ?_
  refine ml_get (v := .int (M 11 12)) F (pc11 g) rfl iaX7 12 (by decide) lkX7_20 rfl rfl dX7_errorPosition_2 ?_
  refine ml_iconst (v := (-1)) F dX7_errorPosition_5 (by decide) ?_
  refine ml_jnR (P := fun B => ∀ (y1 : Int32), B y1 = some res → ml_J E g 1 (ml_Z E g (fun r _ => some (.int r)) res 0 0) (0) (0) 14 [(0, ml_rf g 11)] (.int y1 :: ml_rf g 11 :: []) M) h ?_ (fun jn3 h => ?_)
  · intro y1 h
    dsimp only at h
    refine ml_callV (av := [.int y1]) (T := TX7) (N := 16) F (pc11 g) rfl h (fun rs h9 => fX7_isFine_c y1 M rs hst h9) wcX7_isFine mlX7_134 wdX7_isFine (by decide) (by decide) (by decide) rfl seX7_isFine imX7_isFine rfl (Nat.le_of_ble_eq_true rfl) dX7_errorPosition_14 (fun r4 M5 h => ?_)
    refine ml_jnR (P := fun B => ∀ (y6 : Int32), B y6 = some res → ml_J E g 1 (ml_Z E g (fun r _ => some (.int r)) res 0 0) (0 + 0) (0 + 0) 28 [(0, ml_rf g 11)] (.int y6 :: []) M5) h ?_ (fun jn8 h => ?_)
    · intro y6 h
      dsimp only at h
      exact ml_iret (st := []) F (Option.some.inj h) rfl rfl rfl (by decide) (by decide) dX7_errorPosition_28
    refine ml_if_eq (tgt := 27) F dX7_errorPosition_17 (by decide) h (fun _ h => ?_) (fun _ h => ?_)
    · refine ml_iconst (v := 0) F dX7_errorPosition_27 (by decide) ?_
      exact ml_sub [0] rfl (jn8 _ h)
    · refine ml_aload_n (q := 0) F dX7_errorPosition_20 rfl rfl ?_
      refine ml_get (v := .int (M5 11 12)) F (pc11 g) rfl iaX7 12 (by decide) lkX7_20 rfl rfl dX7_errorPosition_21 ?_
      refine ml_goto (tgt := 28) F dX7_errorPosition_24 (by decide) ?_
      exact ml_sub [0] rfl (jn8 _ h)
  refine ml_icmp_eq (tgt := 13) F dX7_errorPosition_6 (by decide) h (fun _ h => ?_) (fun _ h => ?_)
  · refine ml_iconst (v := 0) F dX7_errorPosition_13 (by decide) ?_
    exact ml_sub [0] rfl (jn3 _ h)
  · refine ml_iconst (v := 1) F dX7_errorPosition_9 (by decide) ?_
    refine ml_goto (tgt := 14) F dX7_errorPosition_10 (by decide) ?_
    exact ml_sub [0] rfl (jn3 _ h)
set_option maxRecDepth 100000 in
def fX7_failedCommand (M : ml_M) : Option ml_R :=
  ml_jn (fun (y1 : Int32) => ml_bd (fX7_isFine y1 M) (fun r4 M5 => ml_jn (fun (y6 : Int32) => some (.inl y6, M5)) (fun B7 => (if r4 = 0 then B7 0 else B7 (M5 11 13))))) (fun B2 => (if (M 11 13) = (-1) then B2 0 else B2 1))
set_option maxHeartbeats 4000000 in
set_option maxRecDepth 100000 in
theorem fX7_failedCommand_c (M : ml_M) (res : ml_R) {g : ml_G} (hst : g.2.2.2.2.2.stackTraces = false) (h : fX7_failedCommand M = some res) : ml_C yX7_failedCommand cX7_failedCommand 1 (some .int) 2 0 0 g (fun r _ => some (.int r)) [ml_rf g 11] M res := by
  refine ml_of [(0, ml_rf g 11)] hst (by decide) (Nat.le_of_ble_eq_true rfl) rfl (fun E F => ?_)
  unfold fX7_failedCommand at h
  refine ml_aload_n (q := 0) F dX7_failedCommand_0 rfl rfl ?_
  refine ml_aload_n (q := 0) F dX7_failedCommand_1 rfl rfl ?_
  refine ml_get (v := .int (M 11 13)) F (pc11 g) rfl iaX7 13 (by decide) lkX7_24 rfl rfl dX7_failedCommand_2 ?_
  refine ml_iconst (v := (-1)) F dX7_failedCommand_5 (by decide) ?_
  refine ml_jnR (P := fun B => ∀ (y1 : Int32), B y1 = some res → ml_J E g 1 (ml_Z E g (fun r _ => some (.int r)) res 0 0) (0) (0) 14 [(0, ml_rf g 11)] (.int y1 :: ml_rf g 11 :: []) M) h ?_ (fun jn3 h => ?_)
  · intro y1 h
    dsimp only at h
    refine ml_callV (av := [.int y1]) (T := TX7) (N := 16) F (pc11 g) rfl h (fun rs h9 => fX7_isFine_c y1 M rs hst h9) wcX7_isFine mlX7_134 wdX7_isFine (by decide) (by decide) (by decide) rfl seX7_isFine imX7_isFine rfl (Nat.le_of_ble_eq_true rfl) dX7_failedCommand_14 (fun r4 M5 h => ?_)
    refine ml_jnR (P := fun B => ∀ (y6 : Int32), B y6 = some res → ml_J E g 1 (ml_Z E g (fun r _ => some (.int r)) res 0 0) (0 + 0) (0 + 0) 28 [(0, ml_rf g 11)] (.int y6 :: []) M5) h ?_ (fun jn8 h => ?_)
    · intro y6 h
      dsimp only at h
      exact ml_iret (st := []) F (Option.some.inj h) rfl rfl rfl (by decide) (by decide) dX7_failedCommand_28
    refine ml_if_eq (tgt := 27) F dX7_failedCommand_17 (by decide) h (fun _ h => ?_) (fun _ h => ?_)
    · refine ml_iconst (v := 0) F dX7_failedCommand_27 (by decide) ?_
      exact ml_sub [0] rfl (jn8 _ h)
    · refine ml_aload_n (q := 0) F dX7_failedCommand_20 rfl rfl ?_
      refine ml_get (v := .int (M5 11 13)) F (pc11 g) rfl iaX7 13 (by decide) lkX7_24 rfl rfl dX7_failedCommand_21 ?_
      refine ml_goto (tgt := 28) F dX7_failedCommand_24 (by decide) ?_
      exact ml_sub [0] rfl (jn8 _ h)
  refine ml_icmp_eq (tgt := 13) F dX7_failedCommand_6 (by decide) h (fun _ h => ?_) (fun _ h => ?_)
  · refine ml_iconst (v := 0) F dX7_failedCommand_13 (by decide) ?_
    exact ml_sub [0] rfl (jn3 _ h)
  · refine ml_iconst (v := 1) F dX7_failedCommand_9 (by decide) ?_
    refine ml_goto (tgt := 14) F dX7_failedCommand_10 (by decide) ?_
    exact ml_sub [0] rfl (jn3 _ h)
set_option maxRecDepth 100000 in
def fX7_undo (M : ml_M) : Option ml_R :=
  ml_jn (fun (y1 : Int32) => ml_bd (fX7_isFine y1 M) (fun r4 M5 => (if r4 = 0 then some (.inl 0, M5) else ml_bd (fX7_copies (M5 11 2) 0 M5) (fun r6 M7 => ml_lt (ml_w M7 11 2 ((M7 11 2) - 1)) (fun M8 => some (.inl (M8 11 2), M8)))))) (fun B2 => (if (M 11 2) ≤ 0 then B2 0 else B2 1))
set_option maxHeartbeats 4000000 in
set_option maxRecDepth 100000 in
theorem fX7_undo_c (M : ml_M) (res : ml_R) {g : ml_G} (hst : g.2.2.2.2.2.stackTraces = false) (h : fX7_undo M = some res) : ml_C yX7_undo cX7_undo 1 (some .int) 2 0 0 g (fun r _ => some (.int r)) [ml_rf g 11] M res := by
  refine ml_of [(0, ml_rf g 11)] hst (by decide) (Nat.le_of_ble_eq_true rfl) rfl (fun E F => ?_)
  unfold fX7_undo at h
  refine ml_aload_n (q := 0) F dX7_undo_0 rfl rfl ?_
  refine ml_aload_n (q := 0) F dX7_undo_1 rfl rfl ?_
  refine ml_get (v := .int (M 11 2)) F (pc11 g) rfl iaX7 2 (by decide) lkX7_37 rfl rfl dX7_undo_2 ?_
  refine ml_jnR (P := fun B => ∀ (y1 : Int32), B y1 = some res → ml_J E g 1 (ml_Z E g (fun r _ => some (.int r)) res 0 0) (0) (0) 13 [(0, ml_rf g 11)] (.int y1 :: ml_rf g 11 :: []) M) h ?_ (fun jn3 h => ?_)
  · intro y1 h
    dsimp only at h
    refine ml_callV (av := [.int y1]) (T := TX7) (N := 16) F (pc11 g) rfl h (fun rs h9 => fX7_isFine_c y1 M rs hst h9) wcX7_isFine mlX7_134 wdX7_isFine (by decide) (by decide) (by decide) rfl seX7_isFine imX7_isFine rfl (Nat.le_of_ble_eq_true rfl) dX7_undo_13 (fun r4 M5 h => ?_)
    refine ml_if_ne (tgt := 21) F dX7_undo_16 (by decide) h (fun _ h => ?_) (fun _ h => ?_)
    · refine ml_aload_n (q := 0) F dX7_undo_21 rfl rfl ?_
      refine ml_aload_n (q := 0) F dX7_undo_22 rfl rfl ?_
      refine ml_get (v := .int (M5 11 2)) F (pc11 g) rfl iaX7 2 (by decide) lkX7_37 rfl rfl dX7_undo_23 ?_
      refine ml_iconst (v := 0) F dX7_undo_26 (by decide) ?_
      refine ml_callV (av := [.int (M5 11 2), .int 0]) (T := TX7) (N := 16) F (pc11 g) rfl h (fun rs h9 => fX7_copies_c (M5 11 2) 0 M5 rs hst h9) wcX7_copies mlX7_33 wdX7_copies (by decide) (by decide) (by decide) rfl seX7_copies imX7_copies rfl (Nat.le_of_ble_eq_true rfl) dX7_undo_27 (fun r6 M7 h => ?_)
      refine ml_aload_n (q := 0) F dX7_undo_30 rfl rfl ?_
      refine ml_dup F dX7_undo_31 rfl ?_
      refine ml_get (v := .int (M7 11 2)) F (pc11 g) rfl iaX7 2 (by decide) lkX7_37 rfl rfl dX7_undo_32 ?_
      refine ml_iconst (v := 1) F dX7_undo_35 (by decide) ?_
      refine ml_isub F dX7_undo_36 ?_
      refine ml_set F (pc11 g) rfl iaX7 tyX7_ok nmX7 2 (by decide) lkX7_37 rfl rfl rfl rfl rfl (Nat.le_of_ble_eq_true rfl) (fun m => by simp [upd]) dX7_undo_37 ?_
      refine ml_ltM h (fun M8 _ h => ?_)
      refine ml_aload_n (q := 0) F dX7_undo_40 rfl rfl ?_
      refine ml_get (v := .int (M8 11 2)) F (pc11 g) rfl iaX7 2 (by decide) lkX7_37 rfl rfl dX7_undo_41 ?_
      exact ml_iret (st := []) F (Option.some.inj h) rfl rfl rfl (by decide) (by decide) dX7_undo_44
    · refine ml_iconst (v := 0) F dX7_undo_19 (by decide) ?_
      exact ml_iret (st := []) F (Option.some.inj h) rfl rfl rfl (by decide) (by decide) dX7_undo_20
  refine ml_if_le (tgt := 12) F dX7_undo_5 (by decide) h (fun _ h => ?_) (fun _ h => ?_)
  · refine ml_iconst (v := 0) F dX7_undo_12 (by decide) ?_
    exact ml_sub [0] rfl (jn3 _ h)
  · refine ml_iconst (v := 1) F dX7_undo_8 (by decide) ?_
    refine ml_goto (tgt := 13) F dX7_undo_9 (by decide) ?_
    exact ml_sub [0] rfl (jn3 _ h)
set_option maxRecDepth 100000 in
def fX7_save (M : ml_M) : Option ml_R :=
  ml_lt (ml_w M 11 0 0) (fun M1 => ml_lt (ml_w M1 11 3 1) (fun M2 => ml_bd (fX7_copies 0 9 M2) (fun r3 M4 => some (.inl (M4 12 6), M4))))
set_option maxHeartbeats 4000000 in
set_option maxRecDepth 100000 in
theorem fX7_save_c (M : ml_M) (res : ml_R) {g : ml_G} (hst : g.2.2.2.2.2.stackTraces = false) (h : fX7_save M = some res) : ml_C yX7_save cX7_save 1 (some .int) 2 0 0 g (fun r _ => some (.int r)) [ml_rf g 11] M res := by
  refine ml_of [(0, ml_rf g 11)] hst (by decide) (Nat.le_of_ble_eq_true rfl) rfl (fun E F => ?_)
  unfold fX7_save at h
  refine ml_aload_n (q := 0) F dX7_save_0 rfl rfl ?_
  refine ml_iconst (v := 0) F dX7_save_1 (by decide) ?_
  refine ml_set F (pc11 g) rfl iaX7 tyX7_ok nmX7 0 (by decide) lkX7_30 rfl rfl rfl rfl rfl (Nat.le_of_ble_eq_true rfl) (fun m => by simp [upd]) dX7_save_2 ?_
  refine ml_ltM h (fun M1 _ h => ?_)
  refine ml_aload_n (q := 0) F dX7_save_5 rfl rfl ?_
  refine ml_iconst (v := 1) F dX7_save_6 (by decide) ?_
  refine ml_set F (pc11 g) rfl iaX7 tyX7_ok nmX7 3 (by decide) lkX7_219 rfl rfl rfl (by decide) (by decide) (Nat.le_of_ble_eq_true rfl) (fun m => by simp [upd]) dX7_save_7 ?_
  refine ml_ltM h (fun M2 _ h => ?_)
  refine ml_aload_n (q := 0) F dX7_save_10 rfl rfl ?_
  refine ml_iconst (v := 0) F dX7_save_11 (by decide) ?_
  refine ml_bipush (v := 9) F dX7_save_12 (by decide) ?_
  refine ml_callV (av := [.int 0, .int 9]) (T := TX7) (N := 16) F (pc11 g) rfl h (fun rs h9 => fX7_copies_c 0 9 M2 rs hst h9) wcX7_copies mlX7_33 wdX7_copies (by decide) (by decide) (by decide) rfl seX7_copies imX7_copies rfl (Nat.le_of_ble_eq_true rfl) dX7_save_14 (fun r3 M4 h => ?_)
  refine ml_aload_n (q := 0) F dX7_save_17 rfl rfl ?_
  refine ml_get (v := ml_rf g 12) F (pc11 g) rfl iaX7 1 (by decide) lkX7_9 rfl rfl dX7_save_18 ?_
  refine ml_bipush (v := 6) F dX7_save_21 (by decide) ?_
  refine ml_ialdK (j := 6) F (pc12 g) (by decide) (by decide) dX7_save_23 ?_
  exact ml_iret (st := []) F (Option.some.inj h) rfl rfl rfl (by decide) (by decide) dX7_save_24
set_option maxRecDepth 100000 in
def fX7_restore (M : ml_M) : Option ml_R :=
  ml_bd (fX7_isFine (M 11 3) M) (fun r1 M2 => (if r1 = 0 then some (.inl 0, M2) else ml_bd (fX7_copies 9 0 M2) (fun r3 M4 => ml_lt (ml_w M4 11 2 0) (fun M5 => some (.inl (M5 12 6), M5)))))
set_option maxHeartbeats 4000000 in
set_option maxRecDepth 100000 in
theorem fX7_restore_c (M : ml_M) (res : ml_R) {g : ml_G} (hst : g.2.2.2.2.2.stackTraces = false) (h : fX7_restore M = some res) : ml_C yX7_restore cX7_restore 1 (some .int) 2 0 0 g (fun r _ => some (.int r)) [ml_rf g 11] M res := by
  refine ml_of [(0, ml_rf g 11)] hst (by decide) (Nat.le_of_ble_eq_true rfl) rfl (fun E F => ?_)
  unfold fX7_restore at h
  refine ml_aload_n (q := 0) F dX7_restore_0 rfl rfl ?_
  refine ml_aload_n (q := 0) F dX7_restore_1 rfl rfl ?_
  refine ml_get (v := .int (M 11 3)) F (pc11 g) rfl iaX7 3 (by decide) lkX7_219 rfl rfl dX7_restore_2 ?_
  refine ml_callV (av := [.int (M 11 3)]) (T := TX7) (N := 16) F (pc11 g) rfl h (fun rs h9 => fX7_isFine_c (M 11 3) M rs hst h9) wcX7_isFine mlX7_134 wdX7_isFine (by decide) (by decide) (by decide) rfl seX7_isFine imX7_isFine rfl (Nat.le_of_ble_eq_true rfl) dX7_restore_5 (fun r1 M2 h => ?_)
  refine ml_if_ne (tgt := 13) F dX7_restore_8 (by decide) h (fun _ h => ?_) (fun _ h => ?_)
  · refine ml_aload_n (q := 0) F dX7_restore_13 rfl rfl ?_
    refine ml_bipush (v := 9) F dX7_restore_14 (by decide) ?_
    refine ml_iconst (v := 0) F dX7_restore_16 (by decide) ?_
    refine ml_callV (av := [.int 9, .int 0]) (T := TX7) (N := 16) F (pc11 g) rfl h (fun rs h9 => fX7_copies_c 9 0 M2 rs hst h9) wcX7_copies mlX7_33 wdX7_copies (by decide) (by decide) (by decide) rfl seX7_copies imX7_copies rfl (Nat.le_of_ble_eq_true rfl) dX7_restore_17 (fun r3 M4 h => ?_)
    refine ml_aload_n (q := 0) F dX7_restore_20 rfl rfl ?_
    refine ml_iconst (v := 0) F dX7_restore_21 (by decide) ?_
    refine ml_set F (pc11 g) rfl iaX7 tyX7_ok nmX7 2 (by decide) lkX7_37 rfl rfl rfl rfl rfl (Nat.le_of_ble_eq_true rfl) (fun m => by simp [upd]) dX7_restore_22 ?_
    refine ml_ltM h (fun M5 _ h => ?_)
    refine ml_aload_n (q := 0) F dX7_restore_25 rfl rfl ?_
    refine ml_get (v := ml_rf g 12) F (pc11 g) rfl iaX7 1 (by decide) lkX7_9 rfl rfl dX7_restore_26 ?_
    refine ml_bipush (v := 6) F dX7_restore_29 (by decide) ?_
    refine ml_ialdK (j := 6) F (pc12 g) (by decide) (by decide) dX7_restore_31 ?_
    exact ml_iret (st := []) F (Option.some.inj h) rfl rfl rfl (by decide) (by decide) dX7_restore_32
  · refine ml_iconst (v := 0) F dX7_restore_11 (by decide) ?_
    exact ml_iret (st := []) F (Option.some.inj h) rfl rfl rfl (by decide) (by decide) dX7_restore_12
