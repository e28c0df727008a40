set_option maxRecDepth 100000 in
def fX0_placeOf (i : Nat) (a0 : Int32) (M : ml_M) : Option ml_R :=
  ml_bd (fJ9_floorMod_7cf53 (((M (ml_fl i + 12) 2) - 1) - a0) 8 M) (fun r1 M2 => some (.inl r1, M2))
set_option maxHeartbeats 4000000 in
set_option maxRecDepth 100000 in
theorem fX0_placeOf_c (i : Nat) (a0 : Int32) (M : ml_M) (res : ml_R) (hi : i < 11) {g : ml_G} (hst : g.2.2.2.2.2.stackTraces = false) (h : fX0_placeOf i a0 M = some res) : ml_C yX0_placeOf cX0_placeOf 2 (some .int) 2 0 0 g (fun r _ => some (.int r)) [ml_rf g (ml_fl i + 12), .int a0] M res := by
  refine ml_of [(0, ml_rf g (ml_fl i + 12)), (1, .int a0)] hst (by decide) (Nat.le_of_ble_eq_true rfl) rfl (fun E F => ?_)
  unfold fX0_placeOf at h
  refine ml_aload_n (q := 0) F dX0_placeOf_0 rfl rfl ?_
  refine ml_get (v := .int (M (ml_fl i + 12) 2)) F (pf12 g hi) rfl iaX0 2 (by decide) lkX0_19 rfl rfl dX0_placeOf_1 ?_
  refine ml_iconst (v := 1) F dX0_placeOf_4 (by decide) ?_
  refine ml_isub F dX0_placeOf_5 ?_
  refine ml_iload_n (q := 1) F dX0_placeOf_6 rfl rfl ?_
  refine ml_isub F dX0_placeOf_7 ?_
  refine ml_bipush (v := 8) F dX0_placeOf_8 (by decide) ?_
  refine ml_callS (av := [.int (((M (ml_fl i + 12) 2) - 1) - a0), .int 8]) F h (fun rs h9 => fJ9_floorMod_7cf53_c (((M (ml_fl i + 12) 2) - 1) - a0) 8 M rs hst h9) wcJ9_floorMod_7cf53 mlX0_32 wdJ9_floorMod_7cf53 (by decide) (by decide) (by decide) rfl stJ9_floorMod_7cf53 rfl (Nat.le_of_ble_eq_true rfl) dX0_placeOf_10 (fun r1 M2 h => ?_)
  exact ml_iret (st := []) F (Option.some.inj h) rfl rfl rfl (by decide) (by decide) dX0_placeOf_13
set_option maxRecDepth 100000 in
def fX6_eventKind (a0 : Int32) (M : ml_M) : Option ml_R :=
  ml_bd (fX6_needEvent a0 M) (fun r1 M2 => ml_bd (fX0_placeOf 0 a0 M2) (fun r3 M4 => if ml_ok r3 8 then if narrow .char (.int (M4 (ml_fl 0 + 13) r3.toNatClampNeg)) = .int (M4 (ml_fl 0 + 13) r3.toNatClampNeg) then some (.inl (M4 (ml_fl 0 + 13) r3.toNatClampNeg), M4) else none else none))
set_option maxHeartbeats 4000000 in
set_option maxRecDepth 100000 in
theorem fX6_eventKind_c (a0 : Int32) (M : ml_M) (res : ml_R) {g : ml_G} (hst : g.2.2.2.2.2.stackTraces = false) (h : fX6_eventKind a0 M = some res) : ml_C yX6_eventKind cX6_eventKind 2 (some .char) 3 1 6 g (fun r _ => some (.int r)) [ml_rf g 0, .int a0] M res := by
  refine ml_of [(0, ml_rf g 0), (1, .int a0)] hst (by decide) (Nat.le_of_ble_eq_true rfl) rfl (fun E F => ?_)
  unfold fX6_eventKind at h
  refine ml_aload_n (q := 0) F dX6_eventKind_0 rfl rfl ?_
  refine ml_iload_n (q := 1) F dX6_eventKind_1 rfl rfl ?_
  refine ml_callV (av := [.int a0]) (T := TX6) (N := 9) F (pc0 g) rfl h (fun rs h9 => fX6_needEvent_c a0 M rs hst h9) wcX6_needEvent mlX6_211 wdX6_needEvent (by decide) (by decide) (by decide) rfl seX6_needEvent imX6_needEvent rfl (Nat.le_of_ble_eq_true rfl) dX6_eventKind_2 (fun r1 M2 h => ?_)
  refine ml_aload_n (q := 0) F dX6_eventKind_5 rfl rfl ?_
  refine ml_get (v := ml_rf g (ml_fl 0)) F (pc0 g) rfl iaX6 0 (by decide) lkX6_12 rfl rfl dX6_eventKind_6 ?_
  refine ml_get (v := ml_rf g (ml_fl 0 + 12)) F (pf0 g (by decide : 0 < 11)) rfl iaX2 2 (by decide) lkX6_204 rfl rfl dX6_eventKind_9 ?_
  refine ml_get (v := ml_rf g (ml_fl 0 + 13)) F (pf12 g (by decide : 0 < 11)) rfl iaX0 0 (by decide) lkX6_214 rfl rfl dX6_eventKind_12 ?_
  refine ml_aload_n (q := 0) F dX6_eventKind_15 rfl rfl ?_
  refine ml_get (v := ml_rf g (ml_fl 0)) F (pc0 g) rfl iaX6 0 (by decide) lkX6_12 rfl rfl dX6_eventKind_16 ?_
  refine ml_get (v := ml_rf g (ml_fl 0 + 12)) F (pf0 g (by decide : 0 < 11)) rfl iaX2 2 (by decide) lkX6_204 rfl rfl dX6_eventKind_19 ?_
  refine ml_iload_n (q := 1) F dX6_eventKind_22 rfl rfl ?_
  refine ml_callV (av := [.int a0]) (T := TX0) (N := 4) F (pf12 g (by decide : 0 < 11)) rfl h (fun rs h9 => fX0_placeOf_c 0 a0 M2 rs (by decide : 0 < 11) hst h9) wcX0_placeOf mlX6_218 wdX0_placeOf (by decide) (by decide) (by decide) rfl seX0_placeOf imX0_placeOf rfl (Nat.le_of_ble_eq_true rfl) dX6_eventKind_23 (fun r3 M4 h => ?_)
  refine ml_cald F (pf13 g (by decide : 0 < 11)) h dX6_eventKind_26 (fun h => ?_)
  obtain ⟨q5, h⟩ := ml_if h
  exact ml_iret (st := []) F (Option.some.inj h) rfl rfl q5 (by decide) (by decide) dX6_eventKind_27
set_option maxRecDepth 100000 in
def fX6_eventNumber (a0 : Int32) (M : ml_M) : Option ml_R :=
  ml_bd (fX6_needEvent a0 M) (fun r1 M2 => ml_bd (fX0_placeOf 0 a0 M2) (fun r3 M4 => if ml_ok r3 8 then some (.inl (M4 (ml_fl 0 + 14) r3.toNatClampNeg), M4) else none))
set_option maxHeartbeats 4000000 in
set_option maxRecDepth 100000 in
theorem fX6_eventNumber_c (a0 : Int32) (M : ml_M) (res : ml_R) {g : ml_G} (hst : g.2.2.2.2.2.stackTraces = false) (h : fX6_eventNumber a0 M = some res) : ml_C yX6_eventNumber cX6_eventNumber 2 (some .int) 3 1 6 g (fun r _ => some (.int r)) [ml_rf g 0, .int a0] M res := by
  refine ml_of [(0, ml_rf g 0), (1, .int a0)] hst (by decide) (Nat.le_of_ble_eq_true rfl) rfl (fun E F => ?_)
  unfold fX6_eventNumber at h
  refine ml_aload_n (q := 0) F dX6_eventNumber_0 rfl rfl ?_
  refine ml_iload_n (q := 1) F dX6_eventNumber_1 rfl rfl ?_
  refine ml_callV (av := [.int a0]) (T := TX6) (N := 9) F (pc0 g) rfl h (fun rs h9 => fX6_needEvent_c a0 M rs hst h9) wcX6_needEvent mlX6_211 wdX6_needEvent (by decide) (by decide) (by decide) rfl seX6_needEvent imX6_needEvent rfl (Nat.le_of_ble_eq_true rfl) dX6_eventNumber_2 (fun r1 M2 h => ?_)
  refine ml_aload_n (q := 0) F dX6_eventNumber_5 rfl rfl ?_
  refine ml_get (v := ml_rf g (ml_fl 0)) F (pc0 g) rfl iaX6 0 (by decide) lkX6_12 rfl rfl dX6_eventNumber_6 ?_
  refine ml_get (v := ml_rf g (ml_fl 0 + 12)) F (pf0 g (by decide : 0 < 11)) rfl iaX2 2 (by decide) lkX6_204 rfl rfl dX6_eventNumber_9 ?_
  refine ml_get (v := ml_rf g (ml_fl 0 + 14)) F (pf12 g (by decide : 0 < 11)) rfl iaX0 1 (by decide) lkX6_221 rfl rfl dX6_eventNumber_12 ?_
  refine ml_aload_n (q := 0) F dX6_eventNumber_15 rfl rfl ?_
  refine ml_get (v := ml_rf g (ml_fl 0)) F (pc0 g) rfl iaX6 0 (by decide) lkX6_12 rfl rfl dX6_eventNumber_16 ?_
  refine ml_get (v := ml_rf g (ml_fl 0 + 12)) F (pf0 g (by decide : 0 < 11)) rfl iaX2 2 (by decide) lkX6_204 rfl rfl dX6_eventNumber_19 ?_
  refine ml_iload_n (q := 1) F dX6_eventNumber_22 rfl rfl ?_
  refine ml_callV (av := [.int a0]) (T := TX0) (N := 4) F (pf12 g (by decide : 0 < 11)) rfl h (fun rs h9 => fX0_placeOf_c 0 a0 M2 rs (by decide : 0 < 11) hst h9) wcX0_placeOf mlX6_218 wdX0_placeOf (by decide) (by decide) (by decide) rfl seX0_placeOf imX0_placeOf rfl (Nat.le_of_ble_eq_true rfl) dX6_eventNumber_23 (fun r3 M4 h => ?_)
  refine ml_iald F (pf14 g (by decide : 0 < 11)) h dX6_eventNumber_26 (fun h => ?_)
  exact ml_iret (st := []) F (Option.some.inj h) rfl rfl rfl (by decide) (by decide) dX6_eventNumber_27
set_option maxRecDepth 100000 in
def fX6_renderLevels_s0 (rec : Int32 → ml_M → Option ml_R) (x1 : Int32) (M : ml_M) : Option ml_R :=
  (if 5 ≤ x1 then ml_bd (fJ4_length_8abf5 M) (fun r1 M2 => some (.inl r1, M2)) else ml_jn (fun (M3 : ml_M) => ml_bd (fX5_roundedLevel 0 x1 M3) (fun r6 M7 => ml_bd (fJ4_append_bf812 r6 M7) (fun r8 M9 => rec (x1 + 1) M9))) (fun B4 => (if x1 ≤ 0 then B4 M else if ml_ok (x1 - 1) 4 then ml_jn (fun (y10 : Int32) => ml_bd (fJ4_append_cf468 y10 M) (fun r13 M14 => B4 M14)) (fun B11 => (if (M (ml_fl 0 + 4) (x1 - 1).toNatClampNeg) = 0 then B11 124 else B11 47)) else none)))
def fX6_renderLevels_l : Nat → Int32 → ml_M → Option ml_R
  | 0 => fun _ _ => none
  | n + 1 => fX6_renderLevels_s0 (fX6_renderLevels_l n)
set_option maxHeartbeats 4000000 in
set_option maxRecDepth 100000 in
theorem fX6_renderLevels_w {E : ml_E} {g : ml_G} {res : ml_R} (F : ml_F E g cX6_renderLevels yX6_renderLevels.cls 2 5 0 0 (some .int) []) : ∀ fuel : Nat, ∀ (x1 : Int32) (M : ml_M), fX6_renderLevels_l fuel x1 M = some res → ml_J E g 2 (ml_Z E g (fun r _ => some (.int r)) res 0 0) 0 0 10 [(0, ml_rf g 0), (1, .int x1)] [] M := by
  have hst := ml_F_st F
  intro fuel
  induction fuel with
  | zero => intro _ _ h; exact nomatch (show (none : Option ml_R) = some res from h)
  | succ fuel ih =>
    intro x1 M h
    replace h : fX6_renderLevels_s0 (fX6_renderLevels_l fuel) x1 M = some res := h
    unfold fX6_renderLevels_s0 at h
    refine ml_iload_n (q := 1) F dX6_renderLevels_10 rfl rfl ?_
    refine ml_iconst (v := 5) F dX6_renderLevels_11 (by decide) ?_
    refine ml_icmp_ge (tgt := 76) F dX6_renderLevels_12 (by decide) h (fun _ h => ?_) (fun _ h => ?_)
    · refine ml_aload_n (q := 0) F dX6_renderLevels_76 rfl rfl ?_
      refine ml_get (v := ml_rf g 9) F (pc0 g) rfl iaX6 6 (by decide) lkX6_43 rfl rfl dX6_renderLevels_77 ?_
      refine ml_callV (av := []) (T := TJ4) (N := 4) F (pc9 g) rfl h (fun rs h9 => fJ4_length_8abf5_c M rs hst h9) wcJ4_length_8abf5 mlX6_248 wdJ4_length_8abf5 (by decide) (by decide) (by decide) rfl seJ4_length_8abf5 imJ4_length_8abf5 rfl (Nat.le_of_ble_eq_true rfl) dX6_renderLevels_80 (fun r1 M2 h => ?_)
      exact ml_iret (st := []) F (Option.some.inj h) rfl rfl rfl (by decide) (by decide) dX6_renderLevels_83
    · refine ml_iload_n (q := 1) F dX6_renderLevels_15 rfl rfl ?_
      refine ml_jnR (P := fun B => ∀ (M3 : ml_M), B M3 = some res → ml_J E g 2 (ml_Z E g (fun r _ => some (.int r)) res 0 0) (0) (0) 51 [(0, ml_rf g 0), (1, .int x1)] ([]) M3) h ?_ (fun jn5 h => ?_)
      · intro M3 h
        dsimp only at h
        refine ml_aload_n (q := 0) F dX6_renderLevels_51 rfl rfl ?_
        refine ml_get (v := ml_rf g 9) F (pc0 g) rfl iaX6 6 (by decide) lkX6_43 rfl rfl dX6_renderLevels_52 ?_
        refine ml_aload_n (q := 0) F dX6_renderLevels_55 rfl rfl ?_
        refine ml_get (v := ml_rf g (ml_fl 0)) F (pc0 g) rfl iaX6 0 (by decide) lkX6_12 rfl rfl dX6_renderLevels_56 ?_
        refine ml_get (v := ml_rf g (ml_fl 0 + 1)) F (pf0 g (by decide : 0 < 11)) rfl iaX2 0 (by decide) lkX6_70 rfl rfl dX6_renderLevels_59 ?_
        refine ml_iload_n (q := 1) F dX6_renderLevels_62 rfl rfl ?_
        refine ml_callV (av := [.int x1]) (T := TX5) (N := 8) F (pf1 g (by decide : 0 < 11)) rfl h (fun rs h9 => fX5_roundedLevel_c 0 x1 M3 rs (by decide : 0 < 11) hst h9) wcX5_roundedLevel mlX6_80 wdX5_roundedLevel (by decide) (by decide) (by decide) rfl seX5_roundedLevel imX5_roundedLevel rfl (Nat.le_of_ble_eq_true rfl) dX6_renderLevels_63 (fun r6 M7 h => ?_)
        refine ml_callV (av := [.int r6]) (T := TJ4) (N := 4) F (pc9 g) rfl h (fun rs h9 => fJ4_append_bf812_c r6 M7 rs hst h9) wcJ4_append_bf812 mlX6_245 wdJ4_append_bf812 (by decide) (by decide) (by decide) rfl seJ4_append_bf812 imJ4_append_bf812 rfl (Nat.le_of_ble_eq_true rfl) dX6_renderLevels_66 (fun r8 M9 h => ?_)
        refine ml_pop F dX6_renderLevels_69 rfl ?_
        refine ml_iinc (q := 1) (v := x1 + 1) (ls2 := [(1, .int (x1 + 1)), (0, ml_rf g 0)]) F dX6_renderLevels_70 rfl rfl (by decide) rfl ?_
        refine ml_goto (tgt := 10) F dX6_renderLevels_73 (by decide) ?_
        exact ml_sub [1, 0] rfl (ih _ _ h)
      refine ml_if_le (tgt := 51) F dX6_renderLevels_16 (by decide) h (fun _ h => ?_) (fun _ h => ?_)
      · exact ml_sub [0, 1] rfl (jn5 _ h)
      · refine ml_aload_n (q := 0) F dX6_renderLevels_19 rfl rfl ?_
        refine ml_get (v := ml_rf g 9) F (pc0 g) rfl iaX6 6 (by decide) lkX6_43 rfl rfl dX6_renderLevels_20 ?_
        refine ml_aload_n (q := 0) F dX6_renderLevels_23 rfl rfl ?_
        refine ml_get (v := ml_rf g (ml_fl 0)) F (pc0 g) rfl iaX6 0 (by decide) lkX6_12 rfl rfl dX6_renderLevels_24 ?_
        refine ml_get (v := ml_rf g (ml_fl 0 + 1)) F (pf0 g (by decide : 0 < 11)) rfl iaX2 0 (by decide) lkX6_70 rfl rfl dX6_renderLevels_27 ?_
        refine ml_get (v := ml_rf g (ml_fl 0 + 4)) F (pf1 g (by decide : 0 < 11)) rfl iaX5 2 (by decide) lkX6_99 rfl rfl dX6_renderLevels_30 ?_
        refine ml_iload_n (q := 1) F dX6_renderLevels_33 rfl rfl ?_
        refine ml_iconst (v := 1) F dX6_renderLevels_34 (by decide) ?_
        refine ml_isub F dX6_renderLevels_35 ?_
        refine ml_zald F (pf4 g (by decide : 0 < 11)) h dX6_renderLevels_36 (fun h => ?_)
        refine ml_jnR (P := fun B => ∀ (y10 : Int32), B y10 = some res → ml_J E g 2 (ml_Z E g (fun r _ => some (.int r)) res 0 0) (0) (0) 47 [(0, ml_rf g 0), (1, .int x1)] (.int y10 :: ml_rf g 9 :: []) M) h ?_ (fun jn12 h => ?_)
        · intro y10 h
          dsimp only at h
          refine ml_callV (av := [.int y10]) (T := TJ4) (N := 4) F (pc9 g) rfl h (fun rs h9 => fJ4_append_cf468_c y10 M rs hst h9) wcJ4_append_cf468 mlX6_241 wdJ4_append_cf468 (by decide) (by decide) (by decide) rfl seJ4_append_cf468 imJ4_append_cf468 rfl (Nat.le_of_ble_eq_true rfl) dX6_renderLevels_47 (fun r13 M14 h => ?_)
          refine ml_pop F dX6_renderLevels_50 rfl ?_
          exact ml_sub [0, 1] rfl (jn5 _ h)
        refine ml_if_eq (tgt := 45) F dX6_renderLevels_37 (by decide) h (fun _ h => ?_) (fun _ h => ?_)
        · refine ml_bipush (v := 124) F dX6_renderLevels_45 (by decide) ?_
          exact ml_sub [0, 1] rfl (jn12 _ h)
        · refine ml_bipush (v := 47) F dX6_renderLevels_40 (by decide) ?_
          refine ml_goto (tgt := 47) F dX6_renderLevels_42 (by decide) ?_
          exact ml_sub [0, 1] rfl (jn12 _ h)
set_option maxRecDepth 100000 in
def fX6_renderLevels (M : ml_M) : Option ml_R :=
  ml_bd (fJ4_setLength_d00df 0 M) (fun r1 M2 => fX6_renderLevels_l ml_fuel 0 M2)
set_option maxHeartbeats 4000000 in
set_option maxRecDepth 100000 in
theorem fX6_renderLevels_c (M : ml_M) (res : ml_R) {g : ml_G} (hst : g.2.2.2.2.2.stackTraces = false) (h : fX6_renderLevels M = some res) : ml_C yX6_renderLevels cX6_renderLevels 2 (some .int) 5 0 0 g (fun r _ => some (.int r)) [ml_rf g 0] M res := by
  refine ml_of [(0, ml_rf g 0)] hst (by decide) (Nat.le_of_ble_eq_true rfl) rfl (fun E F => ?_)
  unfold fX6_renderLevels at h
  refine ml_aload_n (q := 0) F dX6_renderLevels_0 rfl rfl ?_
  refine ml_get (v := ml_rf g 9) F (pc0 g) rfl iaX6 6 (by decide) lkX6_43 rfl rfl dX6_renderLevels_1 ?_
  refine ml_iconst (v := 0) F dX6_renderLevels_4 (by decide) ?_
  refine ml_callV (av := [.int 0]) (T := TJ4) (N := 4) F (pc9 g) rfl h (fun rs h9 => fJ4_setLength_d00df_c 0 M rs hst h9) wcJ4_setLength_d00df mlX6_238 wdJ4_setLength_d00df (by decide) (by decide) (by decide) rfl seJ4_setLength_d00df imJ4_setLength_d00df rfl (Nat.le_of_ble_eq_true rfl) dX6_renderLevels_5 (fun r1 M2 h => ?_)
  refine ml_iconst (v := 0) F dX6_renderLevels_8 (by decide) ?_
  refine ml_istore_n (ls2 := [(1, .int 0), (0, ml_rf g 0)]) F dX6_renderLevels_9 rfl (by decide) rfl ?_
  exact ml_sub [1, 0] rfl ((fX6_renderLevels_w F ml_fuel) _ _ h)
set_option maxRecDepth 100000 in
def fX6_renderBoat (a0 : Int32) (M : ml_M) : Option ml_R :=
  ml_bd (fX6_needBoat a0 M) (fun r1 M2 => ml_bd (fJ4_setLength_d00df 0 M2) (fun r3 M4 => ml_bd (fX1_signOf 0 a0 M4) (fun r5 M6 => ml_bd (fJ4_append_cf468 r5 M6) (fun r7 M8 => if ml_ok a0 8 then ml_bd (fJ4_append_bf812 (M8 (ml_fl 0 + 7) a0.toNatClampNeg) M8) (fun r9 M10 => if ml_ok a0 8 then ml_jn (fun (y11 : Int32) => ml_bd (fJ4_append_cf468 y11 M10) (fun r14 M15 => if ml_ok a0 8 then ml_bd (fJ4_append_bf812 (M15 (ml_fl 0 + 9) a0.toNatClampNeg) M15) (fun r16 M17 => ml_bd (fJ4_length_8abf5 M17) (fun r18 M19 => some (.inl r18, M19))) else none)) (fun B12 => (if (M10 (ml_fl 0 + 8) a0.toNatClampNeg) = 0 then B12 94 else B12 118)) else none) else none))))
set_option maxHeartbeats 4000000 in
set_option maxRecDepth 100000 in
theorem fX6_renderBoat_c (a0 : Int32) (M : ml_M) (res : ml_R) {g : ml_G} (hst : g.2.2.2.2.2.stackTraces = false) (h : fX6_renderBoat a0 M = some res) : ml_C yX6_renderBoat cX6_renderBoat 2 (some .int) 5 1 6 g (fun r _ => some (.int r)) [ml_rf g 0, .int a0] M res := by
  refine ml_of [(0, ml_rf g 0), (1, .int a0)] hst (by decide) (Nat.le_of_ble_eq_true rfl) rfl (fun E F => ?_)
  unfold fX6_renderBoat at h
  refine ml_aload_n (q := 0) F dX6_renderBoat_0 rfl rfl ?_
  refine ml_iload_n (q := 1) F dX6_renderBoat_1 rfl rfl ?_
  refine ml_callV (av := [.int a0]) (T := TX6) (N := 9) F (pc0 g) rfl h (fun rs h9 => fX6_needBoat_c a0 M rs hst h9) wcX6_needBoat mlX6_147 wdX6_needBoat (by decide) (by decide) (by decide) rfl seX6_needBoat imX6_needBoat rfl (Nat.le_of_ble_eq_true rfl) dX6_renderBoat_2 (fun r1 M2 h => ?_)
  refine ml_aload_n (q := 0) F dX6_renderBoat_5 rfl rfl ?_
  refine ml_get (v := ml_rf g 9) F (pc0 g) rfl iaX6 6 (by decide) lkX6_43 rfl rfl dX6_renderBoat_6 ?_
  refine ml_iconst (v := 0) F dX6_renderBoat_9 (by decide) ?_
  refine ml_callV (av := [.int 0]) (T := TJ4) (N := 4) F (pc9 g) rfl h (fun rs h9 => fJ4_setLength_d00df_c 0 M2 rs hst h9) wcJ4_setLength_d00df mlX6_238 wdJ4_setLength_d00df (by decide) (by decide) (by decide) rfl seJ4_setLength_d00df imJ4_setLength_d00df rfl (Nat.le_of_ble_eq_true rfl) dX6_renderBoat_10 (fun r3 M4 h => ?_)
  refine ml_aload_n (q := 0) F dX6_renderBoat_13 rfl rfl ?_
  refine ml_get (v := ml_rf g 9) F (pc0 g) rfl iaX6 6 (by decide) lkX6_43 rfl rfl dX6_renderBoat_14 ?_
  refine ml_aload_n (q := 0) F dX6_renderBoat_17 rfl rfl ?_
  refine ml_get (v := ml_rf g (ml_fl 0)) F (pc0 g) rfl iaX6 0 (by decide) lkX6_12 rfl rfl dX6_renderBoat_18 ?_
  refine ml_get (v := ml_rf g (ml_fl 0 + 5)) F (pf0 g (by decide : 0 < 11)) rfl iaX2 1 (by decide) lkX6_138 rfl rfl dX6_renderBoat_21 ?_
  refine ml_iload_n (q := 1) F dX6_renderBoat_24 rfl rfl ?_
  refine ml_callV (av := [.int a0]) (T := TX1) (N := 8) F (pf5 g (by decide : 0 < 11)) rfl h (fun rs h9 => fX1_signOf_c 0 a0 M4 rs (by decide : 0 < 11) hst h9) wcX1_signOf mlX6_150 wdX1_signOf (by decide) (by decide) (by decide) rfl seX1_signOf imX1_signOf rfl (Nat.le_of_ble_eq_true rfl) dX6_renderBoat_25 (fun r5 M6 h => ?_)
  refine ml_callV (av := [.int r5]) (T := TJ4) (N := 4) F (pc9 g) rfl h (fun rs h9 => fJ4_append_cf468_c r5 M6 rs hst h9) wcJ4_append_cf468 mlX6_241 wdJ4_append_cf468 (by decide) (by decide) (by decide) rfl seJ4_append_cf468 imJ4_append_cf468 rfl (Nat.le_of_ble_eq_true rfl) dX6_renderBoat_28 (fun r7 M8 h => ?_)
  refine ml_pop F dX6_renderBoat_31 rfl ?_
  refine ml_aload_n (q := 0) F dX6_renderBoat_32 rfl rfl ?_
  refine ml_get (v := ml_rf g 9) F (pc0 g) rfl iaX6 6 (by decide) lkX6_43 rfl rfl dX6_renderBoat_33 ?_
  refine ml_aload_n (q := 0) F dX6_renderBoat_36 rfl rfl ?_
  refine ml_get (v := ml_rf g (ml_fl 0)) F (pc0 g) rfl iaX6 0 (by decide) lkX6_12 rfl rfl dX6_renderBoat_37 ?_
  refine ml_get (v := ml_rf g (ml_fl 0 + 5)) F (pf0 g (by decide : 0 < 11)) rfl iaX2 1 (by decide) lkX6_138 rfl rfl dX6_renderBoat_40 ?_
  refine ml_get (v := ml_rf g (ml_fl 0 + 7)) F (pf5 g (by decide : 0 < 11)) rfl iaX1 3 (by decide) lkX6_154 rfl rfl dX6_renderBoat_43 ?_
  refine ml_iload_n (q := 1) F dX6_renderBoat_46 rfl rfl ?_
  refine ml_iald F (pf7 g (by decide : 0 < 11)) h dX6_renderBoat_47 (fun h => ?_)
  refine ml_callV (av := [.int (M8 (ml_fl 0 + 7) a0.toNatClampNeg)]) (T := TJ4) (N := 4) F (pc9 g) rfl h (fun rs h9 => fJ4_append_bf812_c (M8 (ml_fl 0 + 7) a0.toNatClampNeg) M8 rs hst h9) wcJ4_append_bf812 mlX6_245 wdJ4_append_bf812 (by decide) (by decide) (by decide) rfl seJ4_append_bf812 imJ4_append_bf812 rfl (Nat.le_of_ble_eq_true rfl) dX6_renderBoat_48 (fun r9 M10 h => ?_)
  refine ml_pop F dX6_renderBoat_51 rfl ?_
  refine ml_aload_n (q := 0) F dX6_renderBoat_52 rfl rfl ?_
  refine ml_get (v := ml_rf g 9) F (pc0 g) rfl iaX6 6 (by decide) lkX6_43 rfl rfl dX6_renderBoat_53 ?_
  refine ml_aload_n (q := 0) F dX6_renderBoat_56 rfl rfl ?_
  refine ml_get (v := ml_rf g (ml_fl 0)) F (pc0 g) rfl iaX6 0 (by decide) lkX6_12 rfl rfl dX6_renderBoat_57 ?_
  refine ml_get (v := ml_rf g (ml_fl 0 + 5)) F (pf0 g (by decide : 0 < 11)) rfl iaX2 1 (by decide) lkX6_138 rfl rfl dX6_renderBoat_60 ?_
  refine ml_get (v := ml_rf g (ml_fl 0 + 8)) F (pf5 g (by decide : 0 < 11)) rfl iaX1 4 (by decide) lkX6_157 rfl rfl dX6_renderBoat_63 ?_
  refine ml_iload_n (q := 1) F dX6_renderBoat_66 rfl rfl ?_
  refine ml_zald F (pf8 g (by decide : 0 < 11)) h dX6_renderBoat_67 (fun h => ?_)
  refine ml_jnR (P := fun B => ∀ (y11 : Int32), B y11 = some res → ml_J E g 2 (ml_Z E g (fun r _ => some (.int r)) res 1 6) (0 + 1 + 0 + 0 + 0 + 0) (0 + 6 + 0 + 0 + 0 + 0) 78 [(0, ml_rf g 0), (1, .int a0)] (.int y11 :: ml_rf g 9 :: []) M10) h ?_ (fun jn13 h => ?_)
  · intro y11 h
    dsimp only at h
    refine ml_callV (av := [.int y11]) (T := TJ4) (N := 4) F (pc9 g) rfl h (fun rs h9 => fJ4_append_cf468_c y11 M10 rs hst h9) wcJ4_append_cf468 mlX6_241 wdJ4_append_cf468 (by decide) (by decide) (by decide) rfl seJ4_append_cf468 imJ4_append_cf468 rfl (Nat.le_of_ble_eq_true rfl) dX6_renderBoat_78 (fun r14 M15 h => ?_)
    refine ml_pop F dX6_renderBoat_81 rfl ?_
    refine ml_aload_n (q := 0) F dX6_renderBoat_82 rfl rfl ?_
    refine ml_get (v := ml_rf g 9) F (pc0 g) rfl iaX6 6 (by decide) lkX6_43 rfl rfl dX6_renderBoat_83 ?_
    refine ml_aload_n (q := 0) F dX6_renderBoat_86 rfl rfl ?_
    refine ml_get (v := ml_rf g (ml_fl 0)) F (pc0 g) rfl iaX6 0 (by decide) lkX6_12 rfl rfl dX6_renderBoat_87 ?_
    refine ml_get (v := ml_rf g (ml_fl 0 + 5)) F (pf0 g (by decide : 0 < 11)) rfl iaX2 1 (by decide) lkX6_138 rfl rfl dX6_renderBoat_90 ?_
    refine ml_get (v := ml_rf g (ml_fl 0 + 9)) F (pf5 g (by decide : 0 < 11)) rfl iaX1 5 (by decide) lkX6_160 rfl rfl dX6_renderBoat_93 ?_
    refine ml_iload_n (q := 1) F dX6_renderBoat_96 rfl rfl ?_
    refine ml_iald F (pf9 g (by decide : 0 < 11)) h dX6_renderBoat_97 (fun h => ?_)
    refine ml_callV (av := [.int (M15 (ml_fl 0 + 9) a0.toNatClampNeg)]) (T := TJ4) (N := 4) F (pc9 g) rfl h (fun rs h9 => fJ4_append_bf812_c (M15 (ml_fl 0 + 9) a0.toNatClampNeg) M15 rs hst h9) wcJ4_append_bf812 mlX6_245 wdJ4_append_bf812 (by decide) (by decide) (by decide) rfl seJ4_append_bf812 imJ4_append_bf812 rfl (Nat.le_of_ble_eq_true rfl) dX6_renderBoat_98 (fun r16 M17 h => ?_)
    refine ml_pop F dX6_renderBoat_101 rfl ?_
    refine ml_aload_n (q := 0) F dX6_renderBoat_102 rfl rfl ?_
    refine ml_get (v := ml_rf g 9) F (pc0 g) rfl iaX6 6 (by decide) lkX6_43 rfl rfl dX6_renderBoat_103 ?_
    refine ml_callV (av := []) (T := TJ4) (N := 4) F (pc9 g) rfl h (fun rs h9 => fJ4_length_8abf5_c M17 rs hst h9) wcJ4_length_8abf5 mlX6_248 wdJ4_length_8abf5 (by decide) (by decide) (by decide) rfl seJ4_length_8abf5 imJ4_length_8abf5 rfl (Nat.le_of_ble_eq_true rfl) dX6_renderBoat_106 (fun r18 M19 h => ?_)
    exact ml_iret (st := []) F (Option.some.inj h) rfl rfl rfl (by decide) (by decide) dX6_renderBoat_109
  refine ml_if_eq (tgt := 76) F dX6_renderBoat_68 (by decide) h (fun _ h => ?_) (fun _ h => ?_)
  · refine ml_bipush (v := 94) F dX6_renderBoat_76 (by decide) ?_
    exact ml_sub [0, 1] rfl (jn13 _ h)
  · refine ml_bipush (v := 118) F dX6_renderBoat_71 (by decide) ?_
    refine ml_goto (tgt := 78) F dX6_renderBoat_73 (by decide) ?_
    exact ml_sub [0, 1] rfl (jn13 _ h)
set_option maxRecDepth 100000 in
def fX6_outputAt (a0 : Int32) (M : ml_M) : Option ml_R :=
  (if a0 < 0 then some (.inr 1, M) else ml_bd (fJ4_length_8abf5 M) (fun r1 M2 => (if a0 < r1 then ml_bd (fJ4_charAt_5068e a0 M2) (fun r3 M4 => if narrow .char (.int r3) = .int r3 then some (.inl r3, M4) else none) else some (.inr 1, M2))))
set_option maxHeartbeats 4000000 in
set_option maxRecDepth 100000 in
theorem fX6_outputAt_c (a0 : Int32) (M : ml_M) (res : ml_R) {g : ml_G} (hst : g.2.2.2.2.2.stackTraces = false) (h : fX6_outputAt a0 M = some res) : ml_C yX6_outputAt cX6_outputAt 2 (some .char) 5 1 6 g (fun r _ => some (.int r)) [ml_rf g 0, .int a0] M res := by
  refine ml_of [(0, ml_rf g 0), (1, .int a0)] hst (by decide) (Nat.le_of_ble_eq_true rfl) rfl (fun E F => ?_)
  unfold fX6_outputAt at h
  refine ml_iload_n (q := 1) F dX6_outputAt_0 rfl rfl ?_
  refine ml_if_lt (tgt := 15) F dX6_outputAt_1 (by decide) h (fun _ h => ?_) (fun _ h => ?_)
  · exact ml_throw (text := "no such character of the output text") F (Option.some.inj h) ml_tw1 (by decide +kernel) (Nat.le_of_ble_eq_true rfl) (by decide) (by decide) dX6_outputAt_15 dX6_outputAt_18 dX6_outputAt_19 dX6_outputAt_21 dX6_outputAt_24
  · refine ml_iload_n (q := 1) F dX6_outputAt_4 rfl rfl ?_
    refine ml_aload_n (q := 0) F dX6_outputAt_5 rfl rfl ?_
    refine ml_get (v := ml_rf g 9) F (pc0 g) rfl iaX6 6 (by decide) lkX6_43 rfl rfl dX6_outputAt_6 ?_
    refine ml_callV (av := []) (T := TJ4) (N := 4) F (pc9 g) rfl h (fun rs h9 => fJ4_length_8abf5_c M rs hst h9) wcJ4_length_8abf5 mlX6_248 wdJ4_length_8abf5 (by decide) (by decide) (by decide) rfl seJ4_length_8abf5 imJ4_length_8abf5 rfl (Nat.le_of_ble_eq_true rfl) dX6_outputAt_9 (fun r1 M2 h => ?_)
    refine ml_icmp_lt (tgt := 25) F dX6_outputAt_12 (by decide) h (fun _ h => ?_) (fun _ h => ?_)
    · refine ml_aload_n (q := 0) F dX6_outputAt_25 rfl rfl ?_
      refine ml_get (v := ml_rf g 9) F (pc0 g) rfl iaX6 6 (by decide) lkX6_43 rfl rfl dX6_outputAt_26 ?_
      refine ml_iload_n (q := 1) F dX6_outputAt_29 rfl rfl ?_
      refine ml_callV (av := [.int a0]) (T := TJ4) (N := 4) F (pc9 g) rfl h (fun rs h9 => fJ4_charAt_5068e_c a0 M2 rs hst h9) wcJ4_charAt_5068e mlX6_256 wdJ4_charAt_5068e (by decide) (by decide) (by decide) rfl seJ4_charAt_5068e imJ4_charAt_5068e rfl (Nat.le_of_ble_eq_true rfl) dX6_outputAt_30 (fun r3 M4 h => ?_)
      obtain ⟨q5, h⟩ := ml_if h
      exact ml_iret (st := []) F (Option.some.inj h) rfl rfl q5 (by decide) (by decide) dX6_outputAt_33
    · exact ml_throw (text := "no such character of the output text") F (Option.some.inj h) ml_tw1 (by decide +kernel) (Nat.le_of_ble_eq_true rfl) (by decide) (by decide) dX6_outputAt_15 dX6_outputAt_18 dX6_outputAt_19 dX6_outputAt_21 dX6_outputAt_24
set_option maxRecDepth 100000 in
def fX4_readWord_s0 (q : Nat) (rec : Int32 → ml_M → Option ml_R) (x2 : Int32) (M : ml_M) : Option ml_R :=
  ml_bd (fJ0_length_8abf5 q M) (fun r1 M2 => (if r1 ≤ x2 then some (.inl 1, M2) else (if (M2 3 1) ≤ (M2 3 2) then some (.inl 0, M2) else if ml_ok (M2 3 2) 60 then ml_bd (fJ0_charAt_5068e q x2 M2) (fun r3 M4 => (if (M2 4 (M2 3 2).toNatClampNeg) = r3 then ml_lt (ml_w M4 3 2 ((M4 3 2) + 1)) (fun M5 => rec (x2 + 1) M5) else some (.inl 0, M4))) else none)))
def fX4_readWord_l (q : Nat) : Nat → Int32 → ml_M → Option ml_R
  | 0 => fun _ _ => none
  | n + 1 => fX4_readWord_s0 q (fX4_readWord_l q n)
set_option maxHeartbeats 4000000 in
set_option maxRecDepth 100000 in
theorem fX4_readWord_w (q : Nat) (hq : q < 12) {E : ml_E} {g : ml_G} {res : ml_R} (F : ml_F E g cX4_readWord yX4_readWord.cls 3 5 0 0 (some .boolean) []) : ∀ fuel : Nat, ∀ (x2 : Int32) (M : ml_M), fX4_readWord_l q fuel x2 M = some res → ml_J E g 3 (ml_Z E g (fun r _ => some (.int r)) res 0 0) 0 0 2 [(0, ml_rf g 3), (1, .ref (g.2.2.2.2.1 (10 + q))), (2, .int x2)] [] M := by
  have hst := ml_F_st F
  intro fuel
  induction fuel with
  | zero => intro _ _ h; exact nomatch (show (none : Option ml_R) = some res from h)
  | succ fuel ih =>
    intro x2 M h
    replace h : fX4_readWord_s0 q (fX4_readWord_l q fuel) x2 M = some res := h
    unfold fX4_readWord_s0 at h
    refine ml_iload_n (q := 2) F dX4_readWord_2 rfl rfl ?_
    refine ml_aload_n (q := 1) F dX4_readWord_3 rfl rfl ?_
    refine ml_callT (q8 := q) (av := []) F hq rfl h (fun rs h9 => fJ0_length_8abf5_c q M rs hq hst h9) wcJ0_length_8abf5 mlX4_89 wdJ0_length_8abf5 (by decide) (by decide) (by decide) rfl seJ0_length_8abf5 imJ0_length_8abf5 rfl (Nat.le_of_ble_eq_true rfl) dX4_readWord_4 (fun r1 M2 h => ?_)
    refine ml_icmp_ge (tgt := 56) F dX4_readWord_7 (by decide) h (fun _ h => ?_) (fun _ h => ?_)
    · refine ml_iconst (v := 1) F dX4_readWord_56 (by decide) ?_
      exact ml_iret (st := []) F (Option.some.inj h) rfl rfl (by decide) (by decide) (by decide) dX4_readWord_57
    · refine ml_aload_n (q := 0) F dX4_readWord_10 rfl rfl ?_
      refine ml_get (v := .int (M2 3 2)) F (pc3 g) rfl iaX4 2 (by decide) lkX4_19 rfl rfl dX4_readWord_11 ?_
      refine ml_aload_n (q := 0) F dX4_readWord_14 rfl rfl ?_
      refine ml_get (v := .int (M2 3 1)) F (pc3 g) rfl iaX4 1 (by decide) lkX4_15 rfl rfl dX4_readWord_15 ?_
      refine ml_icmp_ge (tgt := 38) F dX4_readWord_18 (by decide) h (fun _ h => ?_) (fun _ h => ?_)
      · refine ml_iconst (v := 0) F dX4_readWord_38 (by decide) ?_
        exact ml_iret (st := []) F (Option.some.inj h) rfl rfl (by decide) (by decide) (by decide) dX4_readWord_39
      · refine ml_aload_n (q := 0) F dX4_readWord_21 rfl rfl ?_
        refine ml_get (v := ml_rf g 4) F (pc3 g) rfl iaX4 0 (by decide) lkX4_9 rfl rfl dX4_readWord_22 ?_
        refine ml_aload_n (q := 0) F dX4_readWord_25 rfl rfl ?_
        refine ml_get (v := .int (M2 3 2)) F (pc3 g) rfl iaX4 2 (by decide) lkX4_19 rfl rfl dX4_readWord_26 ?_
        refine ml_cald F (pc4 g) h dX4_readWord_29 (fun h => ?_)
        refine ml_aload_n (q := 1) F dX4_readWord_30 rfl rfl ?_
        refine ml_iload_n (q := 2) F dX4_readWord_31 rfl rfl ?_
        refine ml_callT (q8 := q) (av := [.int x2]) F hq rfl h (fun rs h9 => fJ0_charAt_5068e_c q x2 M2 rs hq hst h9) wcJ0_charAt_5068e mlX4_94 wdJ0_charAt_5068e (by decide) (by decide) (by decide) rfl seJ0_charAt_5068e imJ0_charAt_5068e rfl (Nat.le_of_ble_eq_true rfl) dX4_readWord_32 (fun r3 M4 h => ?_)
        refine ml_icmp_eq (tgt := 40) F dX4_readWord_35 (by decide) h (fun _ h => ?_) (fun _ h => ?_)
        · refine ml_aload_n (q := 0) F dX4_readWord_40 rfl rfl ?_
          refine ml_dup F dX4_readWord_41 rfl ?_
          refine ml_get (v := .int (M4 3 2)) F (pc3 g) rfl iaX4 2 (by decide) lkX4_19 rfl rfl dX4_readWord_42 ?_
          refine ml_iconst (v := 1) F dX4_readWord_45 (by decide) ?_
          refine ml_iadd F dX4_readWord_46 ?_
          refine ml_set F (pc3 g) rfl iaX4 tyX4_ok nmX4 2 (by decide) lkX4_19 rfl rfl rfl rfl rfl (Nat.le_of_ble_eq_true rfl) (fun m => by simp [upd]) dX4_readWord_47 ?_
          refine ml_ltM h (fun M5 _ h => ?_)
          refine ml_iinc (q := 2) (v := x2 + 1) (ls2 := [(2, .int (x2 + 1)), (0, ml_rf g 3), (1, .ref (g.2.2.2.2.1 (10 + q)))]) F dX4_readWord_50 rfl rfl (by decide) rfl ?_
          refine ml_goto (tgt := 2) F dX4_readWord_53 (by decide) ?_
          exact ml_sub [1, 2, 0] rfl (ih _ _ h)
        · refine ml_iconst (v := 0) F dX4_readWord_38 (by decide) ?_
          exact ml_iret (st := []) F (Option.some.inj h) rfl rfl (by decide) (by decide) (by decide) dX4_readWord_39
set_option maxRecDepth 100000 in
def fX4_readWord (q : Nat) (M : ml_M) : Option ml_R :=
  fX4_readWord_l q ml_fuel 0 M
set_option maxHeartbeats 4000000 in
set_option maxRecDepth 100000 in
theorem fX4_readWord_c (q : Nat) (M : ml_M) (res : ml_R) (hq : q < 12) {g : ml_G} (hst : g.2.2.2.2.2.stackTraces = false) (h : fX4_readWord q M = some res) : ml_C yX4_readWord cX4_readWord 3 (some .boolean) 5 0 0 g (fun r _ => some (.int r)) [ml_rf g 3, .ref (g.2.2.2.2.1 (10 + q))] M res := by
  refine ml_of [(0, ml_rf g 3), (1, .ref (g.2.2.2.2.1 (10 + q)))] hst (by decide) (Nat.le_of_ble_eq_true rfl) rfl (fun E F => ?_)
  unfold fX4_readWord at h
  refine ml_iconst (v := 0) F dX4_readWord_0 (by decide) ?_
  refine ml_istore_n (ls2 := [(2, .int 0), (0, ml_rf g 3), (1, .ref (g.2.2.2.2.1 (10 + q)))]) F dX4_readWord_1 rfl (by decide) rfl ?_
  exact ml_sub [1, 2, 0] rfl ((fX4_readWord_w q hq F ml_fuel) _ _ h)
set_option maxRecDepth 100000 in
def fX4_readOneOf (q : Nat) (M : ml_M) : Option ml_R :=
  (if (M 3 1) ≤ (M 3 2) then some (.inl 0, M) else if ml_ok (M 3 2) 60 then ml_bd (fJ0_indexOf_0f7a4 q (M 4 (M 3 2).toNatClampNeg) M) (fun r1 M2 => (if 0 ≤ r1 then if ml_ok (M2 3 2) 60 then if narrow .char (.int (M2 4 (M2 3 2).toNatClampNeg)) = .int (M2 4 (M2 3 2).toNatClampNeg) ∧ fits .char (.int (M2 4 (M2 3 2).toNatClampNeg)) = true then ml_lt (ml_w M2 3 3 (M2 4 (M2 3 2).toNatClampNeg)) (fun M4 => ml_lt (ml_w M4 3 2 ((M4 3 2) + 1)) (fun M5 => some (.inl 1, M5))) else none else none else some (.inl 0, M2))) else none)
set_option maxHeartbeats 4000000 in
set_option maxRecDepth 100000 in
theorem fX4_readOneOf_c (q : Nat) (M : ml_M) (res : ml_R) (hq : q < 12) {g : ml_G} (hst : g.2.2.2.2.2.stackTraces = false) (h : fX4_readOneOf q M = some res) : ml_C yX4_readOneOf cX4_readOneOf 2 (some .boolean) 5 0 0 g (fun r _ => some (.int r)) [ml_rf g 3, .ref (g.2.2.2.2.1 (10 + q))] M res := by
  refine ml_of [(0, ml_rf g 3), (1, .ref (g.2.2.2.2.1 (10 + q)))] hst (by decide) (Nat.le_of_ble_eq_true rfl) rfl (fun E F => ?_)
  unfold fX4_readOneOf at h
  refine ml_aload_n (q := 0) F dX4_readOneOf_0 rfl rfl ?_
  refine ml_get (v := .int (M 3 2)) F (pc3 g) rfl iaX4 2 (by decide) lkX4_19 rfl rfl dX4_readOneOf_1 ?_
  refine ml_aload_n (q := 0) F dX4_readOneOf_4 rfl rfl ?_
  refine ml_get (v := .int (M 3 1)) F (pc3 g) rfl iaX4 1 (by decide) lkX4_15 rfl rfl dX4_readOneOf_5 ?_
  refine ml_icmp_ge (tgt := 27) F dX4_readOneOf_8 (by decide) h (fun _ h => ?_) (fun _ h => ?_)
  · refine ml_iconst (v := 0) F dX4_readOneOf_27 (by decide) ?_
    exact ml_iret (st := []) F (Option.some.inj h) rfl rfl (by decide) (by decide) (by decide) dX4_readOneOf_28
  · refine ml_aload_n (q := 1) F dX4_readOneOf_11 rfl rfl ?_
    refine ml_aload_n (q := 0) F dX4_readOneOf_12 rfl rfl ?_
    refine ml_get (v := ml_rf g 4) F (pc3 g) rfl iaX4 0 (by decide) lkX4_9 rfl rfl dX4_readOneOf_13 ?_
    refine ml_aload_n (q := 0) F dX4_readOneOf_16 rfl rfl ?_
    refine ml_get (v := .int (M 3 2)) F (pc3 g) rfl iaX4 2 (by decide) lkX4_19 rfl rfl dX4_readOneOf_17 ?_
    refine ml_cald F (pc4 g) h dX4_readOneOf_20 (fun h => ?_)
    refine ml_callT (q8 := q) (av := [.int (M 4 (M 3 2).toNatClampNeg)]) F hq rfl h (fun rs h9 => fJ0_indexOf_0f7a4_c q (M 4 (M 3 2).toNatClampNeg) M rs hq hst h9) wcJ0_indexOf_0f7a4 mlX4_98 wdJ0_indexOf_0f7a4 (by decide) (by decide) (by decide) rfl seJ0_indexOf_0f7a4 imJ0_indexOf_0f7a4 rfl (Nat.le_of_ble_eq_true rfl) dX4_readOneOf_21 (fun r1 M2 h => ?_)
    refine ml_if_ge (tgt := 29) F dX4_readOneOf_24 (by decide) h (fun _ h => ?_) (fun _ h => ?_)
    · refine ml_aload_n (q := 0) F dX4_readOneOf_29 rfl rfl ?_
      refine ml_aload_n (q := 0) F dX4_readOneOf_30 rfl rfl ?_
      refine ml_get (v := ml_rf g 4) F (pc3 g) rfl iaX4 0 (by decide) lkX4_9 rfl rfl dX4_readOneOf_31 ?_
      refine ml_aload_n (q := 0) F dX4_readOneOf_34 rfl rfl ?_
      refine ml_get (v := .int (M2 3 2)) F (pc3 g) rfl iaX4 2 (by decide) lkX4_19 rfl rfl dX4_readOneOf_35 ?_
      refine ml_cald F (pc4 g) h dX4_readOneOf_38 (fun h => ?_)
      obtain ⟨q3, h⟩ := ml_if h
      refine ml_set F (pc3 g) rfl iaX4 tyX4_ok nmX4 3 (by decide) lkX4_22 rfl rfl rfl q3.1 q3.2 (Nat.le_of_ble_eq_true rfl) (fun m => by simp [upd]) dX4_readOneOf_39 ?_
      refine ml_ltM h (fun M4 _ h => ?_)
      refine ml_aload_n (q := 0) F dX4_readOneOf_42 rfl rfl ?_
      refine ml_dup F dX4_readOneOf_43 rfl ?_
      refine ml_get (v := .int (M4 3 2)) F (pc3 g) rfl iaX4 2 (by decide) lkX4_19 rfl rfl dX4_readOneOf_44 ?_
      refine ml_iconst (v := 1) F dX4_readOneOf_47 (by decide) ?_
      refine ml_iadd F dX4_readOneOf_48 ?_
      refine ml_set F (pc3 g) rfl iaX4 tyX4_ok nmX4 2 (by decide) lkX4_19 rfl rfl rfl rfl rfl (Nat.le_of_ble_eq_true rfl) (fun m => by simp [upd]) dX4_readOneOf_49 ?_
      refine ml_ltM h (fun M5 _ h => ?_)
      refine ml_iconst (v := 1) F dX4_readOneOf_52 (by decide) ?_
      exact ml_iret (st := []) F (Option.some.inj h) rfl rfl (by decide) (by decide) (by decide) dX4_readOneOf_53
    · refine ml_iconst (v := 0) F dX4_readOneOf_27 (by decide) ?_
      exact ml_iret (st := []) F (Option.some.inj h) rfl rfl (by decide) (by decide) (by decide) dX4_readOneOf_28
set_option maxRecDepth 100000 in
def fX4_readBoat (M : ml_M) : Option ml_R :=
  ml_bd (fX4_readWord 5 M) (fun r1 M2 => (if r1 = 0 then some (.inl 0, M2) else ml_bd (fX4_readOneOf 6 M2) (fun r3 M4 => (if r3 = 0 then some (.inl 0, M4) else if ml_ok (M4 3 4) 60 then ml_lt (ml_w M4 6 (M4 3 4).toNatClampNeg (M4 3 3)) (fun M5 => ml_bd (fX4_readOneOf 7 M5) (fun r6 M7 => (if r6 = 0 then some (.inl 0, M7) else if ml_ok (M7 3 4) 60 then ml_lt (ml_w M7 7 (M7 3 4).toNatClampNeg ((M7 3 3) - 48)) (fun M8 => ml_bd (fX4_readOneOf 8 M8) (fun r9 M10 => (if r9 = 0 then some (.inl 0, M10) else ml_bd (fX4_readOneOf 9 M10) (fun r11 M12 => (if r11 = 0 then some (.inl 0, M12) else ml_jn (fun (y13 : Int32) => if ml_ok (M12 3 4) 60 then ml_lt (ml_w M12 8 (M12 3 4).toNatClampNeg y13) (fun M16 => some (.inl 1, M16)) else none) (fun B14 => (if (M12 3 3) = 100 then B14 1 else B14 0))))))) else none))) else none))))
set_option maxHeartbeats 4000000 in
set_option maxRecDepth 100000 in
theorem fX4_readBoat_c (M : ml_M) (res : ml_R) {g : ml_G} (hst : g.2.2.2.2.2.stackTraces = false) (h : fX4_readBoat M = some res) : ml_C yX4_readBoat cX4_readBoat 1 (some .boolean) 6 0 0 g (fun r _ => some (.int r)) [ml_rf g 3] M res := by
  refine ml_of [(0, ml_rf g 3)] hst (by decide) (Nat.le_of_ble_eq_true rfl) rfl (fun E F => ?_)
  unfold fX4_readBoat at h
  refine ml_aload_n (q := 0) F dX4_readBoat_0 rfl rfl ?_
  refine ml_ldcS (i8 := 5) F rfl (by decide) dX4_readBoat_1 ?_
  refine ml_callV (av := [.ref (g.2.2.2.2.1 (10 + 5))]) (T := TX4) (N := 9) F (pc3 g) rfl h (fun rs h9 => fX4_readWord_c 5 M rs (by decide) hst h9) wcX4_readWord mlX4_60 wdX4_readWord (by decide) (by decide) (by decide) rfl seX4_readWord imX4_readWord rfl (Nat.le_of_ble_eq_true rfl) dX4_readBoat_3 (fun r1 M2 h => ?_)
  refine ml_if_eq (tgt := 18) F dX4_readBoat_6 (by decide) h (fun _ h => ?_) (fun _ h => ?_)
  · refine ml_iconst (v := 0) F dX4_readBoat_18 (by decide) ?_
    exact ml_iret (st := []) F (Option.some.inj h) rfl rfl (by decide) (by decide) (by decide) dX4_readBoat_19
  · refine ml_aload_n (q := 0) F dX4_readBoat_9 rfl rfl ?_
    refine ml_ldcS (i8 := 6) F rfl (by decide) dX4_readBoat_10 ?_
    refine ml_callV (av := [.ref (g.2.2.2.2.1 (10 + 6))]) (T := TX4) (N := 9) F (pc3 g) rfl h (fun rs h9 => fX4_readOneOf_c 6 M2 rs (by decide) hst h9) wcX4_readOneOf mlX4_48 wdX4_readOneOf (by decide) (by decide) (by decide) rfl seX4_readOneOf imX4_readOneOf rfl (Nat.le_of_ble_eq_true rfl) dX4_readBoat_12 (fun r3 M4 h => ?_)
    refine ml_if_ne (tgt := 20) F dX4_readBoat_15 (by decide) h (fun _ h => ?_) (fun _ h => ?_)
    · refine ml_aload_n (q := 0) F dX4_readBoat_20 rfl rfl ?_
      refine ml_get (v := ml_rf g 6) F (pc3 g) rfl iaX4 6 (by decide) lkX4_33 rfl rfl dX4_readBoat_21 ?_
      refine ml_aload_n (q := 0) F dX4_readBoat_24 rfl rfl ?_
      refine ml_get (v := .int (M4 3 4)) F (pc3 g) rfl iaX4 4 (by decide) lkX4_26 rfl rfl dX4_readBoat_25 ?_
      refine ml_aload_n (q := 0) F dX4_readBoat_28 rfl rfl ?_
      refine ml_get (v := .int (M4 3 3)) F (pc3 g) rfl iaX4 3 (by decide) lkX4_22 rfl rfl dX4_readBoat_29 ?_
      refine ml_iast F (pc6 g) h dX4_readBoat_32 (fun h => ?_)
      refine ml_ltM h (fun M5 _ h => ?_)
      refine ml_aload_n (q := 0) F dX4_readBoat_33 rfl rfl ?_
      refine ml_ldcS (i8 := 7) F rfl (by decide) dX4_readBoat_34 ?_
      refine ml_callV (av := [.ref (g.2.2.2.2.1 (10 + 7))]) (T := TX4) (N := 9) F (pc3 g) rfl h (fun rs h9 => fX4_readOneOf_c 7 M5 rs (by decide) hst h9) wcX4_readOneOf mlX4_48 wdX4_readOneOf (by decide) (by decide) (by decide) rfl seX4_readOneOf imX4_readOneOf rfl (Nat.le_of_ble_eq_true rfl) dX4_readBoat_36 (fun r6 M7 h => ?_)
      refine ml_if_ne (tgt := 44) F dX4_readBoat_39 (by decide) h (fun _ h => ?_) (fun _ h => ?_)
      · refine ml_aload_n (q := 0) F dX4_readBoat_44 rfl rfl ?_
        refine ml_get (v := ml_rf g 7) F (pc3 g) rfl iaX4 7 (by decide) lkX4_36 rfl rfl dX4_readBoat_45 ?_
        refine ml_aload_n (q := 0) F dX4_readBoat_48 rfl rfl ?_
        refine ml_get (v := .int (M7 3 4)) F (pc3 g) rfl iaX4 4 (by decide) lkX4_26 rfl rfl dX4_readBoat_49 ?_
        refine ml_aload_n (q := 0) F dX4_readBoat_52 rfl rfl ?_
        refine ml_get (v := .int (M7 3 3)) F (pc3 g) rfl iaX4 3 (by decide) lkX4_22 rfl rfl dX4_readBoat_53 ?_
        refine ml_bipush (v := 48) F dX4_readBoat_56 (by decide) ?_
        refine ml_isub F dX4_readBoat_58 ?_
        refine ml_iast F (pc7 g) h dX4_readBoat_59 (fun h => ?_)
        refine ml_ltM h (fun M8 _ h => ?_)
        refine ml_aload_n (q := 0) F dX4_readBoat_60 rfl rfl ?_
        refine ml_ldcS (i8 := 8) F rfl (by decide) dX4_readBoat_61 ?_
        refine ml_callV (av := [.ref (g.2.2.2.2.1 (10 + 8))]) (T := TX4) (N := 9) F (pc3 g) rfl h (fun rs h9 => fX4_readOneOf_c 8 M8 rs (by decide) hst h9) wcX4_readOneOf mlX4_48 wdX4_readOneOf (by decide) (by decide) (by decide) rfl seX4_readOneOf imX4_readOneOf rfl (Nat.le_of_ble_eq_true rfl) dX4_readBoat_63 (fun r9 M10 h => ?_)
        refine ml_if_eq (tgt := 78) F dX4_readBoat_66 (by decide) h (fun _ h => ?_) (fun _ h => ?_)
        · refine ml_iconst (v := 0) F dX4_readBoat_78 (by decide) ?_
          exact ml_iret (st := []) F (Option.some.inj h) rfl rfl (by decide) (by decide) (by decide) dX4_readBoat_79
        · refine ml_aload_n (q := 0) F dX4_readBoat_69 rfl rfl ?_
          refine ml_ldcS (i8 := 9) F rfl (by decide) dX4_readBoat_70 ?_
          refine ml_callV (av := [.ref (g.2.2.2.2.1 (10 + 9))]) (T := TX4) (N := 9) F (pc3 g) rfl h (fun rs h9 => fX4_readOneOf_c 9 M10 rs (by decide) hst h9) wcX4_readOneOf mlX4_48 wdX4_readOneOf (by decide) (by decide) (by decide) rfl seX4_readOneOf imX4_readOneOf rfl (Nat.le_of_ble_eq_true rfl) dX4_readBoat_72 (fun r11 M12 h => ?_)
          refine ml_if_ne (tgt := 80) F dX4_readBoat_75 (by decide) h (fun _ h => ?_) (fun _ h => ?_)
          · refine ml_aload_n (q := 0) F dX4_readBoat_80 rfl rfl ?_
            refine ml_get (v := ml_rf g 8) F (pc3 g) rfl iaX4 8 (by decide) lkX4_39 rfl rfl dX4_readBoat_81 ?_
            refine ml_aload_n (q := 0) F dX4_readBoat_84 rfl rfl ?_
            refine ml_get (v := .int (M12 3 4)) F (pc3 g) rfl iaX4 4 (by decide) lkX4_26 rfl rfl dX4_readBoat_85 ?_
            refine ml_aload_n (q := 0) F dX4_readBoat_88 rfl rfl ?_
            refine ml_get (v := .int (M12 3 3)) F (pc3 g) rfl iaX4 3 (by decide) lkX4_22 rfl rfl dX4_readBoat_89 ?_
            refine ml_bipush (v := 100) F dX4_readBoat_92 (by decide) ?_
            refine ml_jnR (P := fun B => ∀ (y13 : Int32), B y13 = some res → ml_J E g 1 (ml_Z E g (fun r _ => some (.int r)) res 0 0) (0 + 0 + 0 + 0 + 0 + 0) (0 + 0 + 0 + 0 + 0 + 0) 102 [(0, ml_rf g 3)] (.int y13 :: .int (M12 3 4) :: ml_rf g 8 :: []) M12) h ?_ (fun jn15 h => ?_)
            · intro y13 h
              dsimp only at h
              refine ml_iast F (pc8 g) h dX4_readBoat_102 (fun h => ?_)
              refine ml_ltM h (fun M16 _ h => ?_)
              refine ml_iconst (v := 1) F dX4_readBoat_103 (by decide) ?_
              exact ml_iret (st := []) F (Option.some.inj h) rfl rfl (by decide) (by decide) (by decide) dX4_readBoat_104
            refine ml_icmp_ne (tgt := 101) F dX4_readBoat_94 (by decide) h (fun _ h => ?_) (fun _ h => ?_)
            · refine ml_iconst (v := 0) F dX4_readBoat_101 (by decide) ?_
              exact ml_sub [0] rfl (jn15 _ h)
            · refine ml_iconst (v := 1) F dX4_readBoat_97 (by decide) ?_
              refine ml_goto (tgt := 102) F dX4_readBoat_98 (by decide) ?_
              exact ml_sub [0] rfl (jn15 _ h)
          · refine ml_iconst (v := 0) F dX4_readBoat_78 (by decide) ?_
            exact ml_iret (st := []) F (Option.some.inj h) rfl rfl (by decide) (by decide) (by decide) dX4_readBoat_79
      · refine ml_iconst (v := 0) F dX4_readBoat_42 (by decide) ?_
        exact ml_iret (st := []) F (Option.some.inj h) rfl rfl (by decide) (by decide) (by decide) dX4_readBoat_43
    · refine ml_iconst (v := 0) F dX4_readBoat_18 (by decide) ?_
      exact ml_iret (st := []) F (Option.some.inj h) rfl rfl (by decide) (by decide) (by decide) dX4_readBoat_19
set_option maxRecDepth 100000 in
def fX4_readFirst (M : ml_M) : Option ml_R :=
  ml_bd (fX4_readOneOf 7 M) (fun r1 M2 => (if r1 = 0 then some (.inl 0, M2) else if ml_ok (M2 3 4) 60 then ml_lt (ml_w M2 6 (M2 3 4).toNatClampNeg ((M2 3 3) - 48)) (fun M3 => some (.inl 1, M3)) else none))
set_option maxHeartbeats 4000000 in
set_option maxRecDepth 100000 in
theorem fX4_readFirst_c (M : ml_M) (res : ml_R) {g : ml_G} (hst : g.2.2.2.2.2.stackTraces = false) (h : fX4_readFirst M = some res) : ml_C yX4_readFirst cX4_readFirst 1 (some .boolean) 6 0 0 g (fun r _ => some (.int r)) [ml_rf g 3] M res := by
  refine ml_of [(0, ml_rf g 3)] hst (by decide) (Nat.le_of_ble_eq_true rfl) rfl (fun E F => ?_)
  unfold fX4_readFirst at h
  refine ml_aload_n (q := 0) F dX4_readFirst_0 rfl rfl ?_
  refine ml_ldcS (i8 := 7) F rfl (by decide) dX4_readFirst_1 ?_
  refine ml_callV (av := [.ref (g.2.2.2.2.1 (10 + 7))]) (T := TX4) (N := 9) F (pc3 g) rfl h (fun rs h9 => fX4_readOneOf_c 7 M rs (by decide) hst h9) wcX4_readOneOf mlX4_48 wdX4_readOneOf (by decide) (by decide) (by decide) rfl seX4_readOneOf imX4_readOneOf rfl (Nat.le_of_ble_eq_true rfl) dX4_readFirst_3 (fun r1 M2 h => ?_)
  refine ml_if_ne (tgt := 11) F dX4_readFirst_6 (by decide) h (fun _ h => ?_) (fun _ h => ?_)
  · refine ml_aload_n (q := 0) F dX4_readFirst_11 rfl rfl ?_
    refine ml_get (v := ml_rf g 6) F (pc3 g) rfl iaX4 6 (by decide) lkX4_33 rfl rfl dX4_readFirst_12 ?_
    refine ml_aload_n (q := 0) F dX4_readFirst_15 rfl rfl ?_
    refine ml_get (v := .int (M2 3 4)) F (pc3 g) rfl iaX4 4 (by decide) lkX4_26 rfl rfl dX4_readFirst_16 ?_
    refine ml_aload_n (q := 0) F dX4_readFirst_19 rfl rfl ?_
    refine ml_get (v := .int (M2 3 3)) F (pc3 g) rfl iaX4 3 (by decide) lkX4_22 rfl rfl dX4_readFirst_20 ?_
    refine ml_bipush (v := 48) F dX4_readFirst_23 (by decide) ?_
    refine ml_isub F dX4_readFirst_25 ?_
    refine ml_iast F (pc6 g) h dX4_readFirst_26 (fun h => ?_)
    refine ml_ltM h (fun M3 _ h => ?_)
    refine ml_iconst (v := 1) F dX4_readFirst_27 (by decide) ?_
    exact ml_iret (st := []) F (Option.some.inj h) rfl rfl (by decide) (by decide) (by decide) dX4_readFirst_28
  · refine ml_iconst (v := 0) F dX4_readFirst_9 (by decide) ?_
    exact ml_iret (st := []) F (Option.some.inj h) rfl rfl (by decide) (by decide) (by decide) dX4_readFirst_10
set_option maxRecDepth 100000 in
def fX4_readValve (M : ml_M) : Option ml_R :=
  ml_bd (fX4_readWord 10 M) (fun r1 M2 => (if r1 = 0 then some (.inl 0, M2) else ml_bd (fX4_readFirst M2) (fun r3 M4 => (if r3 = 0 then some (.inl 0, M4) else ml_bd (fX4_readOneOf 8 M4) (fun r5 M6 => (if r5 = 0 then some (.inl 0, M6) else ml_bd (fX4_readOneOf 7 M6) (fun r7 M8 => (if r7 = 0 then some (.inl 0, M8) else if ml_ok (M8 3 4) 60 then ml_lt (ml_w M8 7 (M8 3 4).toNatClampNeg ((M8 3 3) - 48)) (fun M9 => some (.inl 1, M9)) else none))))))))
set_option maxHeartbeats 4000000 in
set_option maxRecDepth 100000 in
theorem fX4_readValve_c (M : ml_M) (res : ml_R) {g : ml_G} (hst : g.2.2.2.2.2.stackTraces = false) (h : fX4_readValve M = some res) : ml_C yX4_readValve cX4_readValve 1 (some .boolean) 7 0 0 g (fun r _ => some (.int r)) [ml_rf g 3] M res := by
  refine ml_of [(0, ml_rf g 3)] hst (by decide) (Nat.le_of_ble_eq_true rfl) rfl (fun E F => ?_)
  unfold fX4_readValve at h
  refine ml_aload_n (q := 0) F dX4_readValve_0 rfl rfl ?_
  refine ml_ldcS (i8 := 10) F rfl (by decide) dX4_readValve_1 ?_
  refine ml_callV (av := [.ref (g.2.2.2.2.1 (10 + 10))]) (T := TX4) (N := 9) F (pc3 g) rfl h (fun rs h9 => fX4_readWord_c 10 M rs (by decide) hst h9) wcX4_readWord mlX4_60 wdX4_readWord (by decide) (by decide) (by decide) rfl seX4_readWord imX4_readWord rfl (Nat.le_of_ble_eq_true rfl) dX4_readValve_3 (fun r1 M2 h => ?_)
  refine ml_if_eq (tgt := 34) F dX4_readValve_6 (by decide) h (fun _ h => ?_) (fun _ h => ?_)
  · refine ml_iconst (v := 0) F dX4_readValve_34 (by decide) ?_
    exact ml_iret (st := []) F (Option.some.inj h) rfl rfl (by decide) (by decide) (by decide) dX4_readValve_35
  · refine ml_aload_n (q := 0) F dX4_readValve_9 rfl rfl ?_
    refine ml_callV (av := []) (T := TX4) (N := 9) F (pc3 g) rfl h (fun rs h9 => fX4_readFirst_c M2 rs hst h9) wcX4_readFirst mlX4_63 wdX4_readFirst (by decide) (by decide) (by decide) rfl seX4_readFirst imX4_readFirst rfl (Nat.le_of_ble_eq_true rfl) dX4_readValve_10 (fun r3 M4 h => ?_)
    refine ml_if_eq (tgt := 34) F dX4_readValve_13 (by decide) h (fun _ h => ?_) (fun _ h => ?_)
    · refine ml_iconst (v := 0) F dX4_readValve_34 (by decide) ?_
      exact ml_iret (st := []) F (Option.some.inj h) rfl rfl (by decide) (by decide) (by decide) dX4_readValve_35
    · refine ml_aload_n (q := 0) F dX4_readValve_16 rfl rfl ?_
      refine ml_ldcS (i8 := 8) F rfl (by decide) dX4_readValve_17 ?_
      refine ml_callV (av := [.ref (g.2.2.2.2.1 (10 + 8))]) (T := TX4) (N := 9) F (pc3 g) rfl h (fun rs h9 => fX4_readOneOf_c 8 M4 rs (by decide) hst h9) wcX4_readOneOf mlX4_48 wdX4_readOneOf (by decide) (by decide) (by decide) rfl seX4_readOneOf imX4_readOneOf rfl (Nat.le_of_ble_eq_true rfl) dX4_readValve_19 (fun r5 M6 h => ?_)
      refine ml_if_eq (tgt := 34) F dX4_readValve_22 (by decide) h (fun _ h => ?_) (fun _ h => ?_)
      · refine ml_iconst (v := 0) F dX4_readValve_34 (by decide) ?_
        exact ml_iret (st := []) F (Option.some.inj h) rfl rfl (by decide) (by decide) (by decide) dX4_readValve_35
      · refine ml_aload_n (q := 0) F dX4_readValve_25 rfl rfl ?_
        refine ml_ldcS (i8 := 7) F rfl (by decide) dX4_readValve_26 ?_
        refine ml_callV (av := [.ref (g.2.2.2.2.1 (10 + 7))]) (T := TX4) (N := 9) F (pc3 g) rfl h (fun rs h9 => fX4_readOneOf_c 7 M6 rs (by decide) hst h9) wcX4_readOneOf mlX4_48 wdX4_readOneOf (by decide) (by decide) (by decide) rfl seX4_readOneOf imX4_readOneOf rfl (Nat.le_of_ble_eq_true rfl) dX4_readValve_28 (fun r7 M8 h => ?_)
        refine ml_if_ne (tgt := 36) F dX4_readValve_31 (by decide) h (fun _ h => ?_) (fun _ h => ?_)
        · refine ml_aload_n (q := 0) F dX4_readValve_36 rfl rfl ?_
          refine ml_get (v := ml_rf g 7) F (pc3 g) rfl iaX4 7 (by decide) lkX4_36 rfl rfl dX4_readValve_37 ?_
          refine ml_aload_n (q := 0) F dX4_readValve_40 rfl rfl ?_
          refine ml_get (v := .int (M8 3 4)) F (pc3 g) rfl iaX4 4 (by decide) lkX4_26 rfl rfl dX4_readValve_41 ?_
          refine ml_aload_n (q := 0) F dX4_readValve_44 rfl rfl ?_
          refine ml_get (v := .int (M8 3 3)) F (pc3 g) rfl iaX4 3 (by decide) lkX4_22 rfl rfl dX4_readValve_45 ?_
          refine ml_bipush (v := 48) F dX4_readValve_48 (by decide) ?_
          refine ml_isub F dX4_readValve_50 ?_
          refine ml_iast F (pc7 g) h dX4_readValve_51 (fun h => ?_)
          refine ml_ltM h (fun M9 _ h => ?_)
          refine ml_iconst (v := 1) F dX4_readValve_52 (by decide) ?_
          exact ml_iret (st := []) F (Option.some.inj h) rfl rfl (by decide) (by decide) (by decide) dX4_readValve_53
        · refine ml_iconst (v := 0) F dX4_readValve_34 (by decide) ?_
          exact ml_iret (st := []) F (Option.some.inj h) rfl rfl (by decide) (by decide) (by decide) dX4_readValve_35
set_option maxRecDepth 100000 in
def fX4_readWait_s0 (rec : Int32 → ml_M → Option ml_R) (x1 : Int32) (M : ml_M) : Option ml_R :=
  ml_jn (fun (M1 : ml_M) => some (.inl 1, M1)) (fun B2 => (if 3 ≤ x1 then B2 M else ml_bd (fX4_readOneOf 7 M) (fun r4 M5 => (if r4 = 0 then B2 M5 else if ml_ok (M5 3 4) 60 then if ml_ok (M5 3 4) 60 then ml_lt (ml_w M5 6 (M5 3 4).toNatClampNeg (((10 * (M5 6 (M5 3 4).toNatClampNeg)) + (M5 3 3)) - 48)) (fun M6 => rec (x1 + 1) M6) else none else none))))
def fX4_readWait_l : Nat → Int32 → ml_M → Option ml_R
  | 0 => fun _ _ => none
  | n + 1 => fX4_readWait_s0 (fX4_readWait_l n)
set_option maxHeartbeats 4000000 in
set_option maxRecDepth 100000 in
theorem fX4_readWait_w {E : ml_E} {g : ml_G} {res : ml_R} (F : ml_F E g cX4_readWait yX4_readWait.cls 2 7 0 0 (some .boolean) []) : ∀ fuel : Nat, ∀ (x1 : Int32) (M : ml_M), fX4_readWait_l fuel x1 M = some res → ml_J E g 2 (ml_Z E g (fun r _ => some (.int r)) res 0 0) 0 0 43 [(0, ml_rf g 3), (1, .int x1)] [] M := by
  have hst := ml_F_st F
  intro fuel
  induction fuel with
  | zero => intro _ _ h; exact nomatch (show (none : Option ml_R) = some res from h)
  | succ fuel ih =>
    intro x1 M h
    replace h : fX4_readWait_s0 (fX4_readWait_l fuel) x1 M = some res := h
    unfold fX4_readWait_s0 at h
    refine ml_iload_n (q := 1) F dX4_readWait_43 rfl rfl ?_
    refine ml_iconst (v := 3) F dX4_readWait_44 (by decide) ?_
    refine ml_jnR (P := fun B => ∀ (M1 : ml_M), B M1 = some res → ml_J E g 2 (ml_Z E g (fun r _ => some (.int r)) res 0 0) (0) (0) 92 [(0, ml_rf g 3), (1, .int x1)] ([]) M1) h ?_ (fun jn3 h => ?_)
    · intro M1 h
      dsimp only at h
      refine ml_iconst (v := 1) F dX4_readWait_92 (by decide) ?_
      exact ml_iret (st := []) F (Option.some.inj h) rfl rfl (by decide) (by decide) (by decide) dX4_readWait_93
    refine ml_icmp_ge (tgt := 92) F dX4_readWait_45 (by decide) h (fun _ h => ?_) (fun _ h => ?_)
    · exact ml_sub [0, 1] rfl (jn3 _ h)
    · refine ml_aload_n (q := 0) F dX4_readWait_48 rfl rfl ?_
      refine ml_ldcS (i8 := 7) F rfl (by decide) dX4_readWait_49 ?_
      refine ml_callV (av := [.ref (g.2.2.2.2.1 (10 + 7))]) (T := TX4) (N := 9) F (pc3 g) rfl h (fun rs h9 => fX4_readOneOf_c 7 M rs (by decide) hst h9) wcX4_readOneOf mlX4_48 wdX4_readOneOf (by decide) (by decide) (by decide) rfl seX4_readOneOf imX4_readOneOf rfl (Nat.le_of_ble_eq_true rfl) dX4_readWait_51 (fun r4 M5 h => ?_)
      refine ml_if_eq (tgt := 92) F dX4_readWait_54 (by decide) h (fun _ h => ?_) (fun _ h => ?_)
      · exact ml_sub [0, 1] rfl (jn3 _ h)
      · refine ml_aload_n (q := 0) F dX4_readWait_57 rfl rfl ?_
        refine ml_get (v := ml_rf g 6) F (pc3 g) rfl iaX4 6 (by decide) lkX4_33 rfl rfl dX4_readWait_58 ?_
        refine ml_aload_n (q := 0) F dX4_readWait_61 rfl rfl ?_
        refine ml_get (v := .int (M5 3 4)) F (pc3 g) rfl iaX4 4 (by decide) lkX4_26 rfl rfl dX4_readWait_62 ?_
        refine ml_bipush (v := 10) F dX4_readWait_65 (by decide) ?_
        refine ml_aload_n (q := 0) F dX4_readWait_67 rfl rfl ?_
        refine ml_get (v := ml_rf g 6) F (pc3 g) rfl iaX4 6 (by decide) lkX4_33 rfl rfl dX4_readWait_68 ?_
        refine ml_aload_n (q := 0) F dX4_readWait_71 rfl rfl ?_
        refine ml_get (v := .int (M5 3 4)) F (pc3 g) rfl iaX4 4 (by decide) lkX4_26 rfl rfl dX4_readWait_72 ?_
        refine ml_iald F (pc6 g) h dX4_readWait_75 (fun h => ?_)
        refine ml_imul F dX4_readWait_76 ?_
        refine ml_aload_n (q := 0) F dX4_readWait_77 rfl rfl ?_
        refine ml_get (v := .int (M5 3 3)) F (pc3 g) rfl iaX4 3 (by decide) lkX4_22 rfl rfl dX4_readWait_78 ?_
        refine ml_iadd F dX4_readWait_81 ?_
        refine ml_bipush (v := 48) F dX4_readWait_82 (by decide) ?_
        refine ml_isub F dX4_readWait_84 ?_
        refine ml_iast F (pc6 g) h dX4_readWait_85 (fun h => ?_)
        refine ml_ltM h (fun M6 _ h => ?_)
        refine ml_iinc (q := 1) (v := x1 + 1) (ls2 := [(1, .int (x1 + 1)), (0, ml_rf g 3)]) F dX4_readWait_86 rfl rfl (by decide) rfl ?_
        refine ml_goto (tgt := 43) F dX4_readWait_89 (by decide) ?_
        exact ml_sub [1, 0] rfl (ih _ _ h)
set_option maxRecDepth 100000 in
def fX4_readWait (M : ml_M) : Option ml_R :=
  ml_bd (fX4_readWord 11 M) (fun r1 M2 => (if r1 = 0 then some (.inl 0, M2) else if ml_ok (M2 3 4) 60 then ml_lt (ml_w M2 6 (M2 3 4).toNatClampNeg 1) (fun M3 => ml_bd (fX4_readOneOf 8 M3) (fun r4 M5 => (if r4 = 0 then some (.inl 1, M5) else ml_bd (fX4_readFirst M5) (fun r6 M7 => (if r6 = 0 then some (.inl 0, M7) else fX4_readWait_l ml_fuel 1 M7))))) else none))
set_option maxHeartbeats 4000000 in
set_option maxRecDepth 100000 in
theorem fX4_readWait_c (M : ml_M) (res : ml_R) {g : ml_G} (hst : g.2.2.2.2.2.stackTraces = false) (h : fX4_readWait M = some res) : ml_C yX4_readWait cX4_readWait 2 (some .boolean) 7 0 0 g (fun r _ => some (.int r)) [ml_rf g 3] M res := by
  refine ml_of [(0, ml_rf g 3)] hst (by decide) (Nat.le_of_ble_eq_true rfl) rfl (fun E F => ?_)
  unfold fX4_readWait at h
  refine ml_aload_n (q := 0) F dX4_readWait_0 rfl rfl ?_
  refine ml_ldcS (i8 := 11) F rfl (by decide) dX4_readWait_1 ?_
  refine ml_callV (av := [.ref (g.2.2.2.2.1 (10 + 11))]) (T := TX4) (N := 9) F (pc3 g) rfl h (fun rs h9 => fX4_readWord_c 11 M rs (by decide) hst h9) wcX4_readWord mlX4_60 wdX4_readWord (by decide) (by decide) (by decide) rfl seX4_readWord imX4_readWord rfl (Nat.le_of_ble_eq_true rfl) dX4_readWait_3 (fun r1 M2 h => ?_)
  refine ml_if_ne (tgt := 11) F dX4_readWait_6 (by decide) h (fun _ h => ?_) (fun _ h => ?_)
  · refine ml_aload_n (q := 0) F dX4_readWait_11 rfl rfl ?_
    refine ml_get (v := ml_rf g 6) F (pc3 g) rfl iaX4 6 (by decide) lkX4_33 rfl rfl dX4_readWait_12 ?_
    refine ml_aload_n (q := 0) F dX4_readWait_15 rfl rfl ?_
    refine ml_get (v := .int (M2 3 4)) F (pc3 g) rfl iaX4 4 (by decide) lkX4_26 rfl rfl dX4_readWait_16 ?_
    refine ml_iconst (v := 1) F dX4_readWait_19 (by decide) ?_
    refine ml_iast F (pc6 g) h dX4_readWait_20 (fun h => ?_)
    refine ml_ltM h (fun M3 _ h => ?_)
    refine ml_aload_n (q := 0) F dX4_readWait_21 rfl rfl ?_
    refine ml_ldcS (i8 := 8) F rfl (by decide) dX4_readWait_22 ?_
    refine ml_callV (av := [.ref (g.2.2.2.2.1 (10 + 8))]) (T := TX4) (N := 9) F (pc3 g) rfl h (fun rs h9 => fX4_readOneOf_c 8 M3 rs (by decide) hst h9) wcX4_readOneOf mlX4_48 wdX4_readOneOf (by decide) (by decide) (by decide) rfl seX4_readOneOf imX4_readOneOf rfl (Nat.le_of_ble_eq_true rfl) dX4_readWait_24 (fun r4 M5 h => ?_)
    refine ml_if_ne (tgt := 32) F dX4_readWait_27 (by decide) h (fun _ h => ?_) (fun _ h => ?_)
    · refine ml_aload_n (q := 0) F dX4_readWait_32 rfl rfl ?_
      refine ml_callV (av := []) (T := TX4) (N := 9) F (pc3 g) rfl h (fun rs h9 => fX4_readFirst_c M5 rs hst h9) wcX4_readFirst mlX4_63 wdX4_readFirst (by decide) (by decide) (by decide) rfl seX4_readFirst imX4_readFirst rfl (Nat.le_of_ble_eq_true rfl) dX4_readWait_33 (fun r6 M7 h => ?_)
      refine ml_if_ne (tgt := 41) F dX4_readWait_36 (by decide) h (fun _ h => ?_) (fun _ h => ?_)
      · refine ml_iconst (v := 1) F dX4_readWait_41 (by decide) ?_
        refine ml_istore_n (ls2 := [(1, .int 1), (0, ml_rf g 3)]) F dX4_readWait_42 rfl (by decide) rfl ?_
        exact ml_sub [1, 0] rfl ((fX4_readWait_w F ml_fuel) _ _ h)
      · refine ml_iconst (v := 0) F dX4_readWait_39 (by decide) ?_
        exact ml_iret (st := []) F (Option.some.inj h) rfl rfl (by decide) (by decide) (by decide) dX4_readWait_40
    · refine ml_iconst (v := 1) F dX4_readWait_30 (by decide) ?_
      exact ml_iret (st := []) F (Option.some.inj h) rfl rfl (by decide) (by decide) (by decide) dX4_readWait_31
  · refine ml_iconst (v := 0) F dX4_readWait_9 (by decide) ?_
    exact ml_iret (st := []) F (Option.some.inj h) rfl rfl (by decide) (by decide) (by decide) dX4_readWait_10
set_option maxRecDepth 100000 in
def fX4_readCommand (M : ml_M) : Option ml_R :=
  (if (M 3 2) < (M 3 1) then if ml_ok (M 3 2) 60 then if ml_ok (M 3 4) 60 then ml_lt (ml_w M 5 (M 3 4).toNatClampNeg (M 4 (M 3 2).toNatClampNeg)) (fun M1 => if ml_ok (M1 3 4) 60 then ml_lt (M1 5 (M1 3 4).toNatClampNeg) (fun v2 => (if v2 = 98 then ml_bd (fX4_readBoat M1) (fun r4 M5 => if narrow .boolean (.int r4) = .int r4 then some (.inl r4, M5) else none) else (if v2 = 100 then ml_bd (fX4_readWord 4 M1) (fun r8 M9 => ml_jn (fun (y10 : Int32) (M11 : ml_M) => if narrow .boolean (.int y10) = .int y10 then some (.inl y10, M11) else none) (fun B12 => (if r8 = 0 then B12 0 M9 else ml_bd (fX4_readFirst M9) (fun r15 M16 => (if r15 = 0 then B12 0 M16 else B12 1 M16))))) else (if v2 = 111 then ml_bd (fX4_readWord 1 M1) (fun r18 M19 => ml_jn (fun (y20 : Int32) (M21 : ml_M) => if narrow .boolean (.int y20) = .int y20 then some (.inl y20, M21) else none) (fun B22 => (if r18 = 0 then B22 0 M19 else ml_bd (fX4_readFirst M19) (fun r25 M26 => (if r25 = 0 then B22 0 M26 else B22 1 M26))))) else (if v2 = 114 then ml_bd (fX4_readWord 3 M1) (fun r28 M29 => ml_jn (fun (y30 : Int32) (M31 : ml_M) => if narrow .boolean (.int y30) = .int y30 then some (.inl y30, M31) else none) (fun B32 => (if r28 = 0 then B32 0 M29 else ml_bd (fX4_readFirst M29) (fun r35 M36 => (if r35 = 0 then B32 0 M36 else B32 1 M36))))) else (if v2 = 115 then ml_bd (fX4_readWord 2 M1) (fun r38 M39 => ml_jn (fun (y40 : Int32) (M41 : ml_M) => if narrow .boolean (.int y40) = .int y40 then some (.inl y40, M41) else none) (fun B42 => (if r38 = 0 then B42 0 M39 else ml_bd (fX4_readFirst M39) (fun r45 M46 => (if r45 = 0 then B42 0 M46 else B42 1 M46))))) else (if v2 = 118 then ml_bd (fX4_readValve M1) (fun r48 M49 => if narrow .boolean (.int r48) = .int r48 then some (.inl r48, M49) else none) else (if v2 = 119 then ml_bd (fX4_readWait M1) (fun r52 M53 => if narrow .boolean (.int r52) = .int r52 then some (.inl r52, M53) else none) else (some (.inl 0, M1)))))))))) else none) else none else none else some (.inl 0, M))
set_option maxHeartbeats 4000000 in
set_option maxRecDepth 100000 in
theorem fX4_readCommand_c (M : ml_M) (res : ml_R) {g : ml_G} (hst : g.2.2.2.2.2.stackTraces = false) (h : fX4_readCommand M = some res) : ml_C yX4_readCommand cX4_readCommand 1 (some .boolean) 8 0 0 g (fun r _ => some (.int r)) [ml_rf g 3] M res := by
  refine ml_of [(0, ml_rf g 3)] hst (by decide) (Nat.le_of_ble_eq_true rfl) rfl (fun E F => ?_)
  unfold fX4_readCommand at h
  refine ml_aload_n (q := 0) F dX4_readCommand_0 rfl rfl ?_
  refine ml_get (v := .int (M 3 2)) F (pc3 g) rfl iaX4 2 (by decide) lkX4_19 rfl rfl dX4_readCommand_1 ?_
  refine ml_aload_n (q := 0) F dX4_readCommand_4 rfl rfl ?_
  refine ml_get (v := .int (M 3 1)) F (pc3 g) rfl iaX4 1 (by decide) lkX4_15 rfl rfl dX4_readCommand_5 ?_
  refine ml_icmp_lt (tgt := 13) F dX4_readCommand_8 (by decide) h (fun _ h => ?_) (fun _ h => ?_)
  · refine ml_aload_n (q := 0) F dX4_readCommand_13 rfl rfl ?_
    refine ml_get (v := ml_rf g 5) F (pc3 g) rfl iaX4 5 (by decide) lkX4_29 rfl rfl dX4_readCommand_14 ?_
    refine ml_aload_n (q := 0) F dX4_readCommand_17 rfl rfl ?_
    refine ml_get (v := .int (M 3 4)) F (pc3 g) rfl iaX4 4 (by decide) lkX4_26 rfl rfl dX4_readCommand_18 ?_
    refine ml_aload_n (q := 0) F dX4_readCommand_21 rfl rfl ?_
    refine ml_get (v := ml_rf g 4) F (pc3 g) rfl iaX4 0 (by decide) lkX4_9 rfl rfl dX4_readCommand_22 ?_
    refine ml_aload_n (q := 0) F dX4_readCommand_25 rfl rfl ?_
    refine ml_get (v := .int (M 3 2)) F (pc3 g) rfl iaX4 2 (by decide) lkX4_19 rfl rfl dX4_readCommand_26 ?_
    refine ml_cald F (pc4 g) h dX4_readCommand_29 (fun h => ?_)
    refine ml_iast F (pc5 g) h dX4_readCommand_30 (fun h => ?_)
    refine ml_ltM h (fun M1 _ h => ?_)
    refine ml_aload_n (q := 0) F dX4_readCommand_31 rfl rfl ?_
    refine ml_get (v := ml_rf g 5) F (pc3 g) rfl iaX4 5 (by decide) lkX4_29 rfl rfl dX4_readCommand_32 ?_
    refine ml_aload_n (q := 0) F dX4_readCommand_35 rfl rfl ?_
    refine ml_get (v := .int (M1 3 4)) F (pc3 g) rfl iaX4 4 (by decide) lkX4_26 rfl rfl dX4_readCommand_36 ?_
    refine ml_iald F (pc5 g) h dX4_readCommand_39 (fun h => ?_)
    refine ml_ltI h (fun v2 _ h => ?_)
    refine ml_ifc h (fun c3 h => ?_) (fun c3 h => ?_)
    · refine ml_tableIn (tgt := 144) F dX4_readCommand_40 (by rw [c3]; decide) (by rw [c3]; decide) (by rw [c3]; rfl) (by decide) ?_
      refine ml_aload_n (q := 0) F dX4_readCommand_144 rfl rfl ?_
      refine ml_callV (av := []) (T := TX4) (N := 9) F (pc3 g) rfl h (fun rs h9 => fX4_readBoat_c M1 rs hst h9) wcX4_readBoat mlX4_52 wdX4_readBoat (by decide) (by decide) (by decide) rfl seX4_readBoat imX4_readBoat rfl (Nat.le_of_ble_eq_true rfl) dX4_readCommand_145 (fun r4 M5 h => ?_)
      obtain ⟨q6, h⟩ := ml_if h
      exact ml_iret (st := []) F (Option.some.inj h) rfl rfl q6 (by decide) (by decide) dX4_readCommand_148
    refine ml_ifc h (fun c7 h => ?_) (fun c7 h => ?_)
    · refine ml_tableIn (tgt := 220) F dX4_readCommand_40 (by rw [c7]; decide) (by rw [c7]; decide) (by rw [c7]; rfl) (by decide) ?_
      refine ml_aload_n (q := 0) F dX4_readCommand_220 rfl rfl ?_
      refine ml_ldcS (i8 := 4) F rfl (by decide) dX4_readCommand_221 ?_
      refine ml_callV (av := [.ref (g.2.2.2.2.1 (10 + 4))]) (T := TX4) (N := 9) F (pc3 g) rfl h (fun rs h9 => fX4_readWord_c 4 M1 rs (by decide) hst h9) wcX4_readWord mlX4_60 wdX4_readWord (by decide) (by decide) (by decide) rfl seX4_readWord imX4_readWord rfl (Nat.le_of_ble_eq_true rfl) dX4_readCommand_223 (fun r8 M9 h => ?_)
      refine ml_jnR (P := fun B => ∀ (y10 : Int32) (M11 : ml_M), B y10 M11 = some res → ml_J E g 1 (ml_Z E g (fun r _ => some (.int r)) res 0 0) (0 + 0) (0 + 0) 241 [(0, ml_rf g 3)] (.int y10 :: []) M11) h ?_ (fun jn13 h => ?_)
      · intro y10 M11 h
        dsimp only at h
        obtain ⟨q14, h⟩ := ml_if h
        exact ml_iret (st := []) F (Option.some.inj h) rfl rfl q14 (by decide) (by decide) dX4_readCommand_241
      refine ml_if_eq (tgt := 240) F dX4_readCommand_226 (by decide) h (fun _ h => ?_) (fun _ h => ?_)
      · refine ml_iconst (v := 0) F dX4_readCommand_240 (by decide) ?_
        exact ml_sub [0] rfl (jn13 _ _ h)
      · refine ml_aload_n (q := 0) F dX4_readCommand_229 rfl rfl ?_
        refine ml_callV (av := []) (T := TX4) (N := 9) F (pc3 g) rfl h (fun rs h9 => fX4_readFirst_c M9 rs hst h9) wcX4_readFirst mlX4_63 wdX4_readFirst (by decide) (by decide) (by decide) rfl seX4_readFirst imX4_readFirst rfl (Nat.le_of_ble_eq_true rfl) dX4_readCommand_230 (fun r15 M16 h => ?_)
        refine ml_if_eq (tgt := 240) F dX4_readCommand_233 (by decide) h (fun _ h => ?_) (fun _ h => ?_)
        · refine ml_iconst (v := 0) F dX4_readCommand_240 (by decide) ?_
          exact ml_sub [0] rfl (jn13 _ _ h)
        · refine ml_iconst (v := 1) F dX4_readCommand_236 (by decide) ?_
          refine ml_goto (tgt := 241) F dX4_readCommand_237 (by decide) ?_
          exact ml_sub [0] rfl (jn13 _ _ h)
    refine ml_ifc h (fun c17 h => ?_) (fun c17 h => ?_)
    · refine ml_tableIn (tgt := 154) F dX4_readCommand_40 (by rw [c17]; decide) (by rw [c17]; decide) (by rw [c17]; rfl) (by decide) ?_
      refine ml_aload_n (q := 0) F dX4_readCommand_154 rfl rfl ?_
      refine ml_ldcS (i8 := 1) F rfl (by decide) dX4_readCommand_155 ?_
      refine ml_callV (av := [.ref (g.2.2.2.2.1 (10 + 1))]) (T := TX4) (N := 9) F (pc3 g) rfl h (fun rs h9 => fX4_readWord_c 1 M1 rs (by decide) hst h9) wcX4_readWord mlX4_60 wdX4_readWord (by decide) (by decide) (by decide) rfl seX4_readWord imX4_readWord rfl (Nat.le_of_ble_eq_true rfl) dX4_readCommand_157 (fun r18 M19 h => ?_)
      refine ml_jnR (P := fun B => ∀ (y20 : Int32) (M21 : ml_M), B y20 M21 = some res → ml_J E g 1 (ml_Z E g (fun r _ => some (.int r)) res 0 0) (0 + 0) (0 + 0) 175 [(0, ml_rf g 3)] (.int y20 :: []) M21) h ?_ (fun jn23 h => ?_)
      · intro y20 M21 h
        dsimp only at h
        obtain ⟨q24, h⟩ := ml_if h
        exact ml_iret (st := []) F (Option.some.inj h) rfl rfl q24 (by decide) (by decide) dX4_readCommand_175
      refine ml_if_eq (tgt := 174) F dX4_readCommand_160 (by decide) h (fun _ h => ?_) (fun _ h => ?_)
      · refine ml_iconst (v := 0) F dX4_readCommand_174 (by decide) ?_
        exact ml_sub [0] rfl (jn23 _ _ h)
      · refine ml_aload_n (q := 0) F dX4_readCommand_163 rfl rfl ?_
        refine ml_callV (av := []) (T := TX4) (N := 9) F (pc3 g) rfl h (fun rs h9 => fX4_readFirst_c M19 rs hst h9) wcX4_readFirst mlX4_63 wdX4_readFirst (by decide) (by decide) (by decide) rfl seX4_readFirst imX4_readFirst rfl (Nat.le_of_ble_eq_true rfl) dX4_readCommand_164 (fun r25 M26 h => ?_)
        refine ml_if_eq (tgt := 174) F dX4_readCommand_167 (by decide) h (fun _ h => ?_) (fun _ h => ?_)
        · refine ml_iconst (v := 0) F dX4_readCommand_174 (by decide) ?_
          exact ml_sub [0] rfl (jn23 _ _ h)
        · refine ml_iconst (v := 1) F dX4_readCommand_170 (by decide) ?_
          refine ml_goto (tgt := 175) F dX4_readCommand_171 (by decide) ?_
          exact ml_sub [0] rfl (jn23 _ _ h)
    refine ml_ifc h (fun c27 h => ?_) (fun c27 h => ?_)
    · refine ml_tableIn (tgt := 198) F dX4_readCommand_40 (by rw [c27]; decide) (by rw [c27]; decide) (by rw [c27]; rfl) (by decide) ?_
      refine ml_aload_n (q := 0) F dX4_readCommand_198 rfl rfl ?_
      refine ml_ldcS (i8 := 3) F rfl (by decide) dX4_readCommand_199 ?_
      refine ml_callV (av := [.ref (g.2.2.2.2.1 (10 + 3))]) (T := TX4) (N := 9) F (pc3 g) rfl h (fun rs h9 => fX4_readWord_c 3 M1 rs (by decide) hst h9) wcX4_readWord mlX4_60 wdX4_readWord (by decide) (by decide) (by decide) rfl seX4_readWord imX4_readWord rfl (Nat.le_of_ble_eq_true rfl) dX4_readCommand_201 (fun r28 M29 h => ?_)
      refine ml_jnR (P := fun B => ∀ (y30 : Int32) (M31 : ml_M), B y30 M31 = some res → ml_J E g 1 (ml_Z E g (fun r _ => some (.int r)) res 0 0) (0 + 0) (0 + 0) 219 [(0, ml_rf g 3)] (.int y30 :: []) M31) h ?_ (fun jn33 h => ?_)
      · intro y30 M31 h
        dsimp only at h
        obtain ⟨q34, h⟩ := ml_if h
        exact ml_iret (st := []) F (Option.some.inj h) rfl rfl q34 (by decide) (by decide) dX4_readCommand_219
      refine ml_if_eq (tgt := 218) F dX4_readCommand_204 (by decide) h (fun _ h => ?_) (fun _ h => ?_)
      · refine ml_iconst (v := 0) F dX4_readCommand_218 (by decide) ?_
        exact ml_sub [0] rfl (jn33 _ _ h)
      · refine ml_aload_n (q := 0) F dX4_readCommand_207 rfl rfl ?_
        refine ml_callV (av := []) (T := TX4) (N := 9) F (pc3 g) rfl h (fun rs h9 => fX4_readFirst_c M29 rs hst h9) wcX4_readFirst mlX4_63 wdX4_readFirst (by decide) (by decide) (by decide) rfl seX4_readFirst imX4_readFirst rfl (Nat.le_of_ble_eq_true rfl) dX4_readCommand_208 (fun r35 M36 h => ?_)
        refine ml_if_eq (tgt := 218) F dX4_readCommand_211 (by decide) h (fun _ h => ?_) (fun _ h => ?_)
        · refine ml_iconst (v := 0) F dX4_readCommand_218 (by decide) ?_
          exact ml_sub [0] rfl (jn33 _ _ h)
        · refine ml_iconst (v := 1) F dX4_readCommand_214 (by decide) ?_
          refine ml_goto (tgt := 219) F dX4_readCommand_215 (by decide) ?_
          exact ml_sub [0] rfl (jn33 _ _ h)
    refine ml_ifc h (fun c37 h => ?_) (fun c37 h => ?_)
    · refine ml_tableIn (tgt := 176) F dX4_readCommand_40 (by rw [c37]; decide) (by rw [c37]; decide) (by rw [c37]; rfl) (by decide) ?_
      refine ml_aload_n (q := 0) F dX4_readCommand_176 rfl rfl ?_
      refine ml_ldcS (i8 := 2) F rfl (by decide) dX4_readCommand_177 ?_
      refine ml_callV (av := [.ref (g.2.2.2.2.1 (10 + 2))]) (T := TX4) (N := 9) F (pc3 g) rfl h (fun rs h9 => fX4_readWord_c 2 M1 rs (by decide) hst h9) wcX4_readWord mlX4_60 wdX4_readWord (by decide) (by decide) (by decide) rfl seX4_readWord imX4_readWord rfl (Nat.le_of_ble_eq_true rfl) dX4_readCommand_179 (fun r38 M39 h => ?_)
      refine ml_jnR (P := fun B => ∀ (y40 : Int32) (M41 : ml_M), B y40 M41 = some res → ml_J E g 1 (ml_Z E g (fun r _ => some (.int r)) res 0 0) (0 + 0) (0 + 0) 197 [(0, ml_rf g 3)] (.int y40 :: []) M41) h ?_ (fun jn43 h => ?_)
      · intro y40 M41 h
        dsimp only at h
        obtain ⟨q44, h⟩ := ml_if h
        exact ml_iret (st := []) F (Option.some.inj h) rfl rfl q44 (by decide) (by decide) dX4_readCommand_197
      refine ml_if_eq (tgt := 196) F dX4_readCommand_182 (by decide) h (fun _ h => ?_) (fun _ h => ?_)
      · refine ml_iconst (v := 0) F dX4_readCommand_196 (by decide) ?_
        exact ml_sub [0] rfl (jn43 _ _ h)
      · refine ml_aload_n (q := 0) F dX4_readCommand_185 rfl rfl ?_
        refine ml_callV (av := []) (T := TX4) (N := 9) F (pc3 g) rfl h (fun rs h9 => fX4_readFirst_c M39 rs hst h9) wcX4_readFirst mlX4_63 wdX4_readFirst (by decide) (by decide) (by decide) rfl seX4_readFirst imX4_readFirst rfl (Nat.le_of_ble_eq_true rfl) dX4_readCommand_186 (fun r45 M46 h => ?_)
        refine ml_if_eq (tgt := 196) F dX4_readCommand_189 (by decide) h (fun _ h => ?_) (fun _ h => ?_)
        · refine ml_iconst (v := 0) F dX4_readCommand_196 (by decide) ?_
          exact ml_sub [0] rfl (jn43 _ _ h)
        · refine ml_iconst (v := 1) F dX4_readCommand_192 (by decide) ?_
          refine ml_goto (tgt := 197) F dX4_readCommand_193 (by decide) ?_
          exact ml_sub [0] rfl (jn43 _ _ h)
    refine ml_ifc h (fun c47 h => ?_) (fun c47 h => ?_)
    · refine ml_tableIn (tgt := 149) F dX4_readCommand_40 (by rw [c47]; decide) (by rw [c47]; decide) (by rw [c47]; rfl) (by decide) ?_
      refine ml_aload_n (q := 0) F dX4_readCommand_149 rfl rfl ?_
      refine ml_callV (av := []) (T := TX4) (N := 9) F (pc3 g) rfl h (fun rs h9 => fX4_readValve_c M1 rs hst h9) wcX4_readValve mlX4_55 wdX4_readValve (by decide) (by decide) (by decide) rfl seX4_readValve imX4_readValve rfl (Nat.le_of_ble_eq_true rfl) dX4_readCommand_150 (fun r48 M49 h => ?_)
      obtain ⟨q50, h⟩ := ml_if h
      exact ml_iret (st := []) F (Option.some.inj h) rfl rfl q50 (by decide) (by decide) dX4_readCommand_153
    refine ml_ifc h (fun c51 h => ?_) (fun c51 h => ?_)
    · refine ml_tableIn (tgt := 242) F dX4_readCommand_40 (by rw [c51]; decide) (by rw [c51]; decide) (by rw [c51]; rfl) (by decide) ?_
      refine ml_aload_n (q := 0) F dX4_readCommand_242 rfl rfl ?_
      refine ml_callV (av := []) (T := TX4) (N := 9) F (pc3 g) rfl h (fun rs h9 => fX4_readWait_c M1 rs hst h9) wcX4_readWait mlX4_72 wdX4_readWait (by decide) (by decide) (by decide) rfl seX4_readWait imX4_readWait rfl (Nat.le_of_ble_eq_true rfl) dX4_readCommand_243 (fun r52 M53 h => ?_)
      obtain ⟨q54, h⟩ := ml_if h
      exact ml_iret (st := []) F (Option.some.inj h) rfl rfl q54 (by decide) (by decide) dX4_readCommand_246
    refine ml_tableD (tgt := 247) F dX4_readCommand_40 (fun v9 q1 q2 q3 => ?_) (by decide) ?_
    · have z98 : ¬ (98 : Int) = v2.toInt := ml_ne_i (k := 98) c3; have z100 : ¬ (100 : Int) = v2.toInt := ml_ne_i (k := 100) c7; have z111 : ¬ (111 : Int) = v2.toInt := ml_ne_i (k := 111) c17; have z114 : ¬ (114 : Int) = v2.toInt := ml_ne_i (k := 114) c27; have z115 : ¬ (115 : Int) = v2.toInt := ml_ne_i (k := 115) c37; have z118 : ¬ (118 : Int) = v2.toInt := ml_ne_i (k := 118) c47; have z119 : ¬ (119 : Int) = v2.toInt := ml_ne_i (k := 119) c51; have z0 : v9 = 99 ∨ v9 = 101 ∨ v9 = 102 ∨ v9 = 103 ∨ v9 = 104 ∨ v9 = 105 ∨ v9 = 106 ∨ v9 = 107 ∨ v9 = 108 ∨ v9 = 109 ∨ v9 = 110 ∨ v9 = 112 ∨ v9 = 113 ∨ v9 = 116 ∨ v9 = 117 := by omega
      rcases z0 with rfl | rfl | rfl | rfl | rfl | rfl | rfl | rfl | rfl | rfl | rfl | rfl | rfl | rfl | rfl <;> rfl
    refine ml_iconst (v := 0) F dX4_readCommand_247 (by decide) ?_
    exact ml_iret (st := []) F (Option.some.inj h) rfl rfl (by decide) (by decide) (by decide) dX4_readCommand_248
  · refine ml_iconst (v := 0) F dX4_readCommand_11 (by decide) ?_
    exact ml_iret (st := []) F (Option.some.inj h) rfl rfl (by decide) (by decide) (by decide) dX4_readCommand_12
set_option maxRecDepth 100000 in
def fX4_readAll_s0 (rec : ml_M → Option ml_R) (M : ml_M) : Option ml_R :=
  (if 60 ≤ (M 3 4) then some (.inl 0, M) else ml_bd (fX4_readCommand M) (fun r1 M2 => (if r1 = 0 then some (.inl 0, M2) else ml_lt (ml_w M2 3 4 ((M2 3 4) + 1)) (fun M3 => (if (M3 3 2) = (M3 3 1) then some (.inl 1, M3) else ml_bd (fX4_readOneOf 0 M3) (fun r4 M5 => (if r4 = 0 then some (.inl 0, M5) else rec  M5)))))))
def fX4_readAll_l : Nat → ml_M → Option ml_R
  | 0 => fun  _ => none
  | n + 1 => fX4_readAll_s0 (fX4_readAll_l n)
set_option maxHeartbeats 4000000 in
set_option maxRecDepth 100000 in
theorem fX4_readAll_w {E : ml_E} {g : ml_G} {res : ml_R} (F : ml_F E g cX4_readAll yX4_readAll.cls 1 9 0 0 (some .boolean) []) : ∀ fuel : Nat, ∀ (M : ml_M), fX4_readAll_l fuel M = some res → ml_J E g 1 (ml_Z E g (fun r _ => some (.int r)) res 0 0) 0 0 10 [(0, ml_rf g 3)] [] M := by
  have hst := ml_F_st F
  intro fuel
  induction fuel with
  | zero => intro  _ h; exact nomatch (show (none : Option ml_R) = some res from h)
  | succ fuel ih =>
    intro  M h
    replace h : fX4_readAll_s0 (fX4_readAll_l fuel)  M = some res := h
    unfold fX4_readAll_s0 at h
    refine ml_aload_n (q := 0) F dX4_readAll_10 rfl rfl ?_
    refine ml_get (v := .int (M 3 4)) F (pc3 g) rfl iaX4 4 (by decide) lkX4_26 rfl rfl dX4_readAll_11 ?_
    refine ml_bipush (v := 60) F dX4_readAll_14 (by decide) ?_
    refine ml_icmp_ge (tgt := 60) F dX4_readAll_16 (by decide) h (fun _ h => ?_) (fun _ h => ?_)
    · refine ml_iconst (v := 0) F dX4_readAll_60 (by decide) ?_
      exact ml_iret (st := []) F (Option.some.inj h) rfl rfl (by decide) (by decide) (by decide) dX4_readAll_61
    · refine ml_aload_n (q := 0) F dX4_readAll_19 rfl rfl ?_
      refine ml_callV (av := []) (T := TX4) (N := 9) F (pc3 g) rfl h (fun rs h9 => fX4_readCommand_c M rs hst h9) wcX4_readCommand mlX4_42 wdX4_readCommand (by decide) (by decide) (by decide) rfl seX4_readCommand imX4_readCommand rfl (Nat.le_of_ble_eq_true rfl) dX4_readAll_20 (fun r1 M2 h => ?_)
      refine ml_if_eq (tgt := 60) F dX4_readAll_23 (by decide) h (fun _ h => ?_) (fun _ h => ?_)
      · refine ml_iconst (v := 0) F dX4_readAll_60 (by decide) ?_
        exact ml_iret (st := []) F (Option.some.inj h) rfl rfl (by decide) (by decide) (by decide) dX4_readAll_61
      · refine ml_aload_n (q := 0) F dX4_readAll_26 rfl rfl ?_
        refine ml_dup F dX4_readAll_27 rfl ?_
        refine ml_get (v := .int (M2 3 4)) F (pc3 g) rfl iaX4 4 (by decide) lkX4_26 rfl rfl dX4_readAll_28 ?_
        refine ml_iconst (v := 1) F dX4_readAll_31 (by decide) ?_
        refine ml_iadd F dX4_readAll_32 ?_
        refine ml_set F (pc3 g) rfl iaX4 tyX4_ok nmX4 4 (by decide) lkX4_26 rfl rfl rfl rfl rfl (Nat.le_of_ble_eq_true rfl) (fun m => by simp [upd]) dX4_readAll_33 ?_
        refine ml_ltM h (fun M3 _ h => ?_)
        refine ml_aload_n (q := 0) F dX4_readAll_36 rfl rfl ?_
        refine ml_get (v := .int (M3 3 2)) F (pc3 g) rfl iaX4 2 (by decide) lkX4_19 rfl rfl dX4_readAll_37 ?_
        refine ml_aload_n (q := 0) F dX4_readAll_40 rfl rfl ?_
        refine ml_get (v := .int (M3 3 1)) F (pc3 g) rfl iaX4 1 (by decide) lkX4_15 rfl rfl dX4_readAll_41 ?_
        refine ml_icmp_ne (tgt := 49) F dX4_readAll_44 (by decide) h (fun _ h => ?_) (fun _ h => ?_)
        · refine ml_aload_n (q := 0) F dX4_readAll_49 rfl rfl ?_
          refine ml_ldcS (i8 := 0) F rfl (by decide) dX4_readAll_50 ?_
          refine ml_callV (av := [.ref (g.2.2.2.2.1 (10 + 0))]) (T := TX4) (N := 9) F (pc3 g) rfl h (fun rs h9 => fX4_readOneOf_c 0 M3 rs (by decide) hst h9) wcX4_readOneOf mlX4_48 wdX4_readOneOf (by decide) (by decide) (by decide) rfl seX4_readOneOf imX4_readOneOf rfl (Nat.le_of_ble_eq_true rfl) dX4_readAll_52 (fun r4 M5 h => ?_)
          refine ml_if_ne (tgt := 10) F dX4_readAll_55 (by decide) h (fun _ h => ?_) (fun _ h => ?_)
          · exact ml_sub [0] rfl (ih  _ h)
          · refine ml_iconst (v := 0) F dX4_readAll_58 (by decide) ?_
            exact ml_iret (st := []) F (Option.some.inj h) rfl rfl (by decide) (by decide) (by decide) dX4_readAll_59
        · refine ml_iconst (v := 1) F dX4_readAll_47 (by decide) ?_
          exact ml_iret (st := []) F (Option.some.inj h) rfl rfl (by decide) (by decide) (by decide) dX4_readAll_48
set_option maxRecDepth 100000 in
def fX4_readAll (M : ml_M) : Option ml_R :=
  ml_lt (ml_w M 3 2 0) (fun M1 => ml_lt (ml_w M1 3 4 0) (fun M2 => fX4_readAll_l ml_fuel  M2))
set_option maxHeartbeats 4000000 in
set_option maxRecDepth 100000 in
theorem fX4_readAll_c (M : ml_M) (res : ml_R) {g : ml_G} (hst : g.2.2.2.2.2.stackTraces = false) (h : fX4_readAll M = some res) : ml_C yX4_readAll cX4_readAll 1 (some .boolean) 9 0 0 g (fun r _ => some (.int r)) [ml_rf g 3] M res := by
  refine ml_of [(0, ml_rf g 3)] hst (by decide) (Nat.le_of_ble_eq_true rfl) rfl (fun E F => ?_)
  unfold fX4_readAll at h
  refine ml_aload_n (q := 0) F dX4_readAll_0 rfl rfl ?_
  refine ml_iconst (v := 0) F dX4_readAll_1 (by decide) ?_
  refine ml_set F (pc3 g) rfl iaX4 tyX4_ok nmX4 2 (by decide) lkX4_19 rfl rfl rfl rfl rfl (Nat.le_of_ble_eq_true rfl) (fun m => by simp [upd]) dX4_readAll_2 ?_
  refine ml_ltM h (fun M1 _ h => ?_)
  refine ml_aload_n (q := 0) F dX4_readAll_5 rfl rfl ?_
  refine ml_iconst (v := 0) F dX4_readAll_6 (by decide) ?_
  refine ml_set F (pc3 g) rfl iaX4 tyX4_ok nmX4 4 (by decide) lkX4_26 rfl rfl rfl rfl rfl (Nat.le_of_ble_eq_true rfl) (fun m => by simp [upd]) dX4_readAll_7 ?_
  refine ml_ltM h (fun M2 _ h => ?_)
  exact ml_sub [0] rfl ((fX4_readAll_w F ml_fuel)  _ h)
set_option maxRecDepth 100000 in
def fX6_runScript_s0 (rec : Int32 → Int32 → ml_M → Option ml_R) (x1 x2 : Int32) (M : ml_M) : Option ml_R :=
  (if (M 3 4) ≤ x2 then ml_bd (fX3_push 0 M) (fun r1 M2 => ml_bd (fX2_copyFrom 0 1 M2) (fun r3 M4 => some (.inl (M4 3 4), M4))) else if ml_ok x2 60 then ml_lt (M 5 x2.toNatClampNeg) (fun v5 => if ml_ok x2 60 then ml_lt (M 6 x2.toNatClampNeg) (fun v6 => if ml_ok x2 60 then ml_lt (M 7 x2.toNatClampNeg) (fun v7 => ml_bd (fX2_faultOf 1 v5 v6 v7 M) (fun r8 M9 => (if r8 = 0 then if ml_ok x2 60 then ml_bd (fX2_act 1 v5 v6 v7 (M9 8 x2.toNatClampNeg) M9) (fun r10 M11 => rec x1 (x2 + 1) M11) else none else ml_lt (ml_w M9 0 8 x2) (fun M12 => some (.inr 3, M12))))) else none) else none) else none)
def fX6_runScript_l : Nat → Int32 → Int32 → ml_M → Option ml_R
  | 0 => fun _ _ _ => none
  | n + 1 => fX6_runScript_s0 (fX6_runScript_l n)
set_option maxHeartbeats 4000000 in
set_option maxRecDepth 100000 in
theorem fX6_runScript_w {E : ml_E} {g : ml_G} {res : ml_R} (F : ml_F E g cX6_runScript yX6_runScript.cls 6 10 1 6 (some .int) []) : ∀ fuel : Nat, ∀ (x1 x2 : Int32) (M : ml_M), fX6_runScript_l fuel x1 x2 M = some res → ml_J E g 6 (ml_Z E g (fun r _ => some (.int r)) res 1 6) 0 0 55 [(0, ml_rf g 0), (1, .int x1), (2, .int x2)] [] M := by
  have hst := ml_F_st F
  intro fuel
  induction fuel with
  | zero => intro _ _ _ h; exact nomatch (show (none : Option ml_R) = some res from h)
  | succ fuel ih =>
    intro x1 x2 M h
    replace h : fX6_runScript_s0 (fX6_runScript_l fuel) x1 x2 M = some res := h
    unfold fX6_runScript_s0 at h
    refine ml_iload_n (q := 2) F dX6_runScript_55 rfl rfl ?_
    refine ml_aload_n (q := 0) F dX6_runScript_56 rfl rfl ?_
    refine ml_get (v := ml_rf g 3) F (pc0 g) rfl iaX6 5 (by decide) lkX6_36 rfl rfl dX6_runScript_57 ?_
    refine ml_get (v := .int (M 3 4)) F (pc3 g) rfl iaX4 4 (by decide) lkX6_279 rfl rfl dX6_runScript_60 ?_
    refine ml_icmp_ge (tgt := 157) F dX6_runScript_63 (by decide) h (fun _ h => ?_) (fun _ h => ?_)
    · refine ml_aload_n (q := 0) F dX6_runScript_157 rfl rfl ?_
      refine ml_get (v := ml_rf g 1) F (pc0 g) rfl iaX6 4 (by decide) lkX6_29 rfl rfl dX6_runScript_158 ?_
      refine ml_aload_n (q := 0) F dX6_runScript_161 rfl rfl ?_
      refine ml_get (v := ml_rf g (ml_fl 0)) F (pc0 g) rfl iaX6 0 (by decide) lkX6_12 rfl rfl dX6_runScript_162 ?_
      refine ml_callV (av := [ml_rf g (ml_fl 0)]) (T := TX3) (N := 3) F (pc1 g) rfl h (fun rs h9 => fX3_push_c 0 M rs (by decide : 0 < 11) hst h9) wcX3_push mlX6_297 wdX3_push (by decide) (by decide) (by decide) rfl seX3_push imX3_push rfl (Nat.le_of_ble_eq_true rfl) dX6_runScript_165 (fun r1 M2 h => ?_)
      refine ml_aload_n (q := 0) F dX6_runScript_168 rfl rfl ?_
      refine ml_get (v := ml_rf g (ml_fl 0)) F (pc0 g) rfl iaX6 0 (by decide) lkX6_12 rfl rfl dX6_runScript_169 ?_
      refine ml_aload_n (q := 0) F dX6_runScript_172 rfl rfl ?_
      refine ml_get (v := ml_rf g (ml_fl 1)) F (pc0 g) rfl iaX6 1 (by decide) lkX6_16 rfl rfl dX6_runScript_173 ?_
      refine ml_callV (av := [ml_rf g (ml_fl 1)]) (T := TX2) (N := 4) F (pf0 g (by decide : 0 < 11)) rfl h (fun rs h9 => fX2_copyFrom_c 0 1 M2 rs (by decide : 0 < 11) (by decide : 1 < 11) hst h9) wcX2_copyFrom mlX6_187 wdX2_copyFrom (by decide) (by decide) (by decide) rfl seX2_copyFrom imX2_copyFrom rfl (Nat.le_of_ble_eq_true rfl) dX6_runScript_176 (fun r3 M4 h => ?_)
      refine ml_aload_n (q := 0) F dX6_runScript_179 rfl rfl ?_
      refine ml_get (v := ml_rf g 3) F (pc0 g) rfl iaX6 5 (by decide) lkX6_36 rfl rfl dX6_runScript_180 ?_
      refine ml_get (v := .int (M4 3 4)) F (pc3 g) rfl iaX4 4 (by decide) lkX6_279 rfl rfl dX6_runScript_183 ?_
      exact ml_iret (st := []) F (Option.some.inj h) rfl rfl rfl (by decide) (by decide) dX6_runScript_186
    · refine ml_aload_n (q := 0) F dX6_runScript_66 rfl rfl ?_
      refine ml_get (v := ml_rf g 3) F (pc0 g) rfl iaX6 5 (by decide) lkX6_36 rfl rfl dX6_runScript_67 ?_
      refine ml_get (v := ml_rf g 5) F (pc3 g) rfl iaX4 5 (by decide) lkX6_280 rfl rfl dX6_runScript_70 ?_
      refine ml_iload_n (q := 2) F dX6_runScript_73 rfl rfl ?_
      refine ml_iald F (pc5 g) h dX6_runScript_74 (fun h => ?_)
      refine ml_ltI h (fun v5 _ h => ?_)
      refine ml_istore_n (ls2 := [(3, .int v5), (0, ml_rf g 0), (1, .int x1), (2, .int x2)]) F dX6_runScript_75 rfl (by decide) rfl ?_
      refine ml_aload_n (q := 1) F dX6_runScript_76 rfl rfl ?_
      refine ml_get (v := ml_rf g 3) F (pc0 g) rfl iaX6 5 (by decide) lkX6_36 rfl rfl dX6_runScript_77 ?_
      refine ml_get (v := ml_rf g 6) F (pc3 g) rfl iaX4 6 (by decide) lkX6_282 rfl rfl dX6_runScript_80 ?_
      refine ml_iload_n (q := 3) F dX6_runScript_83 rfl rfl ?_
      refine ml_iald F (pc6 g) h dX6_runScript_84 (fun h => ?_)
      refine ml_ltI h (fun v6 _ h => ?_)
      refine ml_istore (ls2 := [(4, .int v6), (3, .int v5), (0, ml_rf g 0), (1, .int x1), (2, .int x2)]) F dX6_runScript_85 (by decide) rfl ?_
      refine ml_aload_n (q := 2) F dX6_runScript_87 rfl rfl ?_
      refine ml_get (v := ml_rf g 3) F (pc0 g) rfl iaX6 5 (by decide) lkX6_36 rfl rfl dX6_runScript_88 ?_
      refine ml_get (v := ml_rf g 7) F (pc3 g) rfl iaX4 7 (by decide) lkX6_285 rfl rfl dX6_runScript_91 ?_
      refine ml_iload_n (q := 4) F dX6_runScript_94 rfl rfl ?_
      refine ml_iald F (pc7 g) h dX6_runScript_95 (fun h => ?_)
      refine ml_ltI h (fun v7 _ h => ?_)
      refine ml_istore (ls2 := [(5, .int v7), (4, .int v6), (3, .int v5), (0, ml_rf g 0), (1, .int x1), (2, .int x2)]) F dX6_runScript_96 (by decide) rfl ?_
      refine ml_aload_n (q := 3) F dX6_runScript_98 rfl rfl ?_
      refine ml_get (v := ml_rf g (ml_fl 1)) F (pc0 g) rfl iaX6 1 (by decide) lkX6_16 rfl rfl dX6_runScript_99 ?_
      refine ml_iload_n (q := 2) F dX6_runScript_102 rfl rfl ?_
      refine ml_iload (q := 1) F dX6_runScript_103 rfl ?_
      refine ml_iload (q := 0) F dX6_runScript_105 rfl ?_
      refine ml_callV (av := [.int v5, .int v6, .int v7]) (T := TX2) (N := 4) F (pf0 g (by decide : 1 < 11)) rfl h (fun rs h9 => fX2_faultOf_c 1 v5 v6 v7 M rs (by decide : 1 < 11) hst h9) wcX2_faultOf mlX6_288 wdX2_faultOf (by decide) (by decide) (by decide) rfl seX2_faultOf imX2_faultOf rfl (Nat.le_of_ble_eq_true rfl) dX6_runScript_107 (fun r8 M9 h => ?_)
      refine ml_if_eq (tgt := 129) F dX6_runScript_110 (by decide) h (fun _ h => ?_) (fun _ h => ?_)
      · refine ml_aload_n (q := 3) F dX6_runScript_129 rfl rfl ?_
        refine ml_get (v := ml_rf g (ml_fl 1)) F (pc0 g) rfl iaX6 1 (by decide) lkX6_16 rfl rfl dX6_runScript_130 ?_
        refine ml_iload_n (q := 2) F dX6_runScript_133 rfl rfl ?_
        refine ml_iload (q := 1) F dX6_runScript_134 rfl ?_
        refine ml_iload (q := 0) F dX6_runScript_136 rfl ?_
        refine ml_aload_n (q := 3) F dX6_runScript_138 rfl rfl ?_
        refine ml_get (v := ml_rf g 3) F (pc0 g) rfl iaX6 5 (by decide) lkX6_36 rfl rfl dX6_runScript_139 ?_
        refine ml_get (v := ml_rf g 8) F (pc3 g) rfl iaX4 8 (by decide) lkX6_294 rfl rfl dX6_runScript_142 ?_
        refine ml_iload_n (q := 5) F dX6_runScript_145 rfl rfl ?_
        refine ml_iald F (pc8 g) h dX6_runScript_146 (fun h => ?_)
        refine ml_callV (av := [.int v5, .int v6, .int v7, .int (M9 8 x2.toNatClampNeg)]) (T := TX2) (N := 4) F (pf0 g (by decide : 1 < 11)) rfl h (fun rs h9 => fX2_act_c 1 v5 v6 v7 (M9 8 x2.toNatClampNeg) M9 rs (by decide : 1 < 11) hst h9) wcX2_act mlX6_58 wdX2_act (by decide) (by decide) (by decide) rfl seX2_act imX2_act rfl (Nat.le_of_ble_eq_true rfl) dX6_runScript_147 (fun r10 M11 h => ?_)
        refine ml_pop F dX6_runScript_150 rfl ?_
        refine ml_iinc (q := 5) (v := x2 + 1) (ls2 := [(2, .int (x2 + 1)), (5, .int v7), (4, .int v6), (3, .int v5), (0, ml_rf g 0), (1, .int x1)]) F dX6_runScript_151 rfl rfl (by decide) rfl ?_
        refine ml_goto (tgt := 55) F dX6_runScript_154 (by decide) ?_
        exact ml_sub [4, 5, 0] rfl (ih _ _ _ h)
      · refine ml_aload_n (q := 3) F dX6_runScript_113 rfl rfl ?_
        refine ml_iload_n (q := 5) F dX6_runScript_114 rfl rfl ?_
        refine ml_set F (pc0 g) rfl iaX6 tyX6_ok nmX6 8 (by decide) lkX6_51 rfl rfl rfl rfl rfl (Nat.le_of_ble_eq_true rfl) (fun m => by simp [upd]) dX6_runScript_115 ?_
        refine ml_ltM h (fun M12 _ h => ?_)
        exact ml_throwW (text := "a command of the script failed") F (Option.some.inj h) ml_tw3 (by decide +kernel) (Nat.le_of_ble_eq_true rfl) (by decide) (by decide) dX6_runScript_118 dX6_runScript_121 dX6_runScript_122 dX6_runScript_125 dX6_runScript_128
set_option maxRecDepth 100000 in
def fX6_runScript (M : ml_M) : Option ml_R :=
  ml_bd (fX4_readAll M) (fun r1 M2 => ml_lt (ml_w M2 3 1 0) (fun M3 => (if r1 = 0 then ml_lt (ml_w M3 0 7 (M3 3 2)) (fun M6 => some (.inr 2, M6)) else ml_bd (fX2_copyFrom 1 0 M3) (fun r4 M5 => fX6_runScript_l ml_fuel r1 0 M5))))
set_option maxHeartbeats 4000000 in
set_option maxRecDepth 100000 in
theorem fX6_runScript_c (M : ml_M) (res : ml_R) {g : ml_G} (hst : g.2.2.2.2.2.stackTraces = false) (h : fX6_runScript M = some res) : ml_C yX6_runScript cX6_runScript 6 (some .int) 10 1 6 g (fun r _ => some (.int r)) [ml_rf g 0] M res := by
  refine ml_of [(0, ml_rf g 0)] hst (by decide) (Nat.le_of_ble_eq_true rfl) rfl (fun E F => ?_)
  unfold fX6_runScript at h
  refine ml_aload_n (q := 0) F dX6_runScript_0 rfl rfl ?_
  refine ml_get (v := ml_rf g 3) F (pc0 g) rfl iaX6 5 (by decide) lkX6_36 rfl rfl dX6_runScript_1 ?_
  refine ml_callV (av := []) (T := TX4) (N := 9) F (pc3 g) rfl h (fun rs h9 => fX4_readAll_c M rs hst h9) wcX4_readAll mlX6_271 wdX4_readAll (by decide) (by decide) (by decide) rfl seX4_readAll imX4_readAll rfl (Nat.le_of_ble_eq_true rfl) dX6_runScript_4 (fun r1 M2 h => ?_)
  refine ml_istore_n (ls2 := [(1, .int r1), (0, ml_rf g 0)]) F dX6_runScript_7 rfl (by decide) rfl ?_
  refine ml_aload_n (q := 1) F dX6_runScript_8 rfl rfl ?_
  refine ml_get (v := ml_rf g 3) F (pc0 g) rfl iaX6 5 (by decide) lkX6_36 rfl rfl dX6_runScript_9 ?_
  refine ml_iconst (v := 0) F dX6_runScript_12 (by decide) ?_
  refine ml_set F (pc3 g) rfl iaX4 tyX4_ok nmX4 1 (by decide) lkX6_261 rfl rfl rfl rfl rfl (Nat.le_of_ble_eq_true rfl) (fun m => by simp [upd]) dX6_runScript_13 ?_
  refine ml_ltM h (fun M3 _ h => ?_)
  refine ml_iload_n (q := 0) F dX6_runScript_16 rfl rfl ?_
  refine ml_if_ne (tgt := 42) F dX6_runScript_17 (by decide) h (fun _ h => ?_) (fun _ h => ?_)
  · refine ml_aload_n (q := 1) F dX6_runScript_42 rfl rfl ?_
    refine ml_get (v := ml_rf g (ml_fl 1)) F (pc0 g) rfl iaX6 1 (by decide) lkX6_16 rfl rfl dX6_runScript_43 ?_
    refine ml_aload_n (q := 1) F dX6_runScript_46 rfl rfl ?_
    refine ml_get (v := ml_rf g (ml_fl 0)) F (pc0 g) rfl iaX6 0 (by decide) lkX6_12 rfl rfl dX6_runScript_47 ?_
    refine ml_callV (av := [ml_rf g (ml_fl 0)]) (T := TX2) (N := 4) F (pf0 g (by decide : 1 < 11)) rfl h (fun rs h9 => fX2_copyFrom_c 1 0 M3 rs (by decide : 1 < 11) (by decide : 0 < 11) hst h9) wcX2_copyFrom mlX6_187 wdX2_copyFrom (by decide) (by decide) (by decide) rfl seX2_copyFrom imX2_copyFrom rfl (Nat.le_of_ble_eq_true rfl) dX6_runScript_50 (fun r4 M5 h => ?_)
    refine ml_iconst (v := 0) F dX6_runScript_53 (by decide) ?_
    refine ml_istore_n (ls2 := [(2, .int 0), (1, .int r1), (0, ml_rf g 0)]) F dX6_runScript_54 rfl (by decide) rfl ?_
    exact ml_sub [2, 1, 0] rfl ((fX6_runScript_w F ml_fuel) _ _ _ h)
  · refine ml_aload_n (q := 1) F dX6_runScript_20 rfl rfl ?_
    refine ml_aload_n (q := 1) F dX6_runScript_21 rfl rfl ?_
    refine ml_get (v := ml_rf g 3) F (pc0 g) rfl iaX6 5 (by decide) lkX6_36 rfl rfl dX6_runScript_22 ?_
    refine ml_get (v := .int (M3 3 2)) F (pc3 g) rfl iaX4 2 (by decide) lkX6_274 rfl rfl dX6_runScript_25 ?_
    refine ml_set F (pc0 g) rfl iaX6 tyX6_ok nmX6 7 (by decide) lkX6_47 rfl rfl rfl rfl rfl (Nat.le_of_ble_eq_true rfl) (fun m => by simp [upd]) dX6_runScript_28 ?_
    refine ml_ltM h (fun M6 _ h => ?_)
    exact ml_throwW (text := "the script does not have the required form") F (Option.some.inj h) ml_tw2 (by decide +kernel) (Nat.le_of_ble_eq_true rfl) (by decide) (by decide) dX6_runScript_31 dX6_runScript_34 dX6_runScript_35 dX6_runScript_38 dX6_runScript_41
