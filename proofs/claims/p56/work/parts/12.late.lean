set_option maxRecDepth 100000 in
def fX0_placeOf (i : Nat) (a0 : Int32) (M : ml_M) : Option ml_R :=
  ml_bd (fJ9_floorMod_7cf53 (((M (ml_fl i + 12) 2) - 1) - a0) 8 M) (fun r1 M2 => some (.inl r1, M2))
set_option maxHeartbeats 4000000 in
set_option maxRecDepth 100000 in
theorem fX0_placeOf_c (i : Nat) (a0 : Int32) (M : ml_M) (res : ml_R) (hi : i < 11) {g : ml_G} (hst : g.2.2.2.2.2.stackTraces = false) (h : fX0_placeOf i a0 M = some res) : ml_C yX0_placeOf cX0_placeOf 2 (some .int) 2 0 0 g (fun r _ => some (.int r)) [ml_rf g (ml_fl i + 12), .int a0] M res := by
  refine ml_of [(0, ml_rf g (ml_fl i + 12)), (1, .int a0)] hst (by decide) (Nat.le_of_ble_eq_true rfl) rfl (fun E F => ?_)
  unfold fX0_placeOf at h
  refine ml_aload_n (q := 0) F dX0_placeOf_0 rfl rfl ?_
  refine ml_get (v := .int (M (ml_fl i + 12) 2)) F (pf12 g hi) rfl iaX0 2 (by decide) lkX0_19 rfl rfl dX0_placeOf_1 ?_
  refine ml_iconst (v := 1) F dX0_placeOf_4 (by decide) ?_
  refine ml_isub F dX0_placeOf_5 ?_
  refine ml_iload_n (q := 1) F dX0_placeOf_6 rfl rfl ?_
  refine ml_isub F dX0_placeOf_7 ?_
  refine ml_bipush (v := 8) F dX0_placeOf_8 (by decide) ?_
  refine ml_callS (av := [.int (((M (ml_fl i + 12) 2) - 1) - a0), .int 8]) F h (fun rs h9 => fJ9_floorMod_7cf53_c (((M (ml_fl i + 12) 2) - 1) - a0) 8 M rs hst h9) wcJ9_floorMod_7cf53 mlX0_32 wdJ9_floorMod_7cf53 (by decide) (by decide) (by decide) rfl stJ9_floorMod_7cf53 rfl (Nat.le_of_ble_eq_true rfl) dX0_placeOf_10 (fun r1 M2 h => ?_)
  exact ml_iret (st := []) F (Option.some.inj h) rfl rfl rfl (by decide) (by decide) dX0_placeOf_13
set_option maxRecDepth 100000 in
def fX6_eventKind (a0 : Int32) (M : ml_M) : Option ml_R :=
  ml_bd (fX6_needEvent a0 M) (fun r1 M2 => ml_bd (fX0_placeOf 0 a0 M2) (fun r3 M4 => if ml_ok r3 8 then if narrow .char (.int (M4 (ml_fl 0 + 13) r3.toNatClampNeg)) = .int (M4 (ml_fl 0 + 13) r3.toNatClampNeg) then some (.inl (M4 (ml_fl 0 + 13) r3.toNatClampNeg), M4) else none else none))
set_option maxHeartbeats 4000000 in
set_option maxRecDepth 100000 in
theorem fX6_eventKind_c (a0 : Int32) (M : ml_M) (res : ml_R) {g : ml_G} (hst : g.2.2.2.2.2.stackTraces = false) (h : fX6_eventKind a0 M = some res) : ml_C yX6_eventKind cX6_eventKind 2 (some .char) 3 1 6 g (fun r _ => some (.int r)) [ml_rf g 0, .int a0] M res := by
  refine ml_of [(0, ml_rf g 0), (1, .int a0)] hst (by decide) (Nat.le_of_ble_eq_true rfl) rfl (fun E F => ?_)
  unfold fX6_eventKind at h
  refine ml_aload_n (q := 0) F dX6_eventKind_0 rfl rfl ?_
  refine ml_iload_n (q := 1) F dX6_eventKind_1 rfl rfl ?_
  refine ml_callV (av := [.int a0]) (T := TX6) (N := 9) F (pc0 g) rfl h (fun rs h9 => fX6_needEvent_c a0 M rs hst h9) wcX6_needEvent mlX6_211 wdX6_needEvent (by decide) (by decide) (by decide) rfl seX6_needEvent imX6_needEvent rfl (Nat.le_of_ble_eq_true rfl) dX6_eventKind_2 (fun r1 M2 h => ?_)
  refine ml_aload_n (q := 0) F dX6_eventKind_5 rfl rfl ?_
  refine ml_get (v := ml_rf g (ml_fl 0)) F (pc0 g) rfl iaX6 0 (by decide) lkX6_12 rfl rfl dX6_eventKind_6 ?_
  refine ml_get (v := ml_rf g (ml_fl 0 + 12)) F (pf0 g (by decide : 0 < 11)) rfl iaX2 2 (by decide) lkX6_204 rfl rfl dX6_eventKind_9 ?_
  refine ml_get (v := ml_rf g (ml_fl 0 + 13)) F (pf12 g (by decide : 0 < 11)) rfl iaX0 0 (by decide) lkX6_214 rfl rfl dX6_eventKind_12 ?_
  refine ml_aload_n (q := 0) F dX6_eventKind_15 rfl rfl ?_
  refine ml_get (v := ml_rf g (ml_fl 0)) F (pc0 g) rfl iaX6 0 (by decide) lkX6_12 rfl rfl dX6_eventKind_16 ?_
  refine ml_get (v := ml_rf g (ml_fl 0 + 12)) F (pf0 g (by decide : 0 < 11)) rfl iaX2 2 (by decide) lkX6_204 rfl rfl dX6_eventKind_19 ?_
  refine ml_iload_n (q := 1) F dX6_eventKind_22 rfl rfl ?_
  refine ml_callV (av := [.int a0]) (T := TX0) (N := 4) F (pf12 g (by decide : 0 < 11)) rfl h (fun rs h9 => fX0_placeOf_c 0 a0 M2 rs (by decide : 0 < 11) hst h9) wcX0_placeOf mlX6_218 wdX0_placeOf (by decide) (by decide) (by decide) rfl seX0_placeOf imX0_placeOf rfl (Nat.le_of_ble_eq_true rfl) dX6_eventKind_23 (fun r3 M4 h => ?_)
  refine ml_cald F (pf13 g (by decide : 0 < 11)) h dX6_eventKind_26 (fun h => ?_)
  obtain ⟨q5, h⟩ := ml_if h
  exact ml_iret (st := []) F (Option.some.inj h) rfl rfl q5 (by decide) (by decide) dX6_eventKind_27
set_option maxRecDepth 100000 in
def fX6_eventNumber (a0 : Int32) (M : ml_M) : Option ml_R :=
  ml_bd (fX6_needEvent a0 M) (fun r1 M2 => ml_bd (fX0_placeOf 0 a0 M2) (fun r3 M4 => if ml_ok r3 8 then some (.inl (M4 (ml_fl 0 + 14) r3.toNatClampNeg), M4) else none))
set_option maxHeartbeats 4000000 in
set_option maxRecDepth 100000 in
theorem fX6_eventNumber_c (a0 : Int32) (M : ml_M) (res : ml_R) {g : ml_G} (hst : g.2.2.2.2.2.stackTraces = false) (h : fX6_eventNumber a0 M = some res) : ml_C yX6_eventNumber cX6_eventNumber 2 (some .int) 3 1 6 g (fun r _ => some (.int r)) [ml_rf g 0, .int a0] M res := by
  refine ml_of [(0, ml_rf g 0), (1, .int a0)] hst (by decide) (Nat.le_of_ble_eq_true rfl) rfl (fun E F => ?_)
  unfold fX6_eventNumber at h
  refine ml_aload_n (q := 0) F dX6_eventNumber_0 rfl rfl ?_
  refine ml_iload_n (q := 1) F dX6_eventNumber_1 rfl rfl ?_
  refine ml_callV (av := [.int a0]) (T := TX6) (N := 9) F (pc0 g) rfl h (fun rs h9 => fX6_needEvent_c a0 M rs hst h9) wcX6_needEvent mlX6_211 wdX6_needEvent (by decide) (by decide) (by decide) rfl seX6_needEvent imX6_needEvent rfl (Nat.le_of_ble_eq_true rfl) dX6_eventNumber_2 (fun r1 M2 h => ?_)
  refine ml_aload_n (q := 0) F dX6_eventNumber_5 rfl rfl ?_
  refine ml_get (v := ml_rf g (ml_fl 0)) F (pc0 g) rfl iaX6 0 (by decide) lkX6_12 rfl rfl dX6_eventNumber_6 ?_
  refine ml_get (v := ml_rf g (ml_fl 0 + 12)) F (pf0 g (by decide : 0 < 11)) rfl iaX2 2 (by decide) lkX6_204 rfl rfl dX6_eventNumber_9 ?_
  refine ml_get (v := ml_rf g (ml_fl 0 + 14)) F (pf12 g (by decide : 0 < 11)) rfl iaX0 1 (by decide) lkX6_221 rfl rfl dX6_eventNumber_12 ?_
  refine ml_aload_n (q := 0) F dX6_eventNumber_15 rfl rfl ?_
  refine ml_get (v := ml_rf g (ml_fl 0)) F (pc0 g) rfl iaX6 0 (by decide) lkX6_12 rfl rfl dX6_eventNumber_16 ?_
  refine ml_get (v := ml_rf g (ml_fl 0 + 12)) F (pf0 g (by decide : 0 < 11)) rfl iaX2 2 (by decide) lkX6_204 rfl rfl dX6_eventNumber_19 ?_
  refine ml_iload_n (q := 1) F dX6_eventNumber_22 rfl rfl ?_
  refine ml_callV (av := [.int a0]) (T := TX0) (N := 4) F (pf12 g (by decide : 0 < 11)) rfl h (fun rs h9 => fX0_placeOf_c 0 a0 M2 rs (by decide : 0 < 11) hst h9) wcX0_placeOf mlX6_218 wdX0_placeOf (by decide) (by decide) (by decide) rfl seX0_placeOf imX0_placeOf rfl (Nat.le_of_ble_eq_true rfl) dX6_eventNumber_23 (fun r3 M4 h => ?_)
  refine ml_iald F (pf14 g (by decide : 0 < 11)) h dX6_eventNumber_26 (fun h => ?_)
  exact ml_iret (st := []) F (Option.some.inj h) rfl rfl rfl (by decide) (by decide) dX6_eventNumber_27
set_option maxRecDepth 100000 in
def fX6_renderLevels_s0 (rec : Int32 → ml_M → Option ml_R) (x1 : Int32) (M : ml_M) : Option ml_R :=
  (if 5 ≤ x1 then ml_bd (fJ4_length_8abf5 M) (fun r1 M2 => some (.inl r1, M2)) else ml_jn (fun (M3 : ml_M) => ml_bd (fX5_roundedLevel 0 x1 M3) (fun r6 M7 => ml_bd (fJ4_append_bf812 r6 M7) (fun r8 M9 => rec (x1 + 1) M9))) (fun B4 => (if x1 ≤ 0 then B4 M else if ml_ok (x1 - 1) 4 then ml_jn (fun (y10 : Int32) => ml_bd (fJ4_append_cf468 y10 M) (fun r13 M14 => B4 M14)) (fun B11 => (if (M (ml_fl 0 + 4) (x1 - 1).toNatClampNeg) = 0 then B11 124 else B11 47)) else none)))
def fX6_renderLevels_l : Nat → Int32 → ml_M → Option ml_R
  | 0 => fun _ _ => none
  | n + 1 => fX6_renderLevels_s0 (fX6_renderLevels_l n)
set_option maxHeartbeats 4000000 in
set_option maxRecDepth 100000 in
theorem fX6_renderLevels_w {E : ml_E} {g : ml_G} (hO : g.2.2.2.1 11 = g.2.2.2.1 9) {res : ml_R} (F : ml_F E g cX6_renderLevels yX6_renderLevels.cls 2 5 0 0 (some .int) []) : ∀ fuel : Nat, ∀ (x1 : Int32) (M : ml_M), fX6_renderLevels_l fuel x1 M = some res → ml_J E g 2 (ml_Z E g (fun r _ => some (.int r)) res 0 0) 0 0 10 [(0, ml_rf g 0), (1, .int x1)] [] M := by
  have hst := ml_F_st F
  intro fuel
  induction fuel with
  | zero => intro _ _ h; exact nomatch (show (none : Option ml_R) = some res from h)
  | succ fuel ih =>
    intro x1 M h
    replace h : fX6_renderLevels_s0 (fX6_renderLevels_l fuel) x1 M = some res := h
    unfold fX6_renderLevels_s0 at h
    refine ml_iload_n (q := 1) F dX6_renderLevels_10 rfl rfl ?_
    refine ml_iconst (v := 5) F dX6_renderLevels_11 (by decide) ?_
    refine ml_icmp_ge (tgt := 76) F dX6_renderLevels_12 (by decide) h (fun _ h => ?_) (fun _ h => ?_)
    · refine ml_aload_n (q := 0) F dX6_renderLevels_76 rfl rfl ?_
      refine ml_get (v := ml_rf g 9) F (pc0 g) rfl iaX6 6 (by decide) lkX6_43 rfl (congrArg (fun z => some (Value.ref z)) hO) dX6_renderLevels_77 ?_
      refine ml_callV (av := []) (T := TJ4) (N := 4) F (pc9 g) rfl h (fun rs h9 => fJ4_length_8abf5_c M rs hst h9) wcJ4_length_8abf5 mlX6_248 wdJ4_length_8abf5 (by decide) (by decide) (by decide) rfl seJ4_length_8abf5 imJ4_length_8abf5 rfl (Nat.le_of_ble_eq_true rfl) dX6_renderLevels_80 (fun r1 M2 h => ?_)
      exact ml_iret (st := []) F (Option.some.inj h) rfl rfl rfl (by decide) (by decide) dX6_renderLevels_83
    · refine ml_iload_n (q := 1) F dX6_renderLevels_15 rfl rfl ?_
      refine ml_jnR (P := fun B => ∀ (M3 : ml_M), B M3 = some res → ml_J E g 2 (ml_Z E g (fun r _ => some (.int r)) res 0 0) (0) (0) 51 [(0, ml_rf g 0), (1, .int x1)] ([]) M3) h ?_ (fun jn5 h => ?_)
      · intro M3 h
        dsimp only at h
        refine ml_aload_n (q := 0) F dX6_renderLevels_51 rfl rfl ?_
        refine ml_get (v := ml_rf g 9) F (pc0 g) rfl iaX6 6 (by decide) lkX6_43 rfl (congrArg (fun z => some (Value.ref z)) hO) dX6_renderLevels_52 ?_
        refine ml_aload_n (q := 0) F dX6_renderLevels_55 rfl rfl ?_
        refine ml_get (v := ml_rf g (ml_fl 0)) F (pc0 g) rfl iaX6 0 (by decide) lkX6_12 rfl rfl dX6_renderLevels_56 ?_
        refine ml_get (v := ml_rf g (ml_fl 0 + 1)) F (pf0 g (by decide : 0 < 11)) rfl iaX2 0 (by decide) lkX6_70 rfl rfl dX6_renderLevels_59 ?_
        refine ml_iload_n (q := 1) F dX6_renderLevels_62 rfl rfl ?_
        refine ml_callV (av := [.int x1]) (T := TX5) (N := 8) F (pf1 g (by decide : 0 < 11)) rfl h (fun rs h9 => fX5_roundedLevel_c 0 x1 M3 rs (by decide : 0 < 11) hst h9) wcX5_roundedLevel mlX6_80 wdX5_roundedLevel (by decide) (by decide) (by decide) rfl seX5_roundedLevel imX5_roundedLevel rfl (Nat.le_of_ble_eq_true rfl) dX6_renderLevels_63 (fun r6 M7 h => ?_)
        refine ml_callV (av := [.int r6]) (T := TJ4) (N := 4) F (pc9 g) rfl h (fun rs h9 => fJ4_append_bf812_c r6 M7 rs hst h9) wcJ4_append_bf812 mlX6_245 wdJ4_append_bf812 (by decide) (by decide) (by decide) rfl seJ4_append_bf812 imJ4_append_bf812 rfl (Nat.le_of_ble_eq_true rfl) dX6_renderLevels_66 (fun r8 M9 h => ?_)
        refine ml_pop F dX6_renderLevels_69 rfl ?_
        refine ml_iinc (q := 1) (v := x1 + 1) (ls2 := [(1, .int (x1 + 1)), (0, ml_rf g 0)]) F dX6_renderLevels_70 rfl rfl (by decide) rfl ?_
        refine ml_goto (tgt := 10) F dX6_renderLevels_73 (by decide) ?_
        exact ml_sub [1, 0] rfl (ih _ _ h)
      refine ml_if_le (tgt := 51) F dX6_renderLevels_16 (by decide) h (fun _ h => ?_) (fun _ h => ?_)
      · exact ml_sub [0, 1] rfl (jn5 _ h)
      · refine ml_aload_n (q := 0) F dX6_renderLevels_19 rfl rfl ?_
        refine ml_get (v := ml_rf g 9) F (pc0 g) rfl iaX6 6 (by decide) lkX6_43 rfl (congrArg (fun z => some (Value.ref z)) hO) dX6_renderLevels_20 ?_
        refine ml_aload_n (q := 0) F dX6_renderLevels_23 rfl rfl ?_
        refine ml_get (v := ml_rf g (ml_fl 0)) F (pc0 g) rfl iaX6 0 (by decide) lkX6_12 rfl rfl dX6_renderLevels_24 ?_
        refine ml_get (v := ml_rf g (ml_fl 0 + 1)) F (pf0 g (by decide : 0 < 11)) rfl iaX2 0 (by decide) lkX6_70 rfl rfl dX6_renderLevels_27 ?_
        refine ml_get (v := ml_rf g (ml_fl 0 + 4)) F (pf1 g (by decide : 0 < 11)) rfl iaX5 2 (by decide) lkX6_99 rfl rfl dX6_renderLevels_30 ?_
        refine ml_iload_n (q := 1) F dX6_renderLevels_33 rfl rfl ?_
        refine ml_iconst (v := 1) F dX6_renderLevels_34 (by decide) ?_
        refine ml_isub F dX6_renderLevels_35 ?_
        refine ml_zald F (pf4 g (by decide : 0 < 11)) h dX6_renderLevels_36 (fun h => ?_)
        refine ml_jnR (P := fun B => ∀ (y10 : Int32), B y10 = some res → ml_J E g 2 (ml_Z E g (fun r _ => some (.int r)) res 0 0) (0) (0) 47 [(0, ml_rf g 0), (1, .int x1)] (.int y10 :: ml_rf g 9 :: []) M) h ?_ (fun jn12 h => ?_)
        · intro y10 h
          dsimp only at h
          refine ml_callV (av := [.int y10]) (T := TJ4) (N := 4) F (pc9 g) rfl h (fun rs h9 => fJ4_append_cf468_c y10 M rs hst h9) wcJ4_append_cf468 mlX6_241 wdJ4_append_cf468 (by decide) (by decide) (by decide) rfl seJ4_append_cf468 imJ4_append_cf468 rfl (Nat.le_of_ble_eq_true rfl) dX6_renderLevels_47 (fun r13 M14 h => ?_)
          refine ml_pop F dX6_renderLevels_50 rfl ?_
          exact ml_sub [0, 1] rfl (jn5 _ h)
        refine ml_if_eq (tgt := 45) F dX6_renderLevels_37 (by decide) h (fun _ h => ?_) (fun _ h => ?_)
        · refine ml_bipush (v := 124) F dX6_renderLevels_45 (by decide) ?_
          exact ml_sub [0, 1] rfl (jn12 _ h)
        · refine ml_bipush (v := 47) F dX6_renderLevels_40 (by decide) ?_
          refine ml_goto (tgt := 47) F dX6_renderLevels_42 (by decide) ?_
          exact ml_sub [0, 1] rfl (jn12 _ h)
set_option maxRecDepth 100000 in
def fX6_renderLevels (M : ml_M) : Option ml_R :=
  ml_bd (fJ4_setLength_d00df 0 M) (fun r1 M2 => fX6_renderLevels_l ml_fuel 0 M2)
set_option maxHeartbeats 4000000 in
set_option maxRecDepth 100000 in
theorem fX6_renderLevels_c (M : ml_M) (res : ml_R) {g : ml_G} (hO : g.2.2.2.1 11 = g.2.2.2.1 9) (hst : g.2.2.2.2.2.stackTraces = false) (h : fX6_renderLevels M = some res) : ml_C yX6_renderLevels cX6_renderLevels 2 (some .int) 5 0 0 g (fun r _ => some (.int r)) [ml_rf g 0] M res := by
  refine ml_of [(0, ml_rf g 0)] hst (by decide) (Nat.le_of_ble_eq_true rfl) rfl (fun E F => ?_)
  unfold fX6_renderLevels at h
  refine ml_aload_n (q := 0) F dX6_renderLevels_0 rfl rfl ?_
  refine ml_get (v := ml_rf g 9) F (pc0 g) rfl iaX6 6 (by decide) lkX6_43 rfl (congrArg (fun z => some (Value.ref z)) hO) dX6_renderLevels_1 ?_
  refine ml_iconst (v := 0) F dX6_renderLevels_4 (by decide) ?_
  refine ml_callV (av := [.int 0]) (T := TJ4) (N := 4) F (pc9 g) rfl h (fun rs h9 => fJ4_setLength_d00df_c 0 M rs hst h9) wcJ4_setLength_d00df mlX6_238 wdJ4_setLength_d00df (by decide) (by decide) (by decide) rfl seJ4_setLength_d00df imJ4_setLength_d00df rfl (Nat.le_of_ble_eq_true rfl) dX6_renderLevels_5 (fun r1 M2 h => ?_)
  refine ml_iconst (v := 0) F dX6_renderLevels_8 (by decide) ?_
  refine ml_istore_n (ls2 := [(1, .int 0), (0, ml_rf g 0)]) F dX6_renderLevels_9 rfl (by decide) rfl ?_
  exact ml_sub [1, 0] rfl ((fX6_renderLevels_w hO F ml_fuel) _ _ h)
set_option maxRecDepth 100000 in
def fX6_renderBoat (a0 : Int32) (M : ml_M) : Option ml_R :=
  ml_bd (fX6_needBoat a0 M) (fun r1 M2 => ml_bd (fJ4_setLength_d00df 0 M2) (fun r3 M4 => ml_bd (fX1_signOf 0 a0 M4) (fun r5 M6 => ml_bd (fJ4_append_cf468 r5 M6) (fun r7 M8 => if ml_ok a0 8 then ml_bd (fJ4_append_bf812 (M8 (ml_fl 0 + 7) a0.toNatClampNeg) M8) (fun r9 M10 => if ml_ok a0 8 then ml_jn (fun (y11 : Int32) => ml_bd (fJ4_append_cf468 y11 M10) (fun r14 M15 => if ml_ok a0 8 then ml_bd (fJ4_append_bf812 (M15 (ml_fl 0 + 9) a0.toNatClampNeg) M15) (fun r16 M17 => ml_bd (fJ4_length_8abf5 M17) (fun r18 M19 => some (.inl r18, M19))) else none)) (fun B12 => (if (M10 (ml_fl 0 + 8) a0.toNatClampNeg) = 0 then B12 94 else B12 118)) else none) else none))))
set_option maxHeartbeats 4000000 in
set_option maxRecDepth 100000 in
theorem fX6_renderBoat_c (a0 : Int32) (M : ml_M) (res : ml_R) {g : ml_G} (hO : g.2.2.2.1 11 = g.2.2.2.1 9) (hst : g.2.2.2.2.2.stackTraces = false) (h : fX6_renderBoat a0 M = some res) : ml_C yX6_renderBoat cX6_renderBoat 2 (some .int) 5 1 6 g (fun r _ => some (.int r)) [ml_rf g 0, .int a0] M res := by
  refine ml_of [(0, ml_rf g 0), (1, .int a0)] hst (by decide) (Nat.le_of_ble_eq_true rfl) rfl (fun E F => ?_)
  unfold fX6_renderBoat at h
  refine ml_aload_n (q := 0) F dX6_renderBoat_0 rfl rfl ?_
  refine ml_iload_n (q := 1) F dX6_renderBoat_1 rfl rfl ?_
  refine ml_callV (av := [.int a0]) (T := TX6) (N := 9) F (pc0 g) rfl h (fun rs h9 => fX6_needBoat_c a0 M rs hst h9) wcX6_needBoat mlX6_147 wdX6_needBoat (by decide) (by decide) (by decide) rfl seX6_needBoat imX6_needBoat rfl (Nat.le_of_ble_eq_true rfl) dX6_renderBoat_2 (fun r1 M2 h => ?_)
  refine ml_aload_n (q := 0) F dX6_renderBoat_5 rfl rfl ?_
  refine ml_get (v := ml_rf g 9) F (pc0 g) rfl iaX6 6 (by decide) lkX6_43 rfl (congrArg (fun z => some (Value.ref z)) hO) dX6_renderBoat_6 ?_
  refine ml_iconst (v := 0) F dX6_renderBoat_9 (by decide) ?_
  refine ml_callV (av := [.int 0]) (T := TJ4) (N := 4) F (pc9 g) rfl h (fun rs h9 => fJ4_setLength_d00df_c 0 M2 rs hst h9) wcJ4_setLength_d00df mlX6_238 wdJ4_setLength_d00df (by decide) (by decide) (by decide) rfl seJ4_setLength_d00df imJ4_setLength_d00df rfl (Nat.le_of_ble_eq_true rfl) dX6_renderBoat_10 (fun r3 M4 h => ?_)
  refine ml_aload_n (q := 0) F dX6_renderBoat_13 rfl rfl ?_
  refine ml_get (v := ml_rf g 9) F (pc0 g) rfl iaX6 6 (by decide) lkX6_43 rfl (congrArg (fun z => some (Value.ref z)) hO) dX6_renderBoat_14 ?_
  refine ml_aload_n (q := 0) F dX6_renderBoat_17 rfl rfl ?_
  refine ml_get (v := ml_rf g (ml_fl 0)) F (pc0 g) rfl iaX6 0 (by decide) lkX6_12 rfl rfl dX6_renderBoat_18 ?_
  refine ml_get (v := ml_rf g (ml_fl 0 + 5)) F (pf0 g (by decide : 0 < 11)) rfl iaX2 1 (by decide) lkX6_138 rfl rfl dX6_renderBoat_21 ?_
  refine ml_iload_n (q := 1) F dX6_renderBoat_24 rfl rfl ?_
  refine ml_callV (av := [.int a0]) (T := TX1) (N := 8) F (pf5 g (by decide : 0 < 11)) rfl h (fun rs h9 => fX1_signOf_c 0 a0 M4 rs (by decide : 0 < 11) hst h9) wcX1_signOf mlX6_150 wdX1_signOf (by decide) (by decide) (by decide) rfl seX1_signOf imX1_signOf rfl (Nat.le_of_ble_eq_true rfl) dX6_renderBoat_25 (fun r5 M6 h => ?_)
  refine ml_callV (av := [.int r5]) (T := TJ4) (N := 4) F (pc9 g) rfl h (fun rs h9 => fJ4_append_cf468_c r5 M6 rs hst h9) wcJ4_append_cf468 mlX6_241 wdJ4_append_cf468 (by decide) (by decide) (by decide) rfl seJ4_append_cf468 imJ4_append_cf468 rfl (Nat.le_of_ble_eq_true rfl) dX6_renderBoat_28 (fun r7 M8 h => ?_)
  refine ml_pop F dX6_renderBoat_31 rfl ?_
  refine ml_aload_n (q := 0) F dX6_renderBoat_32 rfl rfl ?_
  refine ml_get (v := ml_rf g 9) F (pc0 g) rfl iaX6 6 (by decide) lkX6_43 rfl (congrArg (fun z => some (Value.ref z)) hO) dX6_renderBoat_33 ?_
  refine ml_aload_n (q := 0) F dX6_renderBoat_36 rfl rfl ?_
  refine ml_get (v := ml_rf g (ml_fl 0)) F (pc0 g) rfl iaX6 0 (by decide) lkX6_12 rfl rfl dX6_renderBoat_37 ?_
  refine ml_get (v := ml_rf g (ml_fl 0 + 5)) F (pf0 g (by decide : 0 < 11)) rfl iaX2 1 (by decide) lkX6_138 rfl rfl dX6_renderBoat_40 ?_
  refine ml_get (v := ml_rf g (ml_fl 0 + 7)) F (pf5 g (by decide : 0 < 11)) rfl iaX1 3 (by decide) lkX6_154 rfl rfl dX6_renderBoat_43 ?_
  refine ml_iload_n (q := 1) F dX6_renderBoat_46 rfl rfl ?_
  refine ml_iald F (pf7 g (by decide : 0 < 11)) h dX6_renderBoat_47 (fun h => ?_)
  refine ml_callV (av := [.int (M8 (ml_fl 0 + 7) a0.toNatClampNeg)]) (T := TJ4) (N := 4) F (pc9 g) rfl h (fun rs h9 => fJ4_append_bf812_c (M8 (ml_fl 0 + 7) a0.toNatClampNeg) M8 rs hst h9) wcJ4_append_bf812 mlX6_245 wdJ4_append_bf812 (by decide) (by decide) (by decide) rfl seJ4_append_bf812 imJ4_append_bf812 rfl (Nat.le_of_ble_eq_true rfl) dX6_renderBoat_48 (fun r9 M10 h => ?_)
  refine ml_pop F dX6_renderBoat_51 rfl ?_
  refine ml_aload_n (q := 0) F dX6_renderBoat_52 rfl rfl ?_
  refine ml_get (v := ml_rf g 9) F (pc0 g) rfl iaX6 6 (by decide) lkX6_43 rfl (congrArg (fun z => some (Value.ref z)) hO) dX6_renderBoat_53 ?_
  refine ml_aload_n (q := 0) F dX6_renderBoat_56 rfl rfl ?_
  refine ml_get (v := ml_rf g (ml_fl 0)) F (pc0 g) rfl iaX6 0 (by decide) lkX6_12 rfl rfl dX6_renderBoat_57 ?_
  refine ml_get (v := ml_rf g (ml_fl 0 + 5)) F (pf0 g (by decide : 0 < 11)) rfl iaX2 1 (by decide) lkX6_138 rfl rfl dX6_renderBoat_60 ?_
  refine ml_get (v := ml_rf g (ml_fl 0 + 8)) F (pf5 g (by decide : 0 < 11)) rfl iaX1 4 (by decide) lkX6_157 rfl rfl dX6_renderBoat_63 ?_
  refine ml_iload_n (q := 1) F dX6_renderBoat_66 rfl rfl ?_
  refine ml_zald F (pf8 g (by decide : 0 < 11)) h dX6_renderBoat_67 (fun h => ?_)
  refine ml_jnR (P := fun B => ∀ (y11 : Int32), B y11 = some res → ml_J E g 2 (ml_Z E g (fun r _ => some (.int r)) res 1 6) (0 + 1 + 0 + 0 + 0 + 0) (0 + 6 + 0 + 0 + 0 + 0) 78 [(0, ml_rf g 0), (1, .int a0)] (.int y11 :: ml_rf g 9 :: []) M10) h ?_ (fun jn13 h => ?_)
  · intro y11 h
    dsimp only at h
    refine ml_callV (av := [.int y11]) (T := TJ4) (N := 4) F (pc9 g) rfl h (fun rs h9 => fJ4_append_cf468_c y11 M10 rs hst h9) wcJ4_append_cf468 mlX6_241 wdJ4_append_cf468 (by decide) (by decide) (by decide) rfl seJ4_append_cf468 imJ4_append_cf468 rfl (Nat.le_of_ble_eq_true rfl) dX6_renderBoat_78 (fun r14 M15 h => ?_)
    refine ml_pop F dX6_renderBoat_81 rfl ?_
    refine ml_aload_n (q := 0) F dX6_renderBoat_82 rfl rfl ?_
    refine ml_get (v := ml_rf g 9) F (pc0 g) rfl iaX6 6 (by decide) lkX6_43 rfl (congrArg (fun z => some (Value.ref z)) hO) dX6_renderBoat_83 ?_
    refine ml_aload_n (q := 0) F dX6_renderBoat_86 rfl rfl ?_
    refine ml_get (v := ml_rf g (ml_fl 0)) F (pc0 g) rfl iaX6 0 (by decide) lkX6_12 rfl rfl dX6_renderBoat_87 ?_
    refine ml_get (v := ml_rf g (ml_fl 0 + 5)) F (pf0 g (by decide : 0 < 11)) rfl iaX2 1 (by decide) lkX6_138 rfl rfl dX6_renderBoat_90 ?_
    refine ml_get (v := ml_rf g (ml_fl 0 + 9)) F (pf5 g (by decide : 0 < 11)) rfl iaX1 5 (by decide) lkX6_160 rfl rfl dX6_renderBoat_93 ?_
    refine ml_iload_n (q := 1) F dX6_renderBoat_96 rfl rfl ?_
    refine ml_iald F (pf9 g (by decide : 0 < 11)) h dX6_renderBoat_97 (fun h => ?_)
    refine ml_callV (av := [.int (M15 (ml_fl 0 + 9) a0.toNatClampNeg)]) (T := TJ4) (N := 4) F (pc9 g) rfl h (fun rs h9 => fJ4_append_bf812_c (M15 (ml_fl 0 + 9) a0.toNatClampNeg) M15 rs hst h9) wcJ4_append_bf812 mlX6_245 wdJ4_append_bf812 (by decide) (by decide) (by decide) rfl seJ4_append_bf812 imJ4_append_bf812 rfl (Nat.le_of_ble_eq_true rfl) dX6_renderBoat_98 (fun r16 M17 h => ?_)
    refine ml_pop F dX6_renderBoat_101 rfl ?_
    refine ml_aload_n (q := 0) F dX6_renderBoat_102 rfl rfl ?_
    refine ml_get (v := ml_rf g 9) F (pc0 g) rfl iaX6 6 (by decide) lkX6_43 rfl (congrArg (fun z => some (Value.ref z)) hO) dX6_renderBoat_103 ?_
    refine ml_callV (av := []) (T := TJ4) (N := 4) F (pc9 g) rfl h (fun rs h9 => fJ4_length_8abf5_c M17 rs hst h9) wcJ4_length_8abf5 mlX6_248 wdJ4_length_8abf5 (by decide) (by decide) (by decide) rfl seJ4_length_8abf5 imJ4_length_8abf5 rfl (Nat.le_of_ble_eq_true rfl) dX6_renderBoat_106 (fun r18 M19 h => ?_)
    exact ml_iret (st := []) F (Option.some.inj h) rfl rfl rfl (by decide) (by decide) dX6_renderBoat_109
  refine ml_if_eq (tgt := 76) F dX6_renderBoat_68 (by decide) h (fun _ h => ?_) (fun _ h => ?_)
  · refine ml_bipush (v := 94) F dX6_renderBoat_76 (by decide) ?_
    exact ml_sub [0, 1] rfl (jn13 _ h)
  · refine ml_bipush (v := 118) F dX6_renderBoat_71 (by decide) ?_
    refine ml_goto (tgt := 78) F dX6_renderBoat_73 (by decide) ?_
    exact ml_sub [0, 1] rfl (jn13 _ h)
set_option maxRecDepth 100000 in
def fX6_outputAt (a0 : Int32) (M : ml_M) : Option ml_R :=
  (if a0 < 0 then some (.inr 1, M) else ml_bd (fJ4_length_8abf5 M) (fun r1 M2 => (if a0 < r1 then ml_bd (fJ4_charAt_5068e a0 M2) (fun r3 M4 => if narrow .char (.int r3) = .int r3 then some (.inl r3, M4) else none) else some (.inr 1, M2))))
set_option maxHeartbeats 4000000 in
set_option maxRecDepth 100000 in
theorem fX6_outputAt_c (a0 : Int32) (M : ml_M) (res : ml_R) {g : ml_G} (hO : g.2.2.2.1 11 = g.2.2.2.1 9) (hst : g.2.2.2.2.2.stackTraces = false) (h : fX6_outputAt a0 M = some res) : ml_C yX6_outputAt cX6_outputAt 2 (some .char) 5 1 6 g (fun r _ => some (.int r)) [ml_rf g 0, .int a0] M res := by
  refine ml_of [(0, ml_rf g 0), (1, .int a0)] hst (by decide) (Nat.le_of_ble_eq_true rfl) rfl (fun E F => ?_)
  unfold fX6_outputAt at h
  refine ml_iload_n (q := 1) F dX6_outputAt_0 rfl rfl ?_
  refine ml_if_lt (tgt := 15) F dX6_outputAt_1 (by decide) h (fun _ h => ?_) (fun _ h => ?_)
  · exact ml_throw (text := "no such character of the output text") F (Option.some.inj h) ml_tw1 (by decide +kernel) (Nat.le_of_ble_eq_true rfl) (by decide) (by decide) dX6_outputAt_15 dX6_outputAt_18 dX6_outputAt_19 dX6_outputAt_21 dX6_outputAt_24
  · refine ml_iload_n (q := 1) F dX6_outputAt_4 rfl rfl ?_
    refine ml_aload_n (q := 0) F dX6_outputAt_5 rfl rfl ?_
    refine ml_get (v := ml_rf g 9) F (pc0 g) rfl iaX6 6 (by decide) lkX6_43 rfl (congrArg (fun z => some (Value.ref z)) hO) dX6_outputAt_6 ?_
    refine ml_callV (av := []) (T := TJ4) (N := 4) F (pc9 g) rfl h (fun rs h9 => fJ4_length_8abf5_c M rs hst h9) wcJ4_length_8abf5 mlX6_248 wdJ4_length_8abf5 (by decide) (by decide) (by decide) rfl seJ4_length_8abf5 imJ4_length_8abf5 rfl (Nat.le_of_ble_eq_true rfl) dX6_outputAt_9 (fun r1 M2 h => ?_)
    refine ml_icmp_lt (tgt := 25) F dX6_outputAt_12 (by decide) h (fun _ h => ?_) (fun _ h => ?_)
    · refine ml_aload_n (q := 0) F dX6_outputAt_25 rfl rfl ?_
      refine ml_get (v := ml_rf g 9) F (pc0 g) rfl iaX6 6 (by decide) lkX6_43 rfl (congrArg (fun z => some (Value.ref z)) hO) dX6_outputAt_26 ?_
      refine ml_iload_n (q := 1) F dX6_outputAt_29 rfl rfl ?_
      refine ml_callV (av := [.int a0]) (T := TJ4) (N := 4) F (pc9 g) rfl h (fun rs h9 => fJ4_charAt_5068e_c a0 M2 rs hst h9) wcJ4_charAt_5068e mlX6_256 wdJ4_charAt_5068e (by decide) (by decide) (by decide) rfl seJ4_charAt_5068e imJ4_charAt_5068e rfl (Nat.le_of_ble_eq_true rfl) dX6_outputAt_30 (fun r3 M4 h => ?_)
      obtain ⟨q5, h⟩ := ml_if h
      exact ml_iret (st := []) F (Option.some.inj h) rfl rfl q5 (by decide) (by decide) dX6_outputAt_33
    · exact ml_throw (text := "no such character of the output text") F (Option.some.inj h) ml_tw1 (by decide +kernel) (Nat.le_of_ble_eq_true rfl) (by decide) (by decide) dX6_outputAt_15 dX6_outputAt_18 dX6_outputAt_19 dX6_outputAt_21 dX6_outputAt_24
