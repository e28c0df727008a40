set_option maxRecDepth 100000 in
def fL_sign (a0 : Int32) (M : ml_M) : Option ml_R :=
  ml_jn (fun (y1 : Int32) => if narrow .char (.int y1) = .int y1 then some (.inl y1, M) else none) (fun B2 => (if (a0 - a0 / 3 * 3) = 0 then B2 114 else (if (a0 - a0 / 3 * 3) = 1 then B2 103 else B2 98)))
set_option maxHeartbeats 4000000 in
set_option maxRecDepth 100000 in
theorem fL_sign_c (a0 : Int32) (M : ml_M) (res : ml_R) {g : ml_G} (hst : g.2.2.2.2.2.stackTraces = false) (h : fL_sign a0 M = some res) : ml_C yL_sign cL_sign 1 (some .char) 1 0 0 g (fun r _ => some (.int r)) [.int a0] M res := by
  refine ml_of [(0, .int a0)] hst (by decide) (Nat.le_of_ble_eq_true rfl) rfl (fun E F => ?_)
  unfold fL_sign at h
  refine ml_iload_n (q := 0) F dL_sign_0 rfl rfl ?_
  refine ml_iconst (v := 3) F dL_sign_1 (by decide) ?_
  refine ml_irem F dL_sign_2 (by decide) ?_
  refine ml_jnR (P := fun B => ∀ (y1 : Int32), B y1 = some res → ml_J E g 1 (ml_Z E g (fun r _ => some (.int r)) res 0 0) (0) (0) 25 [(0, .int a0)] (.int y1 :: []) M) h ?_ (fun jn3 h => ?_)
  · intro y1 h
    dsimp only at h
    obtain ⟨q4, h⟩ := ml_if h
    exact ml_iret (st := []) F (Option.some.inj h) rfl rfl q4 (by decide) (by decide) dL_sign_25
  refine ml_if_ne (tgt := 11) F dL_sign_3 (by decide) h (fun _ h => ?_) (fun _ h => ?_)
  · refine ml_iload_n (q := 0) F dL_sign_11 rfl rfl ?_
    refine ml_iconst (v := 3) F dL_sign_12 (by decide) ?_
    refine ml_irem F dL_sign_13 (by decide) ?_
    refine ml_iconst (v := 1) F dL_sign_14 (by decide) ?_
    refine ml_icmp_ne (tgt := 23) F dL_sign_15 (by decide) h (fun _ h => ?_) (fun _ h => ?_)
    · refine ml_bipush (v := 98) F dL_sign_23 (by decide) ?_
      exact ml_sub [0] rfl (jn3 _ h)
    · refine ml_bipush (v := 103) F dL_sign_18 (by decide) ?_
      refine ml_goto (tgt := 25) F dL_sign_20 (by decide) ?_
      exact ml_sub [0] rfl (jn3 _ h)
  · refine ml_bipush (v := 114) F dL_sign_6 (by decide) ?_
    refine ml_goto (tgt := 25) F dL_sign_8 (by decide) ?_
    exact ml_sub [0] rfl (jn3 _ h)
set_option maxRecDepth 100000 in
def fL_cell (z : ml_Y) (a1 : Int32) (M : ml_M) : Option ml_R :=
  ml_jn (fun (y1 : Int32) => some (.inl y1, M)) (fun B2 => (if (nI z.1.1) ≤ a1 then B2 ((7919 * a1) + 12) else if ml_ok a1 z.1.1 then B2 (z.1.2 a1.toNatClampNeg) else none))
set_option maxHeartbeats 4000000 in
set_option maxRecDepth 100000 in
theorem fL_cell_c (a1 : Int32) (M : ml_M) (res : ml_R) {g : ml_G} (hst : g.2.2.2.2.2.stackTraces = false) (h : fL_cell g.1.2 a1 M = some res) : ml_C yL_cell cL_cell 2 (some .int) 1 0 0 g (fun r _ => some (.int r)) [.ref (g.2.2.2.2.1 4), .int a1] M res := by
  refine ml_of [(0, .ref (g.2.2.2.2.1 4)), (1, .int a1)] hst (by decide) (Nat.le_of_ble_eq_true rfl) rfl (fun E F => ?_)
  unfold fL_cell at h
  refine ml_iload_n (q := 1) F dL_cell_0 rfl rfl ?_
  refine ml_aload_n (q := 0) F dL_cell_1 rfl rfl ?_
  refine ml_xlen F dL_cell_2 ?_
  refine ml_jnR (P := fun B => ∀ (y1 : Int32), B y1 = some res → ml_J E g 2 (ml_Z E g (fun r _ => some (.int r)) res 0 0) (0) (0) 20 [(0, .ref (g.2.2.2.2.1 4)), (1, .int a1)] (.int y1 :: []) M) h ?_ (fun jn3 h => ?_)
  · intro y1 h
    dsimp only at h
    exact ml_iret (st := []) F (Option.some.inj h) rfl rfl rfl (by decide) (by decide) dL_cell_20
  refine ml_icmp_ge (tgt := 12) F dL_cell_3 (by decide) h (fun _ h => ?_) (fun _ h => ?_)
  · refine ml_sipush (v := 7919) F dL_cell_12 (by decide) ?_
    refine ml_iload_n (q := 1) F dL_cell_15 rfl rfl ?_
    refine ml_imul F dL_cell_16 ?_
    refine ml_bipush (v := 12) F dL_cell_17 (by decide) ?_
    refine ml_iadd F dL_cell_19 ?_
    exact ml_sub [0, 1] rfl (jn3 _ h)
  · refine ml_aload_n (q := 0) F dL_cell_6 rfl rfl ?_
    refine ml_iload_n (q := 1) F dL_cell_7 rfl rfl ?_
    refine ml_xld F h dL_cell_8 (fun h => ?_)
    refine ml_goto (tgt := 20) F dL_cell_9 (by decide) ?_
    exact ml_sub [0, 1] rfl (jn3 _ h)
set_option maxRecDepth 100000 in
def fL_some (z : ml_Y) (a1 : Int32) (a2 : Int32) (M : ml_M) : Option ml_R :=
  ml_bd (fL_cell z a1 M) (fun r1 M2 => if ¬ (a2 = 0) then some (.inl (((r1.toUInt32 >>> ((3 : Int32).toUInt32 &&& Int32.toUInt32 31)).toInt32) - ((r1.toUInt32 >>> ((3 : Int32).toUInt32 &&& Int32.toUInt32 31)).toInt32) / a2 * a2), M2) else none)
set_option maxHeartbeats 4000000 in
set_option maxRecDepth 100000 in
theorem fL_some_c (a1 : Int32) (a2 : Int32) (M : ml_M) (res : ml_R) {g : ml_G} (hst : g.2.2.2.2.2.stackTraces = false) (h : fL_some g.1.2 a1 a2 M = some res) : ml_C yL_some cL_some 3 (some .int) 2 0 0 g (fun r _ => some (.int r)) [.ref (g.2.2.2.2.1 4), .int a1, .int a2] M res := by
  refine ml_of [(0, .ref (g.2.2.2.2.1 4)), (1, .int a1), (2, .int a2)] hst (by decide) (Nat.le_of_ble_eq_true rfl) rfl (fun E F => ?_)
  unfold fL_some at h
  refine ml_aload_n (q := 0) F dL_some_0 rfl rfl ?_
  refine ml_iload_n (q := 1) F dL_some_1 rfl rfl ?_
  refine ml_callS (av := [.ref (g.2.2.2.2.1 4), .int a1]) F h (fun rs h9 => fL_cell_c a1 M rs hst h9) wcL_cell mlL_7 wdL_cell (by decide) (by decide) (by decide) rfl stL_cell rfl (Nat.le_of_ble_eq_true rfl) dL_some_2 (fun r1 M2 h => ?_)
  refine ml_iconst (v := 3) F dL_some_5 (by decide) ?_
  refine ml_iushr F dL_some_6 ?_
  refine ml_iload_n (q := 2) F dL_some_7 rfl rfl ?_
  obtain ⟨q3, h⟩ := ml_if h
  refine ml_irem F dL_some_8 q3 ?_
  exact ml_iret (st := []) F (Option.some.inj h) rfl rfl rfl (by decide) (by decide) dL_some_9
set_option maxRecDepth 100000 in
def fL_litres (a0 : Int32) (a1 : Int32) (a2 : Int32) (a3 : Int32) (M : ml_M) : Option ml_R :=
  if ¬ ((a1 + a3) = 0) then some (.inl ((if 0 ≤ ((a0 * a3) - (a2 * a1)) then ((a0 * a3) - (a2 * a1)) else 0 - ((a0 * a3) - (a2 * a1))) / (a1 + a3)), M) else none
set_option maxHeartbeats 4000000 in
set_option maxRecDepth 100000 in
theorem fL_litres_c (a0 : Int32) (a1 : Int32) (a2 : Int32) (a3 : Int32) (M : ml_M) (res : ml_R) {g : ml_G} (hst : g.2.2.2.2.2.stackTraces = false) (h : fL_litres a0 a1 a2 a3 M = some res) : ml_C yL_litres cL_litres 4 (some .int) 1 0 0 g (fun r _ => some (.int r)) [.int a0, .int a1, .int a2, .int a3] M res := by
  refine ml_of [(0, .int a0), (1, .int a1), (2, .int a2), (3, .int a3)] hst (by decide) (Nat.le_of_ble_eq_true rfl) rfl (fun E F => ?_)
  unfold fL_litres at h
  refine ml_iload_n (q := 0) F dL_litres_0 rfl rfl ?_
  refine ml_iload_n (q := 3) F dL_litres_1 rfl rfl ?_
  refine ml_imul F dL_litres_2 ?_
  refine ml_iload_n (q := 2) F dL_litres_3 rfl rfl ?_
  refine ml_iload_n (q := 1) F dL_litres_4 rfl rfl ?_
  refine ml_imul F dL_litres_5 ?_
  refine ml_isub F dL_litres_6 ?_
  refine ml_abs F mlL_97 abst mnin abco dL_litres_7 (Nat.le_of_ble_eq_true rfl) (by decide) (by decide) ?_
  refine ml_iload_n (q := 1) F dL_litres_10 rfl rfl ?_
  refine ml_iload_n (q := 3) F dL_litres_11 rfl rfl ?_
  refine ml_iadd F dL_litres_12 ?_
  obtain ⟨q1, h⟩ := ml_if h
  refine ml_idiv F dL_litres_13 q1 ?_
  exact ml_iret (st := []) F (Option.some.inj h) rfl rfl rfl (by decide) (by decide) dL_litres_14
set_option maxRecDepth 100000 in
def fL_acts (z : ml_Y) (a2 : Int32) (M : ml_M) : Option ml_R :=
  ml_bd (fL_some z (a2 + 1) 90 M) (fun r1 M2 => ml_bd (fL_some z (a2 + 2) 4 M2) (fun r3 M4 => ml_bd (fL_some z a2 14 M4) (fun r5 M6 => ml_jn (fun (y7 : Int32) (M8 : ml_M) => some (.inl 0, M8)) (fun B9 => (if r5 = 0 then ml_bd (fX6_boatCount M6) (fun r12 M13 => ml_jn (fun (y14 : Int32) (M15 : ml_M) => B9 y14 M15) (fun B16 => (if 7 ≤ r12 then B16 0 M13 else ml_bd (fL_sign r1 M13) (fun r18 M19 => ml_jn (fun (y20 : Int32) => ml_bd (fL_addBoat r18 (1 + (r1 - r1 / 9 * 9)) y20 M19) (fun r23 M24 => B16 r23 M24)) (fun B21 => (if 2 ≤ r3 then B21 0 else B21 1)))))) else (if r5 = 1 then ml_bd (fL_setValve r3 (r1 - r1 / 4 * 4) M6) (fun r26 M27 => B9 r26 M27) else (if r5 = 2 then ml_bd (fL_setValve r3 (r1 - r1 / 4 * 4) M6) (fun r29 M30 => B9 r29 M30) else (if r5 = 3 then ml_bd (fL_setValve r3 (r1 - r1 / 4 * 4) M6) (fun r32 M33 => B9 r32 M33) else (if r5 = 4 then ml_bd (fL_openGate r3 M6) (fun r35 M36 => B9 r35 M36) else (if r5 = 5 then ml_bd (fL_openGate r3 M6) (fun r38 M39 => B9 r38 M39) else (if r5 = 6 then ml_bd (fL_openGate r3 M6) (fun r41 M42 => B9 r41 M42) else (if r5 = 7 then ml_bd (fL_shutGate r3 M6) (fun r44 M45 => B9 r44 M45) else (if r5 = 8 then ml_jn (fun (y47 : Int32) (M48 : ml_M) => B9 y47 M48) (fun B49 => (if (r1 - r1 / 2 * 2) = 0 then ml_bd (fL_setRain (r1 - r1 / 10 * 10) M6) (fun r53 M54 => B49 r53 M54) else ml_bd (fL_setDrain (r1 - r1 / 10 * 10) M6) (fun r51 M52 => B49 r51 M52))) else (ml_bd (fL_advance (1 + (r1 - r1 / 9 * 9)) M6) (fun r55 M56 => B9 r55 M56)))))))))))))))
set_option maxHeartbeats 4000000 in
set_option maxRecDepth 100000 in
theorem fL_acts_c (a2 : Int32) (M : ml_M) (res : ml_R) {g : ml_G} (hst : g.2.2.2.2.2.stackTraces = false) (h : fL_acts g.1.2 a2 M = some res) : ml_C yL_acts cL_acts 6 none 9 7 42 g (fun _ _ => none) [ml_rf g 0, .ref (g.2.2.2.2.1 4), .int a2] M res := by
  refine ml_of [(0, ml_rf g 0), (1, .ref (g.2.2.2.2.1 4)), (2, .int a2)] hst (by decide) (Nat.le_of_ble_eq_true rfl) rfl (fun E F => ?_)
  unfold fL_acts at h
  refine ml_aload_n (q := 1) F dL_acts_0 rfl rfl ?_
  refine ml_iload_n (q := 2) F dL_acts_1 rfl rfl ?_
  refine ml_iconst (v := 1) F dL_acts_2 (by decide) ?_
  refine ml_iadd F dL_acts_3 ?_
  refine ml_bipush (v := 90) F dL_acts_4 (by decide) ?_
  refine ml_callS (av := [.ref (g.2.2.2.2.1 4), .int (a2 + 1), .int 90]) F h (fun rs h9 => fL_some_c (a2 + 1) 90 M rs hst h9) wcL_some mlL_65 wdL_some (by decide) (by decide) (by decide) rfl stL_some rfl (Nat.le_of_ble_eq_true rfl) dL_acts_6 (fun r1 M2 h => ?_)
  refine ml_istore_n (ls2 := [(3, .int r1), (0, ml_rf g 0), (1, .ref (g.2.2.2.2.1 4)), (2, .int a2)]) F dL_acts_9 rfl (by decide) rfl ?_
  refine ml_aload_n (q := 2) F dL_acts_10 rfl rfl ?_
  refine ml_iload_n (q := 3) F dL_acts_11 rfl rfl ?_
  refine ml_iconst (v := 2) F dL_acts_12 (by decide) ?_
  refine ml_iadd F dL_acts_13 ?_
  refine ml_iconst (v := 4) F dL_acts_14 (by decide) ?_
  refine ml_callS (av := [.ref (g.2.2.2.2.1 4), .int (a2 + 2), .int 4]) F h (fun rs h9 => fL_some_c (a2 + 2) 4 M2 rs hst h9) wcL_some mlL_65 wdL_some (by decide) (by decide) (by decide) rfl stL_some rfl (Nat.le_of_ble_eq_true rfl) dL_acts_15 (fun r3 M4 h => ?_)
  refine ml_istore (ls2 := [(4, .int r3), (3, .int r1), (0, ml_rf g 0), (1, .ref (g.2.2.2.2.1 4)), (2, .int a2)]) F dL_acts_18 (by decide) rfl ?_
  refine ml_aload_n (q := 3) F dL_acts_20 rfl rfl ?_
  refine ml_iload_n (q := 4) F dL_acts_21 rfl rfl ?_
  refine ml_bipush (v := 14) F dL_acts_22 (by decide) ?_
  refine ml_callS (av := [.ref (g.2.2.2.2.1 4), .int a2, .int 14]) F h (fun rs h9 => fL_some_c a2 14 M4 rs hst h9) wcL_some mlL_65 wdL_some (by decide) (by decide) (by decide) rfl stL_some rfl (Nat.le_of_ble_eq_true rfl) dL_acts_24 (fun r5 M6 h => ?_)
  refine ml_jnR (P := fun B => ∀ (y7 : Int32) (M8 : ml_M), B y7 M8 = some res → ml_J E g 6 (ml_Z E g (fun _ _ => none) res 7 42) (0 + 0 + 0 + 0 + 0 + 0 + 1) (0 + 0 + 0 + 0 + 0 + 0 + 6) 197 [(0, ml_rf g 0), (1, .ref (g.2.2.2.2.1 4)), (2, .int a2), (3, .int r1), (4, .int r3), (5, .int y7)] ([]) M8) h ?_ (fun jn10 h => ?_)
  · intro y7 M8 h
    dsimp only at h
    exact ml_vret (st := []) F (Option.some.inj h) rfl rfl (by decide) (by decide) dL_acts_197
  refine ml_ifc h (fun c11 h => ?_) (fun c11 h => ?_)
  · refine ml_tableIn (tgt := 76) F dL_acts_27 (by rw [c11]; decide) (by rw [c11]; decide) (by rw [c11]; rfl) (by decide) ?_
    refine ml_aload_n (q := 2) F dL_acts_76 rfl rfl ?_
    refine ml_callV (av := []) (T := TX6) (N := 9) F (pc0 g) rfl h (fun rs h9 => fX6_boatCount_c M6 rs hst h9) wcX6_boatCount mlL_82 wdX6_boatCount (by decide) (by decide) (by decide) rfl seX6_boatCount imX6_boatCount rfl (Nat.le_of_ble_eq_true rfl) dL_acts_77 (fun r12 M13 h => ?_)
    refine ml_bipush (v := 7) F dL_acts_80 (by decide) ?_
    refine ml_jnR (P := fun B => ∀ (y14 : Int32) (M15 : ml_M), B y14 M15 = some res → ml_J E g 6 (ml_Z E g (fun _ _ => none) res 7 42) (0 + 0 + 0 + 0 + 0 + 0 + 1) (0 + 0 + 0 + 0 + 0 + 0 + 6) 114 [(0, ml_rf g 0), (1, .ref (g.2.2.2.2.1 4)), (2, .int a2), (3, .int r1), (4, .int r3)] (.int y14 :: []) M15) h ?_ (fun jn17 h => ?_)
    · intro y14 M15 h
      dsimp only at h
      refine ml_istore (ls2 := [(5, .int y14), (0, ml_rf g 0), (1, .ref (g.2.2.2.2.1 4)), (2, .int a2), (3, .int r1), (4, .int r3)]) F dL_acts_114 (by decide) rfl ?_
      refine ml_goto (tgt := 197) F dL_acts_116 (by decide) ?_
      exact ml_sub [1, 2, 3, 4, 5, 0] rfl (jn10 _ _ h)
    refine ml_icmp_ge (tgt := 113) F dL_acts_82 (by decide) h (fun _ h => ?_) (fun _ h => ?_)
    · refine ml_iconst (v := 0) F dL_acts_113 (by decide) ?_
      exact ml_wid (by omega) (by omega) (ml_sub [2, 3, 4, 1, 0] rfl (jn17 _ _ h))
    · refine ml_aload_n (q := 2) F dL_acts_85 rfl rfl ?_
      refine ml_iload_n (q := 1) F dL_acts_86 rfl rfl ?_
      refine ml_callS (av := [.int r1]) F h (fun rs h9 => fL_sign_c r1 M13 rs hst h9) wcL_sign mlL_72 wdL_sign (by decide) (by decide) (by decide) rfl stL_sign rfl (Nat.le_of_ble_eq_true rfl) dL_acts_87 (fun r18 M19 h => ?_)
      refine ml_iconst (v := 1) F dL_acts_90 (by decide) ?_
      refine ml_iload_n (q := 1) F dL_acts_91 rfl rfl ?_
      refine ml_bipush (v := 9) F dL_acts_92 (by decide) ?_
      refine ml_irem F dL_acts_94 (by decide) ?_
      refine ml_iadd F dL_acts_95 ?_
      refine ml_iload (q := 0) F dL_acts_96 rfl ?_
      refine ml_iconst (v := 2) F dL_acts_98 (by decide) ?_
      refine ml_jnR (P := fun B => ∀ (y20 : Int32), B y20 = some res → ml_J E g 6 (ml_Z E g (fun _ _ => none) res 7 42) (0 + 0 + 0 + 0 + 0 + 0) (0 + 0 + 0 + 0 + 0 + 0) 107 [(0, ml_rf g 0), (1, .ref (g.2.2.2.2.1 4)), (2, .int a2), (3, .int r1), (4, .int r3)] (.int y20 :: .int (1 + (r1 - r1 / 9 * 9)) :: .int r18 :: ml_rf g 0 :: []) M19) h ?_ (fun jn22 h => ?_)
      · intro y20 h
        dsimp only at h
        refine ml_callSW (av := [ml_rf g 0, .int r18, .int (1 + (r1 - r1 / 9 * 9)), .int y20]) F h (fun rs h9 => fL_addBoat_c r18 (1 + (r1 - r1 / 9 * 9)) y20 M19 rs hst h9) wcL_addBoat mlL_75 wdL_addBoat (by decide) (by decide) (by decide) rfl stL_addBoat rfl (Nat.le_of_ble_eq_true rfl) dL_acts_107 (fun r23 M24 h => ?_)
        refine ml_goto (tgt := 114) F dL_acts_110 (by decide) ?_
        exact ml_wid (by omega) (by omega) (ml_sub [0, 1, 2, 3, 4] rfl (jn17 _ _ h))
      refine ml_icmp_ge (tgt := 106) F dL_acts_99 (by decide) h (fun _ h => ?_) (fun _ h => ?_)
      · refine ml_iconst (v := 0) F dL_acts_106 (by decide) ?_
        exact ml_sub [2, 3, 4, 1, 0] rfl (jn22 _ h)
      · refine ml_iconst (v := 1) F dL_acts_102 (by decide) ?_
        refine ml_goto (tgt := 107) F dL_acts_103 (by decide) ?_
        exact ml_sub [2, 3, 4, 1, 0] rfl (jn22 _ h)
  refine ml_ifc h (fun c25 h => ?_) (fun c25 h => ?_)
  · refine ml_tableIn (tgt := 119) F dL_acts_27 (by rw [c25]; decide) (by rw [c25]; decide) (by rw [c25]; rfl) (by decide) ?_
    refine ml_aload_n (q := 2) F dL_acts_119 rfl rfl ?_
    refine ml_iload (q := 0) F dL_acts_120 rfl ?_
    refine ml_iload_n (q := 1) F dL_acts_122 rfl rfl ?_
    refine ml_iconst (v := 4) F dL_acts_123 (by decide) ?_
    refine ml_irem F dL_acts_124 (by decide) ?_
    refine ml_callSW (av := [ml_rf g 0, .int r3, .int (r1 - r1 / 4 * 4)]) F h (fun rs h9 => fL_setValve_c r3 (r1 - r1 / 4 * 4) M6 rs hst h9) wcL_setValve mlL_69 wdL_setValve (by decide) (by decide) (by decide) rfl stL_setValve rfl (Nat.le_of_ble_eq_true rfl) dL_acts_125 (fun r26 M27 h => ?_)
    refine ml_istore (ls2 := [(5, .int r26), (4, .int r3), (3, .int r1), (0, ml_rf g 0), (1, .ref (g.2.2.2.2.1 4)), (2, .int a2)]) F dL_acts_128 (by decide) rfl ?_
    refine ml_goto (tgt := 197) F dL_acts_130 (by decide) ?_
    exact ml_sub [3, 4, 5, 2, 1, 0] rfl (jn10 _ _ h)
  refine ml_ifc h (fun c28 h => ?_) (fun c28 h => ?_)
  · refine ml_tableIn (tgt := 119) F dL_acts_27 (by rw [c28]; decide) (by rw [c28]; decide) (by rw [c28]; rfl) (by decide) ?_
    refine ml_aload_n (q := 2) F dL_acts_119 rfl rfl ?_
    refine ml_iload (q := 0) F dL_acts_120 rfl ?_
    refine ml_iload_n (q := 1) F dL_acts_122 rfl rfl ?_
    refine ml_iconst (v := 4) F dL_acts_123 (by decide) ?_
    refine ml_irem F dL_acts_124 (by decide) ?_
    refine ml_callSW (av := [ml_rf g 0, .int r3, .int (r1 - r1 / 4 * 4)]) F h (fun rs h9 => fL_setValve_c r3 (r1 - r1 / 4 * 4) M6 rs hst h9) wcL_setValve mlL_69 wdL_setValve (by decide) (by decide) (by decide) rfl stL_setValve rfl (Nat.le_of_ble_eq_true rfl) dL_acts_125 (fun r29 M30 h => ?_)
    refine ml_istore (ls2 := [(5, .int r29), (4, .int r3), (3, .int r1), (0, ml_rf g 0), (1, .ref (g.2.2.2.2.1 4)), (2, .int a2)]) F dL_acts_128 (by decide) rfl ?_
    refine ml_goto (tgt := 197) F dL_acts_130 (by decide) ?_
    exact ml_sub [3, 4, 5, 2, 1, 0] rfl (jn10 _ _ h)
  refine ml_ifc h (fun c31 h => ?_) (fun c31 h => ?_)
  · refine ml_tableIn (tgt := 119) F dL_acts_27 (by rw [c31]; decide) (by rw [c31]; decide) (by rw [c31]; rfl) (by decide) ?_
    refine ml_aload_n (q := 2) F dL_acts_119 rfl rfl ?_
    refine ml_iload (q := 0) F dL_acts_120 rfl ?_
    refine ml_iload_n (q := 1) F dL_acts_122 rfl rfl ?_
    refine ml_iconst (v := 4) F dL_acts_123 (by decide) ?_
    refine ml_irem F dL_acts_124 (by decide) ?_
    refine ml_callSW (av := [ml_rf g 0, .int r3, .int (r1 - r1 / 4 * 4)]) F h (fun rs h9 => fL_setValve_c r3 (r1 - r1 / 4 * 4) M6 rs hst h9) wcL_setValve mlL_69 wdL_setValve (by decide) (by decide) (by decide) rfl stL_setValve rfl (Nat.le_of_ble_eq_true rfl) dL_acts_125 (fun r32 M33 h => ?_)
    refine ml_istore (ls2 := [(5, .int r32), (4, .int r3), (3, .int r1), (0, ml_rf g 0), (1, .ref (g.2.2.2.2.1 4)), (2, .int a2)]) F dL_acts_128 (by decide) rfl ?_
    refine ml_goto (tgt := 197) F dL_acts_130 (by decide) ?_
    exact ml_sub [3, 4, 5, 2, 1, 0] rfl (jn10 _ _ h)
  refine ml_ifc h (fun c34 h => ?_) (fun c34 h => ?_)
  · refine ml_tableIn (tgt := 133) F dL_acts_27 (by rw [c34]; decide) (by rw [c34]; decide) (by rw [c34]; rfl) (by decide) ?_
    refine ml_aload_n (q := 2) F dL_acts_133 rfl rfl ?_
    refine ml_iload (q := 0) F dL_acts_134 rfl ?_
    refine ml_callSW (av := [ml_rf g 0, .int r3]) F h (fun rs h9 => fL_openGate_c r3 M6 rs hst h9) wcL_openGate mlL_86 wdL_openGate (by decide) (by decide) (by decide) rfl stL_openGate rfl (Nat.le_of_ble_eq_true rfl) dL_acts_136 (fun r35 M36 h => ?_)
    refine ml_istore (ls2 := [(5, .int r35), (4, .int r3), (3, .int r1), (0, ml_rf g 0), (1, .ref (g.2.2.2.2.1 4)), (2, .int a2)]) F dL_acts_139 (by decide) rfl ?_
    refine ml_goto (tgt := 197) F dL_acts_141 (by decide) ?_
    exact ml_sub [3, 4, 5, 2, 1, 0] rfl (jn10 _ _ h)
  refine ml_ifc h (fun c37 h => ?_) (fun c37 h => ?_)
  · refine ml_tableIn (tgt := 133) F dL_acts_27 (by rw [c37]; decide) (by rw [c37]; decide) (by rw [c37]; rfl) (by decide) ?_
    refine ml_aload_n (q := 2) F dL_acts_133 rfl rfl ?_
    refine ml_iload (q := 0) F dL_acts_134 rfl ?_
    refine ml_callSW (av := [ml_rf g 0, .int r3]) F h (fun rs h9 => fL_openGate_c r3 M6 rs hst h9) wcL_openGate mlL_86 wdL_openGate (by decide) (by decide) (by decide) rfl stL_openGate rfl (Nat.le_of_ble_eq_true rfl) dL_acts_136 (fun r38 M39 h => ?_)
    refine ml_istore (ls2 := [(5, .int r38), (4, .int r3), (3, .int r1), (0, ml_rf g 0), (1, .ref (g.2.2.2.2.1 4)), (2, .int a2)]) F dL_acts_139 (by decide) rfl ?_
    refine ml_goto (tgt := 197) F dL_acts_141 (by decide) ?_
    exact ml_sub [3, 4, 5, 2, 1, 0] rfl (jn10 _ _ h)
  refine ml_ifc h (fun c40 h => ?_) (fun c40 h => ?_)
  · refine ml_tableIn (tgt := 133) F dL_acts_27 (by rw [c40]; decide) (by rw [c40]; decide) (by rw [c40]; rfl) (by decide) ?_
    refine ml_aload_n (q := 2) F dL_acts_133 rfl rfl ?_
    refine ml_iload (q := 0) F dL_acts_134 rfl ?_
    refine ml_callSW (av := [ml_rf g 0, .int r3]) F h (fun rs h9 => fL_openGate_c r3 M6 rs hst h9) wcL_openGate mlL_86 wdL_openGate (by decide) (by decide) (by decide) rfl stL_openGate rfl (Nat.le_of_ble_eq_true rfl) dL_acts_136 (fun r41 M42 h => ?_)
    refine ml_istore (ls2 := [(5, .int r41), (4, .int r3), (3, .int r1), (0, ml_rf g 0), (1, .ref (g.2.2.2.2.1 4)), (2, .int a2)]) F dL_acts_139 (by decide) rfl ?_
    refine ml_goto (tgt := 197) F dL_acts_141 (by decide) ?_
    exact ml_sub [3, 4, 5, 2, 1, 0] rfl (jn10 _ _ h)
  refine ml_ifc h (fun c43 h => ?_) (fun c43 h => ?_)
  · refine ml_tableIn (tgt := 144) F dL_acts_27 (by rw [c43]; decide) (by rw [c43]; decide) (by rw [c43]; rfl) (by decide) ?_
    refine ml_aload_n (q := 2) F dL_acts_144 rfl rfl ?_
    refine ml_iload (q := 0) F dL_acts_145 rfl ?_
    refine ml_callSW (av := [ml_rf g 0, .int r3]) F h (fun rs h9 => fL_shutGate_c r3 M6 rs hst h9) wcL_shutGate mlL_89 wdL_shutGate (by decide) (by decide) (by decide) rfl stL_shutGate rfl (Nat.le_of_ble_eq_true rfl) dL_acts_147 (fun r44 M45 h => ?_)
    refine ml_istore (ls2 := [(5, .int r44), (4, .int r3), (3, .int r1), (0, ml_rf g 0), (1, .ref (g.2.2.2.2.1 4)), (2, .int a2)]) F dL_acts_150 (by decide) rfl ?_
    refine ml_goto (tgt := 197) F dL_acts_152 (by decide) ?_
    exact ml_sub [3, 4, 5, 2, 1, 0] rfl (jn10 _ _ h)
  refine ml_ifc h (fun c46 h => ?_) (fun c46 h => ?_)
  · refine ml_tableIn (tgt := 155) F dL_acts_27 (by rw [c46]; decide) (by rw [c46]; decide) (by rw [c46]; rfl) (by decide) ?_
    refine ml_iload_n (q := 1) F dL_acts_155 rfl rfl ?_
    refine ml_iconst (v := 2) F dL_acts_156 (by decide) ?_
    refine ml_irem F dL_acts_157 (by decide) ?_
    refine ml_jnR (P := fun B => ∀ (y47 : Int32) (M48 : ml_M), B y47 M48 = some res → ml_J E g 6 (ml_Z E g (fun _ _ => none) res 7 42) (0 + 0 + 0 + 0 + 1) (0 + 0 + 0 + 0 + 6) 180 [(0, ml_rf g 0), (1, .ref (g.2.2.2.2.1 4)), (2, .int a2), (3, .int r1), (4, .int r3)] (.int y47 :: []) M48) h ?_ (fun jn50 h => ?_)
    · intro y47 M48 h
      dsimp only at h
      refine ml_istore (ls2 := [(5, .int y47), (0, ml_rf g 0), (1, .ref (g.2.2.2.2.1 4)), (2, .int a2), (3, .int r1), (4, .int r3)]) F dL_acts_180 (by decide) rfl ?_
      refine ml_goto (tgt := 197) F dL_acts_182 (by decide) ?_
      exact ml_sub [1, 2, 3, 4, 5, 0] rfl (jn10 _ _ h)
    refine ml_if_ne (tgt := 172) F dL_acts_158 (by decide) h (fun _ h => ?_) (fun _ h => ?_)
    · refine ml_aload_n (q := 2) F dL_acts_172 rfl rfl ?_
      refine ml_iload_n (q := 1) F dL_acts_173 rfl rfl ?_
      refine ml_bipush (v := 10) F dL_acts_174 (by decide) ?_
      refine ml_irem F dL_acts_176 (by decide) ?_
      refine ml_callSW (av := [ml_rf g 0, .int (r1 - r1 / 10 * 10)]) F h (fun rs h9 => fL_setDrain_c (r1 - r1 / 10 * 10) M6 rs hst h9) wcL_setDrain mlL_93 wdL_setDrain (by decide) (by decide) (by decide) rfl stL_setDrain rfl (Nat.le_of_ble_eq_true rfl) dL_acts_177 (fun r51 M52 h => ?_)
      exact ml_sub [2, 3, 4, 1, 0] rfl (jn50 _ _ h)
    · refine ml_aload_n (q := 2) F dL_acts_161 rfl rfl ?_
      refine ml_iload_n (q := 1) F dL_acts_162 rfl rfl ?_
      refine ml_bipush (v := 10) F dL_acts_163 (by decide) ?_
      refine ml_irem F dL_acts_165 (by decide) ?_
      refine ml_callSW (av := [ml_rf g 0, .int (r1 - r1 / 10 * 10)]) F h (fun rs h9 => fL_setRain_c (r1 - r1 / 10 * 10) M6 rs hst h9) wcL_setRain mlL_91 wdL_setRain (by decide) (by decide) (by decide) rfl stL_setRain rfl (Nat.le_of_ble_eq_true rfl) dL_acts_166 (fun r53 M54 h => ?_)
      refine ml_goto (tgt := 180) F dL_acts_169 (by decide) ?_
      exact ml_sub [2, 3, 4, 1, 0] rfl (jn50 _ _ h)
  refine ml_tableD (tgt := 185) F dL_acts_27 (fun v9 q1 q2 q3 => ?_) (by decide) ?_
  · exfalso; have z0 : ¬ (0 : Int) = r5.toInt := ml_ne_i (k := 0) c11; have z1 : ¬ (1 : Int) = r5.toInt := ml_ne_i (k := 1) c25; have z2 : ¬ (2 : Int) = r5.toInt := ml_ne_i (k := 2) c28; have z3 : ¬ (3 : Int) = r5.toInt := ml_ne_i (k := 3) c31; have z4 : ¬ (4 : Int) = r5.toInt := ml_ne_i (k := 4) c34; have z5 : ¬ (5 : Int) = r5.toInt := ml_ne_i (k := 5) c37; have z6 : ¬ (6 : Int) = r5.toInt := ml_ne_i (k := 6) c40; have z7 : ¬ (7 : Int) = r5.toInt := ml_ne_i (k := 7) c43; have z8 : ¬ (8 : Int) = r5.toInt := ml_ne_i (k := 8) c46; omega
  refine ml_aload_n (q := 2) F dL_acts_185 rfl rfl ?_
  refine ml_iconst (v := 1) F dL_acts_186 (by decide) ?_
  refine ml_iload_n (q := 1) F dL_acts_187 rfl rfl ?_
  refine ml_bipush (v := 9) F dL_acts_188 (by decide) ?_
  refine ml_irem F dL_acts_190 (by decide) ?_
  refine ml_iadd F dL_acts_191 ?_
  refine ml_callSW (av := [ml_rf g 0, .int (1 + (r1 - r1 / 9 * 9))]) F h (fun rs h9 => fL_advance_c (1 + (r1 - r1 / 9 * 9)) M6 rs hst h9) wcL_advance mlL_95 wdL_advance (by decide) (by decide) (by decide) rfl stL_advance rfl (Nat.le_of_ble_eq_true rfl) dL_acts_192 (fun r55 M56 h => ?_)
  refine ml_istore (ls2 := [(5, .int r55), (4, .int r3), (3, .int r1), (0, ml_rf g 0), (1, .ref (g.2.2.2.2.1 4)), (2, .int a2)]) F dL_acts_195 (by decide) rfl ?_
  exact ml_sub [3, 4, 5, 2, 1, 0] rfl (jn10 _ _ h)
set_option maxRecDepth 100000 in
def fL_build_s0 (z : ml_Y) (rec : Nat → Int32 → ml_M → Option ml_R) (x3 : Int32) (M : ml_M) : Option ml_R :=
  (if 4 ≤ x3 then rec 1 0 M else ml_bd (fL_some z x3 4 M) (fun r1 M2 => ml_bd (fL_setValve x3 r1 M2) (fun r3 M4 => rec 0 (x3 + 1) M4)))
set_option maxRecDepth 100000 in
def fL_build_s1 (z : ml_Y) (rec : Nat → Int32 → ml_M → Option ml_R) (x3 : Int32) (M : ml_M) : Option ml_R :=
  (if 4 ≤ x3 then rec 2 0 M else ml_bd (fL_some z (4 + x3) 3 M) (fun r1 M2 => ml_bd (fL_sign r1 M2) (fun r3 M4 => ml_bd (fL_some z (8 + x3) 9 M4) (fun r5 M6 => ml_bd (fL_some z (12 + x3) 2 M6) (fun r7 M8 => ml_jn (fun (y9 : Int32) => ml_bd (fL_addBoat r3 (1 + r5) y9 M8) (fun r12 M13 => rec 1 (x3 + 1) M13)) (fun B10 => (if r7 = 0 then B10 1 else B10 0)))))))
set_option maxRecDepth 100000 in
def fL_build_s2 (z : ml_Y) (rec : Nat → Int32 → ml_M → Option ml_R) (x3 : Int32) (M : ml_M) : Option ml_R :=
  (if 18 ≤ x3 then some (.inl 0, M) else ml_bd (fL_acts z (16 + (3 * x3)) M) (fun r1 M2 => rec 2 (x3 + 1) M2))
def fL_build_l (z : ml_Y) : Nat → Nat → Int32 → ml_M → Option ml_R
  | 0, _ => fun _ _ => none
  | n + 1, 0 => fL_build_s0 z (fL_build_l z n)
  | n + 1, 1 => fL_build_s1 z (fL_build_l z n)
  | n + 1, _ => fL_build_s2 z (fL_build_l z n)
set_option maxHeartbeats 4000000 in
set_option maxRecDepth 100000 in
theorem fL_build_w {E : ml_E} {g : ml_G} {res : ml_R} (F : ml_F E g cL_build yL_build.cls 4 10 369 2214 none []) : ∀ fuel : Nat, (∀ (x3 : Int32) (M : ml_M) (k n : Nat), k + 9 * fuel ≤ 369 → n + 54 * fuel ≤ 2214 → fL_build_l g.1.2 fuel 0 x3 M = some res → ml_J E g 4 (ml_Z E g (fun _ _ => none) res 369 2214) k n 2 [(0, ml_rf g 0), (1, .ref (g.2.2.2.2.1 4)), (3, .int x3)] [] M) ∧ (∀ (x3 : Int32) (M : ml_M) (k n : Nat), k + 9 * fuel ≤ 369 → n + 54 * fuel ≤ 2214 → fL_build_l g.1.2 fuel 1 x3 M = some res → ml_J E g 4 (ml_Z E g (fun _ _ => none) res 369 2214) k n 27 [(0, ml_rf g 0), (1, .ref (g.2.2.2.2.1 4)), (3, .int x3)] [] M) ∧ (∀ (x3 : Int32) (M : ml_M) (k n : Nat), k + 9 * fuel ≤ 369 → n + 54 * fuel ≤ 2214 → fL_build_l g.1.2 fuel 2 x3 M = some res → ml_J E g 4 (ml_Z E g (fun _ _ => none) res 369 2214) k n 85 [(0, ml_rf g 0), (1, .ref (g.2.2.2.2.1 4)), (3, .int x3)] [] M) := by
  have hst := ml_F_st F
  intro fuel
  induction fuel with
  | zero => exact ⟨fun _ _ _ _ _ _ h => (nomatch (show (none : Option ml_R) = some res from h)), fun _ _ _ _ _ _ h => (nomatch (show (none : Option ml_R) = some res from h)), fun _ _ _ _ _ _ h => (nomatch (show (none : Option ml_R) = some res from h))⟩
  | succ fuel ih =>
    refine ⟨?_, ?_, ?_⟩
    · intro x3 M k n hk9 hn9 h
      replace h : fL_build_s0 g.1.2 (fL_build_l g.1.2 fuel) x3 M = some res := h
      unfold fL_build_s0 at h
      refine ml_iload_n (q := 2) F dL_build_2 rfl rfl ?_
      refine ml_iconst (v := 4) F dL_build_3 (by decide) ?_
      refine ml_icmp_ge (tgt := 25) F dL_build_4 (by decide) h (fun _ h => ?_) (fun _ h => ?_)
      · refine ml_iconst (v := 0) F dL_build_25 (by decide) ?_
        refine ml_istore_n (ls2 := [(3, .int 0), (0, ml_rf g 0), (1, .ref (g.2.2.2.2.1 4))]) F dL_build_26 rfl (by decide) rfl ?_
        exact ml_sub [1, 2, 0] rfl ((ih.2.1) _ _ _ _ (by omega) (by omega) h)
      · refine ml_aload_n (q := 0) F dL_build_7 rfl rfl ?_
        refine ml_iload_n (q := 2) F dL_build_8 rfl rfl ?_
        refine ml_aload_n (q := 1) F dL_build_9 rfl rfl ?_
        refine ml_iload_n (q := 2) F dL_build_10 rfl rfl ?_
        refine ml_iconst (v := 4) F dL_build_11 (by decide) ?_
        refine ml_callS (av := [.ref (g.2.2.2.2.1 4), .int x3, .int 4]) F h (fun rs h9 => fL_some_c x3 4 M rs hst h9) wcL_some mlL_65 wdL_some (by decide) (by omega) (by omega) rfl stL_some rfl (Nat.le_of_ble_eq_true rfl) dL_build_12 (fun r1 M2 h => ?_)
        refine ml_callSW (av := [ml_rf g 0, .int x3, .int r1]) F h (fun rs h9 => fL_setValve_c x3 r1 M2 rs hst h9) wcL_setValve mlL_69 wdL_setValve (by decide) (by omega) (by omega) rfl stL_setValve rfl (Nat.le_of_ble_eq_true rfl) dL_build_15 (fun r3 M4 h => ?_)
        refine ml_istore_n (ls2 := [(2, .int r3), (0, ml_rf g 0), (1, .ref (g.2.2.2.2.1 4)), (3, .int x3)]) F dL_build_18 rfl (by decide) rfl ?_
        refine ml_iinc (q := 3) (v := x3 + 1) (ls2 := [(3, .int (x3 + 1)), (2, .int r3), (0, ml_rf g 0), (1, .ref (g.2.2.2.2.1 4))]) F dL_build_19 rfl rfl (by decide) rfl ?_
        refine ml_goto (tgt := 2) F dL_build_22 (by decide) ?_
        exact ml_sub [2, 3, 0] rfl ((ih.1) _ _ _ _ (by omega) (by omega) h)
    · intro x3 M k n hk9 hn9 h
      replace h : fL_build_s1 g.1.2 (fL_build_l g.1.2 fuel) x3 M = some res := h
      unfold fL_build_s1 at h
      refine ml_iload_n (q := 2) F dL_build_27 rfl rfl ?_
      refine ml_iconst (v := 4) F dL_build_28 (by decide) ?_
      refine ml_icmp_ge (tgt := 83) F dL_build_29 (by decide) h (fun _ h => ?_) (fun _ h => ?_)
      · refine ml_iconst (v := 0) F dL_build_83 (by decide) ?_
        refine ml_istore_n (ls2 := [(3, .int 0), (0, ml_rf g 0), (1, .ref (g.2.2.2.2.1 4))]) F dL_build_84 rfl (by decide) rfl ?_
        exact ml_sub [1, 2, 0] rfl ((ih.2.2) _ _ _ _ (by omega) (by omega) h)
      · refine ml_aload_n (q := 0) F dL_build_32 rfl rfl ?_
        refine ml_aload_n (q := 1) F dL_build_33 rfl rfl ?_
        refine ml_iconst (v := 4) F dL_build_34 (by decide) ?_
        refine ml_iload_n (q := 2) F dL_build_35 rfl rfl ?_
        refine ml_iadd F dL_build_36 ?_
        refine ml_iconst (v := 3) F dL_build_37 (by decide) ?_
        refine ml_callS (av := [.ref (g.2.2.2.2.1 4), .int (4 + x3), .int 3]) F h (fun rs h9 => fL_some_c (4 + x3) 3 M rs hst h9) wcL_some mlL_65 wdL_some (by decide) (by omega) (by omega) rfl stL_some rfl (Nat.le_of_ble_eq_true rfl) dL_build_38 (fun r1 M2 h => ?_)
        refine ml_callS (av := [.int r1]) F h (fun rs h9 => fL_sign_c r1 M2 rs hst h9) wcL_sign mlL_72 wdL_sign (by decide) (by omega) (by omega) rfl stL_sign rfl (Nat.le_of_ble_eq_true rfl) dL_build_41 (fun r3 M4 h => ?_)
        refine ml_iconst (v := 1) F dL_build_44 (by decide) ?_
        refine ml_aload_n (q := 1) F dL_build_45 rfl rfl ?_
        refine ml_bipush (v := 8) F dL_build_46 (by decide) ?_
        refine ml_iload_n (q := 2) F dL_build_48 rfl rfl ?_
        refine ml_iadd F dL_build_49 ?_
        refine ml_bipush (v := 9) F dL_build_50 (by decide) ?_
        refine ml_callS (av := [.ref (g.2.2.2.2.1 4), .int (8 + x3), .int 9]) F h (fun rs h9 => fL_some_c (8 + x3) 9 M4 rs hst h9) wcL_some mlL_65 wdL_some (by decide) (by omega) (by omega) rfl stL_some rfl (Nat.le_of_ble_eq_true rfl) dL_build_52 (fun r5 M6 h => ?_)
        refine ml_iadd F dL_build_55 ?_
        refine ml_aload_n (q := 1) F dL_build_56 rfl rfl ?_
        refine ml_bipush (v := 12) F dL_build_57 (by decide) ?_
        refine ml_iload_n (q := 2) F dL_build_59 rfl rfl ?_
        refine ml_iadd F dL_build_60 ?_
        refine ml_iconst (v := 2) F dL_build_61 (by decide) ?_
        refine ml_callS (av := [.ref (g.2.2.2.2.1 4), .int (12 + x3), .int 2]) F h (fun rs h9 => fL_some_c (12 + x3) 2 M6 rs hst h9) wcL_some mlL_65 wdL_some (by decide) (by omega) (by omega) rfl stL_some rfl (Nat.le_of_ble_eq_true rfl) dL_build_62 (fun r7 M8 h => ?_)
        refine ml_jnR (P := fun B => ∀ (y9 : Int32), B y9 = some res → ml_J E g 4 (ml_Z E g (fun _ _ => none) res 369 2214) (k + 0 + 0 + 0 + 0) (n + 0 + 0 + 0 + 0) 73 [(0, ml_rf g 0), (1, .ref (g.2.2.2.2.1 4)), (3, .int x3)] (.int y9 :: .int (1 + r5) :: .int r3 :: ml_rf g 0 :: []) M8) h ?_ (fun jn11 h => ?_)
        · intro y9 h
          dsimp only at h
          refine ml_callSW (av := [ml_rf g 0, .int r3, .int (1 + r5), .int y9]) F h (fun rs h9 => fL_addBoat_c r3 (1 + r5) y9 M8 rs hst h9) wcL_addBoat mlL_75 wdL_addBoat (by decide) (by omega) (by omega) rfl stL_addBoat rfl (Nat.le_of_ble_eq_true rfl) dL_build_73 (fun r12 M13 h => ?_)
          refine ml_istore_n (ls2 := [(2, .int r12), (0, ml_rf g 0), (1, .ref (g.2.2.2.2.1 4)), (3, .int x3)]) F dL_build_76 rfl (by decide) rfl ?_
          refine ml_iinc (q := 3) (v := x3 + 1) (ls2 := [(3, .int (x3 + 1)), (2, .int r12), (0, ml_rf g 0), (1, .ref (g.2.2.2.2.1 4))]) F dL_build_77 rfl rfl (by decide) rfl ?_
          refine ml_goto (tgt := 27) F dL_build_80 (by decide) ?_
          exact ml_sub [2, 3, 0] rfl ((ih.2.1) _ _ _ _ (by omega) (by omega) h)
        refine ml_if_ne (tgt := 72) F dL_build_65 (by decide) h (fun _ h => ?_) (fun _ h => ?_)
        · refine ml_iconst (v := 0) F dL_build_72 (by decide) ?_
          exact ml_sub [0, 1, 2] rfl (jn11 _ h)
        · refine ml_iconst (v := 1) F dL_build_68 (by decide) ?_
          refine ml_goto (tgt := 73) F dL_build_69 (by decide) ?_
          exact ml_sub [0, 1, 2] rfl (jn11 _ h)
    · intro x3 M k n hk9 hn9 h
      replace h : fL_build_s2 g.1.2 (fL_build_l g.1.2 fuel) x3 M = some res := h
      unfold fL_build_s2 at h
      refine ml_iload_n (q := 2) F dL_build_85 rfl rfl ?_
      refine ml_bipush (v := 18) F dL_build_86 (by decide) ?_
      refine ml_icmp_ge (tgt := 108) F dL_build_88 (by decide) h (fun _ h => ?_) (fun _ h => ?_)
      · exact ml_vret (st := []) F (Option.some.inj h) rfl rfl (by omega) (by omega) dL_build_108
      · refine ml_aload_n (q := 0) F dL_build_91 rfl rfl ?_
        refine ml_aload_n (q := 1) F dL_build_92 rfl rfl ?_
        refine ml_bipush (v := 16) F dL_build_93 (by decide) ?_
        refine ml_iconst (v := 3) F dL_build_95 (by decide) ?_
        refine ml_iload_n (q := 2) F dL_build_96 rfl rfl ?_
        refine ml_imul F dL_build_97 ?_
        refine ml_iadd F dL_build_98 ?_
        refine ml_callS (av := [ml_rf g 0, .ref (g.2.2.2.2.1 4), .int (16 + (3 * x3))]) F h (fun rs h9 => fL_acts_c (16 + (3 * x3)) M rs hst h9) wcL_acts mlL_78 wdL_acts (by decide) (by omega) (by omega) rfl stL_acts rfl (Nat.le_of_ble_eq_true rfl) dL_build_99 (fun r1 M2 h => ?_)
        refine ml_iinc (q := 2) (v := x3 + 1) (ls2 := [(3, .int (x3 + 1)), (0, ml_rf g 0), (1, .ref (g.2.2.2.2.1 4))]) F dL_build_102 rfl rfl (by decide) rfl ?_
        refine ml_goto (tgt := 85) F dL_build_105 (by decide) ?_
        exact ml_sub [1, 2, 0] rfl ((ih.2.2) _ _ _ _ (by omega) (by omega) h)
set_option maxRecDepth 100000 in
def fL_build (z : ml_Y) (M : ml_M) : Option ml_R :=
  fL_build_l z 40 0 0 M
set_option maxHeartbeats 4000000 in
set_option maxRecDepth 100000 in
theorem fL_build_c (M : ml_M) (res : ml_R) {g : ml_G} (hst : g.2.2.2.2.2.stackTraces = false) (h : fL_build g.1.2 M = some res) : ml_C yL_build cL_build 4 none 10 369 2214 g (fun _ _ => none) [ml_rf g 0, .ref (g.2.2.2.2.1 4)] M res := by
  refine ml_of [(0, ml_rf g 0), (1, .ref (g.2.2.2.2.1 4))] hst (by decide) (Nat.le_of_ble_eq_true rfl) rfl (fun E F => ?_)
  unfold fL_build at h
  refine ml_iconst (v := 0) F dL_build_0 (by decide) ?_
  refine ml_istore_n (ls2 := [(3, .int 0), (0, ml_rf g 0), (1, .ref (g.2.2.2.2.1 4))]) F dL_build_1 rfl (by decide) rfl ?_
  exact ml_sub [1, 2, 0] rfl ((fL_build_w F 40).1 _ _ _ _ (by omega) (by omega) h)
set_option maxRecDepth 100000 in
def fL_isLine_s0 (z : ml_Y) (q : Nat) (a1 : Int32) (rec : Int32 → Int32 → ml_M → Option ml_R) (x1 x3 : Int32) (M : ml_M) : Option ml_R :=
  (if x1 ≤ x3 then some (.inl 1, M) else ml_bd (fX6_outputAt x3 M) (fun r1 M2 => ml_bd (fJ0_charAt_5068e z q x3 M2) (fun r3 M4 => (if r1 = r3 then rec x1 (x3 + 1) M4 else some (.inl 0, M4)))))
def fL_isLine_l (z : ml_Y) (q : Nat) (a1 : Int32) : Nat → Int32 → Int32 → ml_M → Option ml_R
  | 0 => fun _ _ _ => none
  | n + 1 => fL_isLine_s0 z q a1 (fL_isLine_l z q a1 n)
set_option maxHeartbeats 4000000 in
set_option maxRecDepth 100000 in
theorem fL_isLine_w (q : Nat) (a1 : Int32) (hq : q < 7) {E : ml_E} {g : ml_G} (hO : g.2.2.2.1 11 = g.2.2.2.1 9) {res : ml_R} (F : ml_F E g cL_isLine yL_isLine.cls 4 6 41 246 (some .boolean) []) : ∀ fuel : Nat, ∀ (x1 x3 : Int32) (M : ml_M) (k n : Nat), k + 1 * fuel ≤ 41 → n + 6 * fuel ≤ 246 → fL_isLine_l g.1.2 q a1 fuel x1 x3 M = some res → ml_J E g 4 (ml_Z E g (fun r _ => some (.int r)) res 41 246) k n 12 [(0, ml_rf g 0), (1, .int x1), (2, .ref (g.2.2.2.2.1 (10 + q))), (3, .int x3)] [] M := by
  have hst := ml_F_st F
  intro fuel
  induction fuel with
  | zero => intro _ _ _ _ _ _ _ h; exact nomatch (show (none : Option ml_R) = some res from h)
  | succ fuel ih =>
    intro x1 x3 M k n hk9 hn9 h
    replace h : fL_isLine_s0 g.1.2 q a1 (fL_isLine_l g.1.2 q a1 fuel) x1 x3 M = some res := h
    unfold fL_isLine_s0 at h
    refine ml_iload_n (q := 3) F dL_isLine_12 rfl rfl ?_
    refine ml_iload_n (q := 1) F dL_isLine_13 rfl rfl ?_
    refine ml_icmp_ge (tgt := 38) F dL_isLine_14 (by decide) h (fun _ h => ?_) (fun _ h => ?_)
    · refine ml_iconst (v := 1) F dL_isLine_38 (by decide) ?_
      exact ml_iret (st := []) F (Option.some.inj h) rfl rfl (by decide) (by omega) (by omega) dL_isLine_39
    · refine ml_aload_n (q := 0) F dL_isLine_17 rfl rfl ?_
      refine ml_iload_n (q := 3) F dL_isLine_18 rfl rfl ?_
      refine ml_callV (av := [.int x3]) (T := TX6) (N := 9) F (pc0 g) rfl h (fun rs h9 => fX6_outputAt_c x3 M rs hO hst h9) wcX6_outputAt mlL_107 wdX6_outputAt (by decide) (by omega) (by omega) rfl seX6_outputAt imX6_outputAt rfl (Nat.le_of_ble_eq_true rfl) dL_isLine_19 (fun r1 M2 h => ?_)
      refine ml_aload_n (q := 2) F dL_isLine_22 rfl rfl ?_
      refine ml_iload_n (q := 3) F dL_isLine_23 rfl rfl ?_
      refine ml_callT (q8 := q) (av := [.int x3]) F hq rfl h (fun rs h9 => fJ0_charAt_5068e_c q x3 M2 rs hq hst h9) wcJ0_charAt_5068e mlL_110 wdJ0_charAt_5068e (by decide) (by omega) (by omega) rfl seJ0_charAt_5068e imJ0_charAt_5068e rfl (Nat.le_of_ble_eq_true rfl) dL_isLine_24 (fun r3 M4 h => ?_)
      refine ml_icmp_eq (tgt := 32) F dL_isLine_27 (by decide) h (fun _ h => ?_) (fun _ h => ?_)
      · refine ml_iinc (q := 3) (v := x3 + 1) (ls2 := [(3, .int (x3 + 1)), (0, ml_rf g 0), (1, .int x1), (2, .ref (g.2.2.2.2.1 (10 + q)))]) F dL_isLine_32 rfl rfl (by decide) rfl ?_
        refine ml_goto (tgt := 12) F dL_isLine_35 (by decide) ?_
        exact ml_sub [1, 2, 3, 0] rfl (ih _ _ _ _ _ (by omega) (by omega) h)
      · refine ml_iconst (v := 0) F dL_isLine_30 (by decide) ?_
        exact ml_iret (st := []) F (Option.some.inj h) rfl rfl (by decide) (by omega) (by omega) dL_isLine_31
set_option maxRecDepth 100000 in
def fL_isLine (z : ml_Y) (q : Nat) (a1 : Int32) (M : ml_M) : Option ml_R :=
  ml_bd (fJ0_length_8abf5 z q M) (fun r1 M2 => (if a1 = r1 then fL_isLine_l z q a1 40 a1 0 M2 else some (.inl 0, M2)))
set_option maxHeartbeats 4000000 in
set_option maxRecDepth 100000 in
theorem fL_isLine_c (q : Nat) (a1 : Int32) (M : ml_M) (res : ml_R) (hq : q < 7) {g : ml_G} (hO : g.2.2.2.1 11 = g.2.2.2.1 9) (hst : g.2.2.2.2.2.stackTraces = false) (h : fL_isLine g.1.2 q a1 M = some res) : ml_C yL_isLine cL_isLine 4 (some .boolean) 6 41 246 g (fun r _ => some (.int r)) [ml_rf g 0, .int a1, .ref (g.2.2.2.2.1 (10 + q))] M res := by
  refine ml_of [(0, ml_rf g 0), (1, .int a1), (2, .ref (g.2.2.2.2.1 (10 + q)))] hst (by decide) (Nat.le_of_ble_eq_true rfl) rfl (fun E F => ?_)
  unfold fL_isLine at h
  refine ml_iload_n (q := 1) F dL_isLine_0 rfl rfl ?_
  refine ml_aload_n (q := 2) F dL_isLine_1 rfl rfl ?_
  refine ml_callT (q8 := q) (av := []) F hq rfl h (fun rs h9 => fJ0_length_8abf5_c q M rs hq hst h9) wcJ0_length_8abf5 mlL_102 wdJ0_length_8abf5 (by decide) (by omega) (by omega) rfl seJ0_length_8abf5 imJ0_length_8abf5 rfl (Nat.le_of_ble_eq_true rfl) dL_isLine_2 (fun r1 M2 h => ?_)
  refine ml_icmp_eq (tgt := 10) F dL_isLine_5 (by decide) h (fun _ h => ?_) (fun _ h => ?_)
  · refine ml_iconst (v := 0) F dL_isLine_10 (by decide) ?_
    refine ml_istore_n (ls2 := [(3, .int 0), (0, ml_rf g 0), (1, .int a1), (2, .ref (g.2.2.2.2.1 (10 + q)))]) F dL_isLine_11 rfl (by decide) rfl ?_
    exact ml_sub [1, 2, 3, 0] rfl ((fL_isLine_w q a1 hq hO F 40) _ _ _ _ _ (by omega) (by omega) h)
  · refine ml_iconst (v := 0) F dL_isLine_8 (by decide) ?_
    exact ml_iret (st := []) F (Option.some.inj h) rfl rfl (by decide) (by omega) (by omega) dL_isLine_9
