set_option maxRecDepth 100000 in
def fJ9_floorMod_7cf53 (a0 : Int32) (a1 : Int32) (M : ml_M) : Option ml_R :=
  if ¬ (a1 = 0) then ml_lt (a0 - a0 / a1 * a1) (fun v2 => (if 0 ≤ (a0 ^^^ a1) then some (.inl v2, M) else (if v2 = 0 then some (.inl v2, M) else some (.inl (v2 + a1), M)))) else none
set_option maxHeartbeats 4000000 in
set_option maxRecDepth 100000 in
theorem fJ9_floorMod_7cf53_c (a0 : Int32) (a1 : Int32) (M : ml_M) (res : ml_R) {g : ml_G} (hst : g.2.2.2.2.2.stackTraces = false) (h : fJ9_floorMod_7cf53 a0 a1 M = some res) : ml_C yJ9_floorMod_7cf53 cJ9_floorMod_7cf53 3 (some .int) 1 0 0 g (fun r _ => some (.int r)) [.int a0, .int a1] M res := by
  refine ml_ofF [(0, .int a0), (1, .int a1)] hst (by decide +kernel) (Nat.le_of_ble_eq_true rfl) rfl (fun E F => ?_)
  unfold fJ9_floorMod_7cf53 at h
  refine ml_iload_n (q := 0) F dJ9_floorMod_7cf53_0 rfl rfl ?_
  refine ml_iload_n (q := 1) F dJ9_floorMod_7cf53_1 rfl rfl ?_
  obtain ⟨q1, h⟩ := ml_if h
  refine ml_irem F dJ9_floorMod_7cf53_2 q1 ?_
  refine ml_ltI h (fun v2 _ h => ?_)
  refine ml_istore_n (ls2 := [(2, .int v2), (0, .int a0), (1, .int a1)]) F dJ9_floorMod_7cf53_3 rfl (by decide) rfl ?_
  refine ml_iload_n (q := 1) F dJ9_floorMod_7cf53_4 rfl rfl ?_
  refine ml_iload_n (q := 2) F dJ9_floorMod_7cf53_5 rfl rfl ?_
  refine ml_ixor F dJ9_floorMod_7cf53_6 ?_
  refine ml_if_ge (tgt := 18) F dJ9_floorMod_7cf53_7 (by decide) h (fun _ h => ?_) (fun _ h => ?_)
  · refine ml_iload_n (q := 0) F dJ9_floorMod_7cf53_18 rfl rfl ?_
    exact ml_iret (st := []) F (Option.some.inj h) rfl rfl rfl (by decide) (by decide) dJ9_floorMod_7cf53_19
  · refine ml_iload_n (q := 0) F dJ9_floorMod_7cf53_10 rfl rfl ?_
    refine ml_if_eq (tgt := 18) F dJ9_floorMod_7cf53_11 (by decide) h (fun _ h => ?_) (fun _ h => ?_)
    · refine ml_iload_n (q := 0) F dJ9_floorMod_7cf53_18 rfl rfl ?_
      exact ml_iret (st := []) F (Option.some.inj h) rfl rfl rfl (by decide) (by decide) dJ9_floorMod_7cf53_19
    · refine ml_iload_n (q := 0) F dJ9_floorMod_7cf53_14 rfl rfl ?_
      refine ml_iload_n (q := 2) F dJ9_floorMod_7cf53_15 rfl rfl ?_
      refine ml_iadd F dJ9_floorMod_7cf53_16 ?_
      exact ml_iret (st := []) F (Option.some.inj h) rfl rfl rfl (by decide) (by decide) dJ9_floorMod_7cf53_17
set_option maxRecDepth 100000 in
def fJ5_ensureCapacityInternal_d00df (a0 : Int32) (M : ml_M) : Option ml_R :=
  ml_lt (16 >>> ((M 9 1) &&& 31)) (fun v1 => (if (a0 - v1) ≤ 0 then some (.inl 0, M) else none))
set_option maxHeartbeats 4000000 in
set_option maxRecDepth 100000 in
theorem fJ5_ensureCapacityInternal_d00df_c (a0 : Int32) (M : ml_M) (res : ml_R) {g : ml_G} (hst : g.2.2.2.2.2.stackTraces = false) (h : fJ5_ensureCapacityInternal_d00df a0 M = some res) : ml_C yJ5_ensureCapacityInternal_d00df cJ5_ensureCapacityInternal_d00df 3 none 1 0 0 g (fun _ _ => none) [ml_rf g 9, .int a0] M res := by
  refine ml_ofF [(0, ml_rf g 9), (1, .int a0)] hst (by decide +kernel) (Nat.le_of_ble_eq_true rfl) rfl (fun E F => ?_)
  unfold fJ5_ensureCapacityInternal_d00df at h
  refine ml_aload_n (q := 0) F dJ5_ensureCapacityInternal_d00df_0 rfl rfl ?_
  refine ml_get (v := ml_rf g 10) F (pc9 g) rfl iaJ4 0 (by decide) lkJ5_15 rfl rfl dJ5_ensureCapacityInternal_d00df_1 ?_
  refine ml_alen (v := 16) F (pc10 g) ⟨_, rfl, rfl⟩ (by decide) dJ5_ensureCapacityInternal_d00df_4 ?_
  refine ml_aload_n (q := 0) F dJ5_ensureCapacityInternal_d00df_5 rfl rfl ?_
  refine ml_get (v := .int (M 9 1)) F (pc9 g) rfl iaJ4 1 (by decide) lkJ5_22 rfl rfl dJ5_ensureCapacityInternal_d00df_6 ?_
  refine ml_ishr F dJ5_ensureCapacityInternal_d00df_9 ?_
  refine ml_ltI h (fun v1 _ h => ?_)
  refine ml_istore_n (ls2 := [(2, .int v1), (0, ml_rf g 9), (1, .int a0)]) F dJ5_ensureCapacityInternal_d00df_10 rfl (by decide) rfl ?_
  refine ml_iload_n (q := 2) F dJ5_ensureCapacityInternal_d00df_11 rfl rfl ?_
  refine ml_iload_n (q := 0) F dJ5_ensureCapacityInternal_d00df_12 rfl rfl ?_
  refine ml_isub F dJ5_ensureCapacityInternal_d00df_13 ?_
  refine ml_if_le (tgt := 38) F dJ5_ensureCapacityInternal_d00df_14 (by decide) h (fun _ h => ?_) (fun _ h => ?_)
  · exact ml_vret (st := []) F (Option.some.inj h) rfl rfl (by decide) (by decide) dJ5_ensureCapacityInternal_d00df_38
  · exact nomatch (show (none : Option ml_R) = some res from h)
set_option maxRecDepth 100000 in
def fJ5_isLatin1_aae02 (M : ml_M) : Option ml_R :=
  ml_jn (fun (y1 : Int32) => if narrow .boolean (.int y1) = .int y1 then some (.inl y1, M) else none) (fun B2 => (if (M 9 1) = 0 then B2 1 else B2 0))
set_option maxHeartbeats 4000000 in
set_option maxRecDepth 100000 in
theorem fJ5_isLatin1_aae02_c (M : ml_M) (res : ml_R) {g : ml_G} (hst : g.2.2.2.2.2.stackTraces = false) (h : fJ5_isLatin1_aae02 M = some res) : ml_C yJ5_isLatin1_aae02 cJ5_isLatin1_aae02 1 (some .boolean) 1 0 0 g (fun r _ => some (.int r)) [ml_rf g 9] M res := by
  refine ml_ofF [(0, ml_rf g 9)] hst (by decide +kernel) (Nat.le_of_ble_eq_true rfl) rfl (fun E F => ?_)
  unfold fJ5_isLatin1_aae02 at h
  refine ml_gcp F lkJ5_18 dJ5_isLatin1_aae02_0 ?_
  refine ml_if_eqF (tgt := 17) F dJ5_isLatin1_aae02_3 (by decide) (by decide) ?_
  refine ml_aload_n (q := 0) F dJ5_isLatin1_aae02_6 rfl rfl ?_
  refine ml_get (v := .int (M 9 1)) F (pc9 g) rfl iaJ4 1 (by decide) lkJ5_22 rfl rfl dJ5_isLatin1_aae02_7 ?_
  refine ml_jnR (P := fun B => ∀ (y1 : Int32), B y1 = some res → ml_J E g 1 (ml_Z E g (fun r _ => some (.int r)) res 0 0) (0) (0) 18 [(0, ml_rf g 9)] (.int y1 :: []) M) h ?_ (fun jn3 h => ?_)
  · intro y1 h
    dsimp only at h
    obtain ⟨q4, h⟩ := ml_if h
    exact ml_iret (st := []) F (Option.some.inj h) rfl rfl q4 (by decide) (by decide) dJ5_isLatin1_aae02_18
  refine ml_if_ne (tgt := 17) F dJ5_isLatin1_aae02_10 (by decide) h (fun _ h => ?_) (fun _ h => ?_)
  · refine ml_iconst (v := 0) F dJ5_isLatin1_aae02_17 (by decide) ?_
    exact ml_sub [0] rfl (jn3 _ h)
  · refine ml_iconst (v := 1) F dJ5_isLatin1_aae02_13 (by decide) ?_
    refine ml_goto (tgt := 18) F dJ5_isLatin1_aae02_14 (by decide) ?_
    exact ml_sub [0] rfl (jn3 _ h)
set_option maxRecDepth 100000 in
def fJ5_appendNull_278bc (M : ml_M) : Option ml_R :=
  ml_bd (fJ5_ensureCapacityInternal_d00df ((M 9 3) + 4) M) (fun r1 M2 => ml_bd (fJ5_isLatin1_aae02 M2) (fun r3 M4 => (if r3 = 0 then none else if ml_ok (M2 9 3) 16 then ml_lt (ml_w M4 10 (M2 9 3).toNatClampNeg (vp_nar .byte 110)) (fun M5 => if ml_ok (M2 9 3 + 1) 16 then ml_lt (ml_w M5 10 (M2 9 3 + 1).toNatClampNeg (vp_nar .byte 117)) (fun M6 => if ml_ok (M2 9 3 + 1 + 1) 16 then ml_lt (ml_w M6 10 (M2 9 3 + 1 + 1).toNatClampNeg (vp_nar .byte 108)) (fun M7 => if ml_ok (M2 9 3 + 1 + 1 + 1) 16 then ml_lt (ml_w M7 10 (M2 9 3 + 1 + 1 + 1).toNatClampNeg (vp_nar .byte 108)) (fun M8 => ml_lt (ml_w M8 9 3 (M2 9 3 + 1 + 1 + 1 + 1)) (fun M9 => some (.inl 0, M9))) else none) else none) else none) else none)))
set_option maxHeartbeats 4000000 in
set_option maxRecDepth 100000 in
theorem fJ5_appendNull_278bc_c (M : ml_M) (res : ml_R) {g : ml_G} (hst : g.2.2.2.2.2.stackTraces = false) (h : fJ5_appendNull_278bc M = some res) : ml_C yJ5_appendNull_278bc cJ5_appendNull_278bc 3 (some (.object "java/lang/AbstractStringBuilder")) 2 0 0 g (fun _ _ => some (ml_rf g 9)) [ml_rf g 9] M res := by
  refine ml_ofF [(0, ml_rf g 9)] hst (by decide +kernel) (Nat.le_of_ble_eq_true rfl) rfl (fun E F => ?_)
  unfold fJ5_appendNull_278bc at h
  refine ml_aload_n (q := 0) F dJ5_appendNull_278bc_0 rfl rfl ?_
  refine ml_aload_n (q := 0) F dJ5_appendNull_278bc_1 rfl rfl ?_
  refine ml_get (v := .int (M 9 3)) F (pc9 g) rfl iaJ4 3 (by decide) lkJ5_79 rfl rfl dJ5_appendNull_278bc_2 ?_
  refine ml_iconst (v := 4) F dJ5_appendNull_278bc_5 (by decide) ?_
  refine ml_iadd F dJ5_appendNull_278bc_6 ?_
  refine ml_callU (av := [.int ((M 9 3) + 4)]) (T := TJ4) (N := 4) F (pc9 g) rfl h (fun rs h9 => fJ5_ensureCapacityInternal_d00df_c ((M 9 3) + 4) M rs hst h9) wcJ5_ensureCapacityInternal_d00df mlJ5_100 wdJ5_ensureCapacityInternal_d00df (by decide) (by decide) (by decide) rfl smJ5_ensureCapacityInternal_d00df sbJ5_ensureCapacityInternal_d00df imJ5_ensureCapacityInternal_d00df rfl (Nat.le_of_ble_eq_true rfl) dJ5_appendNull_278bc_7 (fun r1 M2 h => ?_)
  refine ml_aload_n (q := 0) F dJ5_appendNull_278bc_10 rfl rfl ?_
  refine ml_get (v := .int (M2 9 3)) F (pc9 g) rfl iaJ4 3 (by decide) lkJ5_79 rfl rfl dJ5_appendNull_278bc_11 ?_
  refine ml_istore_n (ls2 := [(1, .int (M2 9 3)), (0, ml_rf g 9)]) F dJ5_appendNull_278bc_14 rfl (by decide) rfl ?_
  refine ml_aload_n (q := 1) F dJ5_appendNull_278bc_15 rfl rfl ?_
  refine ml_get (v := ml_rf g 10) F (pc9 g) rfl iaJ4 0 (by decide) lkJ5_15 rfl rfl dJ5_appendNull_278bc_16 ?_
  refine ml_astore_n (ls2 := [(2, ml_rf g 10), (1, .int (M2 9 3)), (0, ml_rf g 9)]) F dJ5_appendNull_278bc_19 rfl (by decide) rfl ?_
  refine ml_aload_n (q := 2) F dJ5_appendNull_278bc_20 rfl rfl ?_
  refine ml_callU (av := []) (T := TJ4) (N := 4) F (pc9 g) rfl h (fun rs h9 => fJ5_isLatin1_aae02_c M2 rs hst h9) wcJ5_isLatin1_aae02 mlJ5_83 wdJ5_isLatin1_aae02 (by decide) (by decide) (by decide) rfl smJ5_isLatin1_aae02 sbJ5_isLatin1_aae02 imJ5_isLatin1_aae02 rfl (Nat.le_of_ble_eq_true rfl) dJ5_appendNull_278bc_21 (fun r3 M4 h => ?_)
  refine ml_if_eq (tgt := 62) F dJ5_appendNull_278bc_24 (by decide) h (fun _ h => ?_) (fun _ h => ?_)
  · exact nomatch (show (none : Option ml_R) = some res from h)
  · refine ml_aload_n (q := 0) F dJ5_appendNull_278bc_27 rfl rfl ?_
    refine ml_iload_n (q := 1) F dJ5_appendNull_278bc_28 rfl rfl ?_
    refine ml_iinc (q := 1) (v := M2 9 3 + 1) (ls2 := [(1, .int (M2 9 3 + 1)), (2, ml_rf g 10), (0, ml_rf g 9)]) F dJ5_appendNull_278bc_29 rfl rfl (by decide) rfl ?_
    refine ml_bipush (v := 110) F dJ5_appendNull_278bc_32 (by decide) ?_
    refine ml_bast F (pc10 g) h dJ5_appendNull_278bc_34 (fun h => ?_)
    refine ml_ltM h (fun M5 _ h => ?_)
    refine ml_aload_n (q := 1) F dJ5_appendNull_278bc_35 rfl rfl ?_
    refine ml_iload_n (q := 0) F dJ5_appendNull_278bc_36 rfl rfl ?_
    refine ml_iinc (q := 0) (v := M2 9 3 + 1 + 1) (ls2 := [(1, .int (M2 9 3 + 1 + 1)), (2, ml_rf g 10), (0, ml_rf g 9)]) F dJ5_appendNull_278bc_37 rfl rfl (by decide) rfl ?_
    refine ml_bipush (v := 117) F dJ5_appendNull_278bc_40 (by decide) ?_
    refine ml_bast F (pc10 g) h dJ5_appendNull_278bc_42 (fun h => ?_)
    refine ml_ltM h (fun M6 _ h => ?_)
    refine ml_aload_n (q := 1) F dJ5_appendNull_278bc_43 rfl rfl ?_
    refine ml_iload_n (q := 0) F dJ5_appendNull_278bc_44 rfl rfl ?_
    refine ml_iinc (q := 0) (v := M2 9 3 + 1 + 1 + 1) (ls2 := [(1, .int (M2 9 3 + 1 + 1 + 1)), (2, ml_rf g 10), (0, ml_rf g 9)]) F dJ5_appendNull_278bc_45 rfl rfl (by decide) rfl ?_
    refine ml_bipush (v := 108) F dJ5_appendNull_278bc_48 (by decide) ?_
    refine ml_bast F (pc10 g) h dJ5_appendNull_278bc_50 (fun h => ?_)
    refine ml_ltM h (fun M7 _ h => ?_)
    refine ml_aload_n (q := 1) F dJ5_appendNull_278bc_51 rfl rfl ?_
    refine ml_iload_n (q := 0) F dJ5_appendNull_278bc_52 rfl rfl ?_
    refine ml_iinc (q := 0) (v := M2 9 3 + 1 + 1 + 1 + 1) (ls2 := [(1, .int (M2 9 3 + 1 + 1 + 1 + 1)), (2, ml_rf g 10), (0, ml_rf g 9)]) F dJ5_appendNull_278bc_53 rfl rfl (by decide) rfl ?_
    refine ml_bipush (v := 108) F dJ5_appendNull_278bc_56 (by decide) ?_
    refine ml_bast F (pc10 g) h dJ5_appendNull_278bc_58 (fun h => ?_)
    refine ml_ltM h (fun M8 _ h => ?_)
    refine ml_goto (tgt := 76) F dJ5_appendNull_278bc_59 (by decide) ?_
    refine ml_aload_n (q := 2) F dJ5_appendNull_278bc_76 rfl rfl ?_
    refine ml_iload_n (q := 0) F dJ5_appendNull_278bc_77 rfl rfl ?_
    refine ml_set F (pc9 g) rfl iaJ4 tyJ4_ok nmJ4 3 (by decide) lkJ5_79 rfl rfl rfl rfl rfl (Nat.le_of_ble_eq_true rfl) (fun m => by simp [upd]) dJ5_appendNull_278bc_78 ?_
    refine ml_ltM h (fun M9 _ h => ?_)
    refine ml_aload_n (q := 2) F dJ5_appendNull_278bc_81 rfl rfl ?_
    exact ml_aret (st := []) F (Option.some.inj h) rfl rfl (Or.inl ⟨_, rfl⟩) (by decide) (by decide) dJ5_appendNull_278bc_82
set_option maxRecDepth 100000 in
def fJ0_coder_7d493 (z : ml_Y) (q : Nat) (M : ml_M) : Option ml_R :=
  some (.inl 0, M)
set_option maxHeartbeats 4000000 in
set_option maxRecDepth 100000 in
theorem fJ0_coder_7d493_c (q : Nat) (M : ml_M) (res : ml_R) (hq : q < 7) {g : ml_G} (hst : g.2.2.2.2.2.stackTraces = false) (h : fJ0_coder_7d493 g.1.2 q M = some res) : ml_C yJ0_coder_7d493 cJ0_coder_7d493 1 (some .byte) 1 0 0 g (fun r _ => some (.int r)) [.ref (g.2.2.2.2.1 (10 + q))] M res := by
  refine ml_ofF [(0, .ref (g.2.2.2.2.1 (10 + q)))] hst (by decide +kernel) (Nat.le_of_ble_eq_true rfl) rfl (fun E F => ?_)
  unfold fJ0_coder_7d493 at h
  refine ml_gcp F lkJ0_38 dJ0_coder_7d493_0 ?_
  refine ml_if_eqF (tgt := 13) F dJ0_coder_7d493_3 (by decide) (by decide) ?_
  refine ml_aload_n (q := 0) F dJ0_coder_7d493_6 rfl rfl ?_
  refine ml_tcod (q8 := q) F hq rfl lkJ0_15 dJ0_coder_7d493_7 ?_
  refine ml_goto (tgt := 14) F dJ0_coder_7d493_10 (by decide) ?_
  exact ml_iret (st := []) F (Option.some.inj h) rfl rfl (by decide) (by decide) (by decide) dJ0_coder_7d493_14
set_option maxRecDepth 100000 in
def fJ0_length_8abf5 (z : ml_Y) (q : Nat) (M : ml_M) : Option ml_R :=
  ml_bd (fJ0_coder_7d493 z q M) (fun r1 M2 => some (.inl ((nI (z.2 q).length) >>> (r1 &&& 31)), M2))
set_option maxHeartbeats 4000000 in
set_option maxRecDepth 100000 in
theorem fJ0_length_8abf5_c (q : Nat) (M : ml_M) (res : ml_R) (hq : q < 7) {g : ml_G} (hst : g.2.2.2.2.2.stackTraces = false) (h : fJ0_length_8abf5 g.1.2 q M = some res) : ml_C yJ0_length_8abf5 cJ0_length_8abf5 1 (some .int) 2 0 0 g (fun r _ => some (.int r)) [.ref (g.2.2.2.2.1 (10 + q))] M res := by
  refine ml_ofF [(0, .ref (g.2.2.2.2.1 (10 + q)))] hst (by decide +kernel) (Nat.le_of_ble_eq_true rfl) rfl (fun E F => ?_)
  unfold fJ0_length_8abf5 at h
  refine ml_aload_n (q := 0) F dJ0_length_8abf5_0 rfl rfl ?_
  refine ml_tval (q8 := q) F hq rfl lkJ0_9 dJ0_length_8abf5_1 ?_
  refine ml_tlen F hq dJ0_length_8abf5_4 ?_
  refine ml_aload_n (q := 0) F dJ0_length_8abf5_5 rfl rfl ?_
  refine ml_callT (q8 := q) (av := []) F hq rfl h (fun rs h9 => fJ0_coder_7d493_c q M rs hq hst h9) wcJ0_coder_7d493 mlJ0_335 wdJ0_coder_7d493 (by decide) (by decide) (by decide) rfl seJ0_coder_7d493 imJ0_coder_7d493 rfl (Nat.le_of_ble_eq_true rfl) dJ0_length_8abf5_6 (fun r1 M2 h => ?_)
  refine ml_ishr F dJ0_length_8abf5_9 ?_
  exact ml_iret (st := []) F (Option.some.inj h) rfl rfl rfl (by decide) (by decide) dJ0_length_8abf5_10
set_option maxRecDepth 100000 in
def fJ5_inflate_da8c8 (M : ml_M) : Option ml_R :=
  ml_bd (fJ5_isLatin1_aae02 M) (fun r1 M2 => (if r1 = 0 then some (.inl 0, M2) else none))
set_option maxHeartbeats 4000000 in
set_option maxRecDepth 100000 in
theorem fJ5_inflate_da8c8_c (M : ml_M) (res : ml_R) {g : ml_G} (hst : g.2.2.2.2.2.stackTraces = false) (h : fJ5_inflate_da8c8 M = some res) : ml_C yJ5_inflate_da8c8 cJ5_inflate_da8c8 2 none 2 0 0 g (fun _ _ => none) [ml_rf g 9] M res := by
  refine ml_ofF [(0, ml_rf g 9)] hst (by decide +kernel) (Nat.le_of_ble_eq_true rfl) rfl (fun E F => ?_)
  unfold fJ5_inflate_da8c8 at h
  refine ml_aload_n (q := 0) F dJ5_inflate_da8c8_0 rfl rfl ?_
  refine ml_callU (av := []) (T := TJ4) (N := 4) F (pc9 g) rfl h (fun rs h9 => fJ5_isLatin1_aae02_c M rs hst h9) wcJ5_isLatin1_aae02 mlJ5_83 wdJ5_isLatin1_aae02 (by decide) (by decide) (by decide) rfl smJ5_isLatin1_aae02 sbJ5_isLatin1_aae02 imJ5_isLatin1_aae02 rfl (Nat.le_of_ble_eq_true rfl) dJ5_inflate_da8c8_1 (fun r1 M2 h => ?_)
  refine ml_if_ne (tgt := 8) F dJ5_inflate_da8c8_4 (by decide) h (fun _ h => ?_) (fun _ h => ?_)
  · exact nomatch (show (none : Option ml_R) = some res from h)
  · exact ml_vret (st := []) F (Option.some.inj h) rfl rfl (by decide) (by decide) dJ5_inflate_da8c8_7
set_option maxRecDepth 100000 in
def fJ5_inflateIfNeededFor_a7421 (z : ml_Y) (q : Nat) (M : ml_M) : Option ml_R :=
  ml_bd (fJ0_coder_7d493 z q M) (fun r1 M2 => (if (M 9 1) = r1 then some (.inl 0, M2) else none))
set_option maxHeartbeats 4000000 in
set_option maxRecDepth 100000 in
theorem fJ5_inflateIfNeededFor_a7421_c (q : Nat) (M : ml_M) (res : ml_R) (hq : q < 7) {g : ml_G} (hst : g.2.2.2.2.2.stackTraces = false) (h : fJ5_inflateIfNeededFor_a7421 g.1.2 q M = some res) : ml_C yJ5_inflateIfNeededFor_a7421 cJ5_inflateIfNeededFor_a7421 2 none 3 0 0 g (fun _ _ => none) [ml_rf g 9, .ref (g.2.2.2.2.1 (10 + q))] M res := by
  refine ml_ofF [(0, ml_rf g 9), (1, .ref (g.2.2.2.2.1 (10 + q)))] hst (by decide +kernel) (Nat.le_of_ble_eq_true rfl) rfl (fun E F => ?_)
  unfold fJ5_inflateIfNeededFor_a7421 at h
  refine ml_gcp F lkJ5_18 dJ5_inflateIfNeededFor_a7421_0 ?_
  refine ml_if_eqF (tgt := 21) F dJ5_inflateIfNeededFor_a7421_3 (by decide) (by decide) ?_
  refine ml_aload_n (q := 0) F dJ5_inflateIfNeededFor_a7421_6 rfl rfl ?_
  refine ml_get (v := .int (M 9 1)) F (pc9 g) rfl iaJ4 1 (by decide) lkJ5_22 rfl rfl dJ5_inflateIfNeededFor_a7421_7 ?_
  refine ml_aload_n (q := 1) F dJ5_inflateIfNeededFor_a7421_10 rfl rfl ?_
  refine ml_callT (q8 := q) (av := []) F hq rfl h (fun rs h9 => fJ0_coder_7d493_c q M rs hq hst h9) wcJ0_coder_7d493 mlJ5_40 wdJ0_coder_7d493 (by decide) (by decide) (by decide) rfl seJ0_coder_7d493 imJ0_coder_7d493 rfl (Nat.le_of_ble_eq_true rfl) dJ5_inflateIfNeededFor_a7421_11 (fun r1 M2 h => ?_)
  refine ml_icmp_eq (tgt := 21) F dJ5_inflateIfNeededFor_a7421_14 (by decide) h (fun _ h => ?_) (fun _ h => ?_)
  · exact ml_vret (st := []) F (Option.some.inj h) rfl rfl (by decide) (by decide) dJ5_inflateIfNeededFor_a7421_21
  · exact nomatch (show (none : Option ml_R) = some res from h)
set_option maxRecDepth 100000 in
def fJ0_getBytes_840e7 (z : ml_Y) (q : Nat) (a1 : Int32) (a2 : Int32) (M : ml_M) : Option ml_R :=
  ml_bd (fJ0_coder_7d493 z q M) (fun r1 M2 => (if r1 = a2 then if ml_okc 0 (a1 <<< (a2 &&& 31)) (nI (z.2 q).length) (z.2 q).length then ml_lt (ml_cp M2 (fun j => (z.2 q).getD j 0) 0 (a1 <<< (a2 &&& 31)) (nI (z.2 q).length)) (fun M3 => some (.inl 0, M3)) else none else none))
set_option maxHeartbeats 4000000 in
set_option maxRecDepth 100000 in
theorem fJ0_getBytes_840e7_c (q : Nat) (a1 : Int32) (a2 : Int32) (M : ml_M) (res : ml_R) (hq : q < 7) {g : ml_G} (hst : g.2.2.2.2.2.stackTraces = false) (h : fJ0_getBytes_840e7 g.1.2 q a1 a2 M = some res) : ml_C yJ0_getBytes_840e7 cJ0_getBytes_840e7 4 none 2 0 0 g (fun _ _ => none) [.ref (g.2.2.2.2.1 (10 + q)), ml_rf g 10, .int a1, .int a2] M res := by
  refine ml_ofF [(0, .ref (g.2.2.2.2.1 (10 + q))), (1, ml_rf g 10), (2, .int a1), (3, .int a2)] hst (by decide +kernel) (Nat.le_of_ble_eq_true rfl) rfl (fun E F => ?_)
  unfold fJ0_getBytes_840e7 at h
  refine ml_aload_n (q := 0) F dJ0_getBytes_840e7_0 rfl rfl ?_
  refine ml_callT (q8 := q) (av := []) F hq rfl h (fun rs h9 => fJ0_coder_7d493_c q M rs hq hst h9) wcJ0_coder_7d493 mlJ0_335 wdJ0_coder_7d493 (by decide) (by decide) (by decide) rfl seJ0_coder_7d493 imJ0_coder_7d493 rfl (Nat.le_of_ble_eq_true rfl) dJ0_getBytes_840e7_1 (fun r1 M2 h => ?_)
  refine ml_iload_n (q := 3) F dJ0_getBytes_840e7_4 rfl rfl ?_
  refine ml_icmp_ne (tgt := 28) F dJ0_getBytes_840e7_5 (by decide) h (fun _ h => ?_) (fun _ h => ?_)
  · exact nomatch (show (none : Option ml_R) = some res from h)
  · refine ml_aload_n (q := 0) F dJ0_getBytes_840e7_8 rfl rfl ?_
    refine ml_tval (q8 := q) F hq rfl lkJ0_9 dJ0_getBytes_840e7_9 ?_
    refine ml_iconst (v := 0) F dJ0_getBytes_840e7_12 (by decide) ?_
    refine ml_aload_n (q := 1) F dJ0_getBytes_840e7_13 rfl rfl ?_
    refine ml_iload_n (q := 2) F dJ0_getBytes_840e7_14 rfl rfl ?_
    refine ml_iload_n (q := 3) F dJ0_getBytes_840e7_15 rfl rfl ?_
    refine ml_ishl F dJ0_getBytes_840e7_16 ?_
    refine ml_aload_n (q := 0) F dJ0_getBytes_840e7_17 rfl rfl ?_
    refine ml_tval (q8 := q) F hq rfl lkJ0_9 dJ0_getBytes_840e7_18 ?_
    refine ml_tlen F hq dJ0_getBytes_840e7_21 ?_
    refine ml_copy F hq h mlJ0_212 acnt acst acin dJ0_getBytes_840e7_22 (Nat.le_of_ble_eq_true rfl) (fun h => ?_)
    refine ml_ltM h (fun M3 _ h => ?_)
    refine ml_goto (tgt := 43) F dJ0_getBytes_840e7_25 (by decide) ?_
    exact ml_vret (st := []) F (Option.some.inj h) rfl rfl (by decide) (by decide) dJ0_getBytes_840e7_43
set_option maxRecDepth 100000 in
def fJ5_putStringAt_47b60 (z : ml_Y) (q : Nat) (a0 : Int32) (M : ml_M) : Option ml_R :=
  ml_bd (fJ5_inflateIfNeededFor_a7421 z q M) (fun r1 M2 => ml_bd (fJ0_getBytes_840e7 z q a0 (M2 9 1) M2) (fun r3 M4 => some (.inl 0, M4)))
set_option maxHeartbeats 4000000 in
set_option maxRecDepth 100000 in
theorem fJ5_putStringAt_47b60_c (q : Nat) (a0 : Int32) (M : ml_M) (res : ml_R) (hq : q < 7) {g : ml_G} (hst : g.2.2.2.2.2.stackTraces = false) (h : fJ5_putStringAt_47b60 g.1.2 q a0 M = some res) : ml_C yJ5_putStringAt_47b60 cJ5_putStringAt_47b60 3 none 4 0 0 g (fun _ _ => none) [ml_rf g 9, .int a0, .ref (g.2.2.2.2.1 (10 + q))] M res := by
  refine ml_ofF [(0, ml_rf g 9), (1, .int a0), (2, .ref (g.2.2.2.2.1 (10 + q)))] hst (by decide +kernel) (Nat.le_of_ble_eq_true rfl) rfl (fun E F => ?_)
  unfold fJ5_putStringAt_47b60 at h
  refine ml_aload_n (q := 0) F dJ5_putStringAt_47b60_0 rfl rfl ?_
  refine ml_aload_n (q := 2) F dJ5_putStringAt_47b60_1 rfl rfl ?_
  refine ml_callU (av := [.ref (g.2.2.2.2.1 (10 + q))]) (T := TJ4) (N := 4) F (pc9 g) rfl h (fun rs h9 => fJ5_inflateIfNeededFor_a7421_c q M rs hq hst h9) wcJ5_inflateIfNeededFor_a7421 mlJ5_397 wdJ5_inflateIfNeededFor_a7421 (by decide) (by decide) (by decide) rfl smJ5_inflateIfNeededFor_a7421 sbJ5_inflateIfNeededFor_a7421 imJ5_inflateIfNeededFor_a7421 rfl (Nat.le_of_ble_eq_true rfl) dJ5_putStringAt_47b60_2 (fun r1 M2 h => ?_)
  refine ml_aload_n (q := 2) F dJ5_putStringAt_47b60_5 rfl rfl ?_
  refine ml_aload_n (q := 0) F dJ5_putStringAt_47b60_6 rfl rfl ?_
  refine ml_get (v := ml_rf g 10) F (pc9 g) rfl iaJ4 0 (by decide) lkJ5_15 rfl rfl dJ5_putStringAt_47b60_7 ?_
  refine ml_iload_n (q := 1) F dJ5_putStringAt_47b60_10 rfl rfl ?_
  refine ml_aload_n (q := 0) F dJ5_putStringAt_47b60_11 rfl rfl ?_
  refine ml_get (v := .int (M2 9 1)) F (pc9 g) rfl iaJ4 1 (by decide) lkJ5_22 rfl rfl dJ5_putStringAt_47b60_12 ?_
  refine ml_callT (q8 := q) (av := [ml_rf g 10, .int a0, .int (M2 9 1)]) F hq rfl h (fun rs h9 => fJ0_getBytes_840e7_c q a0 (M2 9 1) M2 rs hq hst h9) wcJ0_getBytes_840e7 mlJ5_399 wdJ0_getBytes_840e7 (by decide) (by decide) (by decide) rfl seJ0_getBytes_840e7 imJ0_getBytes_840e7 rfl (Nat.le_of_ble_eq_true rfl) dJ5_putStringAt_47b60_15 (fun r3 M4 h => ?_)
  exact ml_vret (st := []) F (Option.some.inj h) rfl rfl (by decide) (by decide) dJ5_putStringAt_47b60_18
set_option maxRecDepth 100000 in
def fJ5_append_cf1ce (z : ml_Y) (q : Nat) (M : ml_M) : Option ml_R :=
  ml_bd (fJ0_length_8abf5 z q M) (fun r1 M2 => ml_bd (fJ5_ensureCapacityInternal_d00df ((M2 9 3) + r1) M2) (fun r3 M4 => ml_bd (fJ5_putStringAt_47b60 z q (M4 9 3) M4) (fun r5 M6 => ml_lt (ml_w M6 9 3 ((M6 9 3) + r1)) (fun M7 => some (.inl 0, M7)))))
set_option maxHeartbeats 4000000 in
set_option maxRecDepth 100000 in
theorem fJ5_append_cf1ce_c (q : Nat) (M : ml_M) (res : ml_R) (hq : q < 7) {g : ml_G} (hst : g.2.2.2.2.2.stackTraces = false) (h : fJ5_append_cf1ce g.1.2 q M = some res) : ml_C yJ5_append_cf1ce cJ5_append_cf1ce 3 (some (.object "java/lang/AbstractStringBuilder")) 5 0 0 g (fun _ _ => some (ml_rf g 9)) [ml_rf g 9, .ref (g.2.2.2.2.1 (10 + q))] M res := by
  refine ml_ofF [(0, ml_rf g 9), (1, .ref (g.2.2.2.2.1 (10 + q)))] hst (by decide +kernel) (Nat.le_of_ble_eq_true rfl) rfl (fun E F => ?_)
  unfold fJ5_append_cf1ce at h
  refine ml_aload_n (q := 1) F dJ5_append_cf1ce_0 rfl rfl ?_
  refine ml_nn (tgt := 9) F dJ5_append_cf1ce_1 (by decide) ?_
  refine ml_aload_n (q := 1) F dJ5_append_cf1ce_9 rfl rfl ?_
  refine ml_callT (q8 := q) (av := []) F hq rfl h (fun rs h9 => fJ0_length_8abf5_c q M rs hq hst h9) wcJ0_length_8abf5 mlJ5_32 wdJ0_length_8abf5 (by decide) (by decide) (by decide) rfl seJ0_length_8abf5 imJ0_length_8abf5 rfl (Nat.le_of_ble_eq_true rfl) dJ5_append_cf1ce_10 (fun r1 M2 h => ?_)
  refine ml_istore_n (ls2 := [(2, .int r1), (0, ml_rf g 9), (1, .ref (g.2.2.2.2.1 (10 + q)))]) F dJ5_append_cf1ce_13 rfl (by decide) rfl ?_
  refine ml_aload_n (q := 1) F dJ5_append_cf1ce_14 rfl rfl ?_
  refine ml_aload_n (q := 1) F dJ5_append_cf1ce_15 rfl rfl ?_
  refine ml_get (v := .int (M2 9 3)) F (pc9 g) rfl iaJ4 3 (by decide) lkJ5_79 rfl rfl dJ5_append_cf1ce_16 ?_
  refine ml_iload_n (q := 0) F dJ5_append_cf1ce_19 rfl rfl ?_
  refine ml_iadd F dJ5_append_cf1ce_20 ?_
  refine ml_callU (av := [.int ((M2 9 3) + r1)]) (T := TJ4) (N := 4) F (pc9 g) rfl h (fun rs h9 => fJ5_ensureCapacityInternal_d00df_c ((M2 9 3) + r1) M2 rs hst h9) wcJ5_ensureCapacityInternal_d00df mlJ5_100 wdJ5_ensureCapacityInternal_d00df (by decide) (by decide) (by decide) rfl smJ5_ensureCapacityInternal_d00df sbJ5_ensureCapacityInternal_d00df imJ5_ensureCapacityInternal_d00df rfl (Nat.le_of_ble_eq_true rfl) dJ5_append_cf1ce_21 (fun r3 M4 h => ?_)
  refine ml_aload_n (q := 1) F dJ5_append_cf1ce_24 rfl rfl ?_
  refine ml_aload_n (q := 1) F dJ5_append_cf1ce_25 rfl rfl ?_
  refine ml_get (v := .int (M4 9 3)) F (pc9 g) rfl iaJ4 3 (by decide) lkJ5_79 rfl rfl dJ5_append_cf1ce_26 ?_
  refine ml_aload_n (q := 2) F dJ5_append_cf1ce_29 rfl rfl ?_
  refine ml_callU (av := [.int (M4 9 3), .ref (g.2.2.2.2.1 (10 + q))]) (T := TJ4) (N := 4) F (pc9 g) rfl h (fun rs h9 => fJ5_putStringAt_47b60_c q (M4 9 3) M4 rs hq hst h9) wcJ5_putStringAt_47b60 mlJ5_208 wdJ5_putStringAt_47b60 (by decide) (by decide) (by decide) rfl smJ5_putStringAt_47b60 sbJ5_putStringAt_47b60 imJ5_putStringAt_47b60 rfl (Nat.le_of_ble_eq_true rfl) dJ5_append_cf1ce_30 (fun r5 M6 h => ?_)
  refine ml_aload_n (q := 1) F dJ5_append_cf1ce_33 rfl rfl ?_
  refine ml_dup F dJ5_append_cf1ce_34 rfl ?_
  refine ml_get (v := .int (M6 9 3)) F (pc9 g) rfl iaJ4 3 (by decide) lkJ5_79 rfl rfl dJ5_append_cf1ce_35 ?_
  refine ml_iload_n (q := 0) F dJ5_append_cf1ce_38 rfl rfl ?_
  refine ml_iadd F dJ5_append_cf1ce_39 ?_
  refine ml_set F (pc9 g) rfl iaJ4 tyJ4_ok nmJ4 3 (by decide) lkJ5_79 rfl rfl rfl rfl rfl (Nat.le_of_ble_eq_true rfl) (fun m => by simp [upd]) dJ5_append_cf1ce_40 ?_
  refine ml_ltM h (fun M7 _ h => ?_)
  refine ml_aload_n (q := 1) F dJ5_append_cf1ce_43 rfl rfl ?_
  exact ml_aret (st := []) F (Option.some.inj h) rfl rfl (Or.inl ⟨_, rfl⟩) (by decide) (by decide) dJ5_append_cf1ce_44
set_option maxRecDepth 100000 in
def fJ4_append_15ec4 (z : ml_Y) (q : Nat) (M : ml_M) : Option ml_R :=
  ml_bd (fJ5_append_cf1ce z q M) (fun r1 M2 => some (.inl 0, M2))
set_option maxHeartbeats 4000000 in
set_option maxRecDepth 100000 in
theorem fJ4_append_15ec4_c (q : Nat) (M : ml_M) (res : ml_R) (hq : q < 7) {g : ml_G} (hst : g.2.2.2.2.2.stackTraces = false) (h : fJ4_append_15ec4 g.1.2 q M = some res) : ml_C yJ4_append_15ec4 cJ4_append_15ec4 2 (some (.object "java/lang/StringBuilder")) 6 0 0 g (fun _ _ => some (ml_rf g 9)) [ml_rf g 9, .ref (g.2.2.2.2.1 (10 + q))] M res := by
  refine ml_ofF [(0, ml_rf g 9), (1, .ref (g.2.2.2.2.1 (10 + q)))] hst (by decide +kernel) (Nat.le_of_ble_eq_true rfl) rfl (fun E F => ?_)
  unfold fJ4_append_15ec4 at h
  refine ml_aload_n (q := 0) F dJ4_append_15ec4_0 rfl rfl ?_
  refine ml_aload_n (q := 1) F dJ4_append_15ec4_1 rfl rfl ?_
  refine ml_callP (av := [.ref (g.2.2.2.2.1 (10 + q))]) (T := TJ4) (N := 4) F (pc9 g) rfl h (fun rs h9 => fJ5_append_cf1ce_c q M rs hq hst h9) wcJ5_append_cf1ce mlJ4_29 wdJ5_append_cf1ce (by decide) (by decide) (by decide) rfl smJ5_append_cf1ce suJ4 (by decide) imJ5_append_cf1ce rfl (Nat.le_of_ble_eq_true rfl) dJ4_append_15ec4_2 (fun r1 M2 h => ?_)
  refine ml_pop F dJ4_append_15ec4_5 rfl ?_
  refine ml_aload_n (q := 0) F dJ4_append_15ec4_6 rfl rfl ?_
  exact ml_aret (st := []) F (Option.some.inj h) rfl rfl (Or.inl ⟨_, rfl⟩) (by decide) (by decide) dJ4_append_15ec4_7
set_option maxRecDepth 100000 in
def fJ6_stringSize_0f7a4_s0 (a0 : Int32) (rec : Int32 → Int32 → Int32 → Int32 → ml_M → Option ml_R) (x0 x1 x2 x3 : Int32) (M : ml_M) : Option ml_R :=
  (if 10 ≤ x3 then some (.inl (10 + x1), M) else (if x0 ≤ x2 then rec x0 x1 (10 * x2) (x3 + 1) M else some (.inl (x3 + x1), M)))
def fJ6_stringSize_0f7a4_l (a0 : Int32) : Nat → Int32 → Int32 → Int32 → Int32 → ml_M → Option ml_R
  | 0 => fun _ _ _ _ _ => none
  | n + 1 => fJ6_stringSize_0f7a4_s0 a0 (fJ6_stringSize_0f7a4_l a0 n)
set_option maxHeartbeats 4000000 in
set_option maxRecDepth 100000 in
theorem fJ6_stringSize_0f7a4_w (a0 : Int32) {E : ml_E} {g : ml_G} {res : ml_R} (F : ml_F E g cJ6_stringSize_0f7a4 yJ6_stringSize_0f7a4.cls 4 1 0 0 (some .int) []) : ∀ fuel : Nat, ∀ (x0 x1 x2 x3 : Int32) (M : ml_M), fJ6_stringSize_0f7a4_l a0 fuel x0 x1 x2 x3 M = some res → ml_J E g 4 (ml_Z E g (fun r _ => some (.int r)) res 0 0) 0 0 16 [(0, .int x0), (1, .int x1), (2, .int x2), (3, .int x3)] [] M := by
  have hst := ml_F_st F
  intro fuel
  induction fuel with
  | zero => intro _ _ _ _ _ h; exact nomatch (show (none : Option ml_R) = some res from h)
  | succ fuel ih =>
    intro x0 x1 x2 x3 M h
    replace h : fJ6_stringSize_0f7a4_s0 a0 (fJ6_stringSize_0f7a4_l a0 fuel) x0 x1 x2 x3 M = some res := h
    unfold fJ6_stringSize_0f7a4_s0 at h
    refine ml_iload_n (q := 3) F dJ6_stringSize_0f7a4_16 rfl rfl ?_
    refine ml_bipush (v := 10) F dJ6_stringSize_0f7a4_17 (by decide) ?_
    refine ml_icmp_ge (tgt := 42) F dJ6_stringSize_0f7a4_19 (by decide) h (fun _ h => ?_) (fun _ h => ?_)
    · refine ml_bipush (v := 10) F dJ6_stringSize_0f7a4_42 (by decide) ?_
      refine ml_iload_n (q := 1) F dJ6_stringSize_0f7a4_44 rfl rfl ?_
      refine ml_iadd F dJ6_stringSize_0f7a4_45 ?_
      exact ml_iret (st := []) F (Option.some.inj h) rfl rfl rfl (by decide) (by decide) dJ6_stringSize_0f7a4_46
    · refine ml_iload_n (q := 0) F dJ6_stringSize_0f7a4_22 rfl rfl ?_
      refine ml_iload_n (q := 2) F dJ6_stringSize_0f7a4_23 rfl rfl ?_
      refine ml_icmp_le (tgt := 31) F dJ6_stringSize_0f7a4_24 (by decide) h (fun _ h => ?_) (fun _ h => ?_)
      · refine ml_bipush (v := 10) F dJ6_stringSize_0f7a4_31 (by decide) ?_
        refine ml_iload_n (q := 2) F dJ6_stringSize_0f7a4_33 rfl rfl ?_
        refine ml_imul F dJ6_stringSize_0f7a4_34 ?_
        refine ml_istore_n (ls2 := [(2, .int (10 * x2)), (0, .int x0), (1, .int x1), (3, .int x3)]) F dJ6_stringSize_0f7a4_35 rfl (by decide) rfl ?_
        refine ml_iinc (q := 3) (v := x3 + 1) (ls2 := [(3, .int (x3 + 1)), (2, .int (10 * x2)), (0, .int x0), (1, .int x1)]) F dJ6_stringSize_0f7a4_36 rfl rfl (by decide) rfl ?_
        refine ml_goto (tgt := 16) F dJ6_stringSize_0f7a4_39 (by decide) ?_
        exact ml_sub [2, 3, 1, 0] rfl (ih _ _ _ _ _ h)
      · refine ml_iload_n (q := 3) F dJ6_stringSize_0f7a4_27 rfl rfl ?_
        refine ml_iload_n (q := 1) F dJ6_stringSize_0f7a4_28 rfl rfl ?_
        refine ml_iadd F dJ6_stringSize_0f7a4_29 ?_
        exact ml_iret (st := []) F (Option.some.inj h) rfl rfl rfl (by decide) (by decide) dJ6_stringSize_0f7a4_30
set_option maxRecDepth 100000 in
def fJ6_stringSize_0f7a4 (a0 : Int32) (M : ml_M) : Option ml_R :=
  ml_jn (fun (y1 : Int32) (y2 : Int32) => fJ6_stringSize_0f7a4_l a0 ml_fuel y1 y2 (-10) 1 M) (fun B3 => (if a0 < 0 then B3 a0 1 else B3 (-a0) 0))
set_option maxHeartbeats 4000000 in
set_option maxRecDepth 100000 in
theorem fJ6_stringSize_0f7a4_c (a0 : Int32) (M : ml_M) (res : ml_R) {g : ml_G} (hst : g.2.2.2.2.2.stackTraces = false) (h : fJ6_stringSize_0f7a4 a0 M = some res) : ml_C yJ6_stringSize_0f7a4 cJ6_stringSize_0f7a4 4 (some .int) 1 0 0 g (fun r _ => some (.int r)) [.int a0] M res := by
  refine ml_ofF [(0, .int a0)] hst (by decide +kernel) (Nat.le_of_ble_eq_true rfl) rfl (fun E F => ?_)
  unfold fJ6_stringSize_0f7a4 at h
  refine ml_iconst (v := 1) F dJ6_stringSize_0f7a4_0 (by decide) ?_
  refine ml_istore_n (ls2 := [(1, .int 1), (0, .int a0)]) F dJ6_stringSize_0f7a4_1 rfl (by decide) rfl ?_
  refine ml_iload_n (q := 1) F dJ6_stringSize_0f7a4_2 rfl rfl ?_
  refine ml_jnR (P := fun B => ∀ (y1 : Int32) (y2 : Int32), B y1 y2 = some res → ml_J E g 4 (ml_Z E g (fun r _ => some (.int r)) res 0 0) (0) (0) 11 [(0, .int y1), (1, .int y2)] ([]) M) h ?_ (fun jn4 h => ?_)
  · intro y1 y2 h
    dsimp only at h
    refine ml_bipush (v := (-10)) F dJ6_stringSize_0f7a4_11 (by decide) ?_
    refine ml_istore_n (ls2 := [(2, .int (-10)), (0, .int y1), (1, .int y2)]) F dJ6_stringSize_0f7a4_13 rfl (by decide) rfl ?_
    refine ml_iconst (v := 1) F dJ6_stringSize_0f7a4_14 (by decide) ?_
    refine ml_istore_n (ls2 := [(3, .int 1), (2, .int (-10)), (0, .int y1), (1, .int y2)]) F dJ6_stringSize_0f7a4_15 rfl (by decide) rfl ?_
    exact ml_sub [2, 3, 1, 0] rfl ((fJ6_stringSize_0f7a4_w a0 F ml_fuel) _ _ _ _ _ h)
  refine ml_if_lt (tgt := 11) F dJ6_stringSize_0f7a4_3 (by decide) h (fun _ h => ?_) (fun _ h => ?_)
  · exact ml_sub [1, 0] rfl (jn4 _ _ h)
  · refine ml_iconst (v := 0) F dJ6_stringSize_0f7a4_6 (by decide) ?_
    refine ml_istore_n (ls2 := [(1, .int 0), (0, .int a0)]) F dJ6_stringSize_0f7a4_7 rfl (by decide) rfl ?_
    refine ml_iload_n (q := 1) F dJ6_stringSize_0f7a4_8 rfl rfl ?_
    refine ml_ineg F dJ6_stringSize_0f7a4_9 ?_
    refine ml_istore_n (ls2 := [(0, .int (-a0)), (1, .int 0)]) F dJ6_stringSize_0f7a4_10 rfl (by decide) rfl ?_
    exact ml_sub [0, 1] rfl (jn4 _ _ h)
set_option maxRecDepth 100000 in
def fJ6_getChars_ba4f3_s0 (a0 : Int32) (a1 : Int32) (rec : Int32 → Int32 → Int32 → Int32 → ml_M → Option ml_R) (x0 x1 x5 x6 : Int32) (M : ml_M) : Option ml_R :=
  (if (-100) < x0 then if ml_ok (-x0) 100 then if ml_ok (x5 + (-1)) 16 then ml_lt (ml_w M 10 (x5 + (-1)).toNatClampNeg (vp_nar .byte (ml_dig 0 (-x0).toNatClampNeg))) (fun M1 => ml_jn (fun (y2 : Int32) (M3 : ml_M) => ml_jn (fun (y6 : Int32) (M7 : ml_M) => (some (.inl y6, M7) : Option ml_R)) (fun B8 => (if x6 = 0 then B8 y2 M3 else if ml_ok (y2 + (-1)) 16 then ml_lt (ml_w M3 10 (y2 + (-1)).toNatClampNeg (vp_nar .byte 45)) (fun M10 => B8 (y2 + (-1)) M10) else none))) (fun B4 => (if (-9) ≤ x0 then B4 (x5 + (-1)) M1 else if ml_ok (-x0) 100 then if ml_ok (x5 + (-1) + (-1)) 16 then ml_lt (ml_w M1 10 (x5 + (-1) + (-1)).toNatClampNeg (vp_nar .byte (ml_dig 1 (-x0).toNatClampNeg))) (fun M11 => B4 (x5 + (-1) + (-1)) M11) else none else none))) else none else none else ml_lt (((x0 / 100) * 100) - x0) (fun v12 => if ml_ok v12 100 then if ml_ok (x5 + (-1)) 16 then ml_lt (ml_w M 10 (x5 + (-1)).toNatClampNeg (vp_nar .byte (ml_dig 0 v12.toNatClampNeg))) (fun M13 => if ml_ok v12 100 then if ml_ok (x5 + (-1) + (-1)) 16 then ml_lt (ml_w M13 10 (x5 + (-1) + (-1)).toNatClampNeg (vp_nar .byte (ml_dig 1 v12.toNatClampNeg))) (fun M14 => rec (x0 / 100) x1 (x5 + (-1) + (-1)) x6 M14) else none else none) else none else none))
def fJ6_getChars_ba4f3_l (a0 : Int32) (a1 : Int32) : Nat → Int32 → Int32 → Int32 → Int32 → ml_M → Option ml_R
  | 0 => fun _ _ _ _ _ => none
  | n + 1 => fJ6_getChars_ba4f3_s0 a0 a1 (fJ6_getChars_ba4f3_l a0 a1 n)
set_option maxHeartbeats 4000000 in
set_option maxRecDepth 100000 in
theorem fJ6_getChars_ba4f3_w (a0 : Int32) (a1 : Int32) {E : ml_E} {g : ml_G} {res : ml_R} (F : ml_F E g cJ6_getChars_ba4f3 yJ6_getChars_ba4f3.cls 7 1 0 0 (some .int) []) : ∀ fuel : Nat, ∀ (x0 x1 x5 x6 : Int32) (M : ml_M), fJ6_getChars_ba4f3_l a0 a1 fuel x0 x1 x5 x6 M = some res → ml_J E g 7 (ml_Z E g (fun r _ => some (.int r)) res 0 0) 0 0 22 [(0, .int x0), (1, .int x1), (2, ml_rf g 10), (5, .int x5), (6, .int x6)] [] M := by
  have hst := ml_F_st F
  intro fuel
  induction fuel with
  | zero => intro _ _ _ _ _ h; exact nomatch (show (none : Option ml_R) = some res from h)
  | succ fuel ih =>
    intro x0 x1 x5 x6 M h
    replace h : fJ6_getChars_ba4f3_s0 a0 a1 (fJ6_getChars_ba4f3_l a0 a1 fuel) x0 x1 x5 x6 M = some res := h
    unfold fJ6_getChars_ba4f3_s0 at h
    refine ml_iload_n (q := 0) F dJ6_getChars_ba4f3_22 rfl rfl ?_
    refine ml_bipush (v := (-100)) F dJ6_getChars_ba4f3_23 (by decide) ?_
    refine ml_icmp_gt (tgt := 72) F dJ6_getChars_ba4f3_25 (by decide) h (fun _ h => ?_) (fun _ h => ?_)
    · refine ml_aload_n (q := 2) F dJ6_getChars_ba4f3_72 rfl rfl ?_
      refine ml_iinc (q := 3) (v := x5 + (-1)) (ls2 := [(5, .int (x5 + (-1))), (0, .int x0), (1, .int x1), (2, ml_rf g 10), (6, .int x6)]) F dJ6_getChars_ba4f3_73 rfl rfl (by decide) rfl ?_
      refine ml_iload (q := 0) F dJ6_getChars_ba4f3_76 rfl ?_
      refine ml_gdg0 F lkJ6_83 dJ6_getChars_ba4f3_78 ?_
      refine ml_iload_n (q := 1) F dJ6_getChars_ba4f3_81 rfl rfl ?_
      refine ml_ineg F dJ6_getChars_ba4f3_82 ?_
      refine ml_dgld0 F h dJ6_getChars_ba4f3_83 (fun h => ?_)
      refine ml_bast F (pc10 g) h dJ6_getChars_ba4f3_84 (fun h => ?_)
      refine ml_ltM h (fun M1 _ h => ?_)
      refine ml_iload_n (q := 1) F dJ6_getChars_ba4f3_85 rfl rfl ?_
      refine ml_bipush (v := (-9)) F dJ6_getChars_ba4f3_86 (by decide) ?_
      refine ml_jnR (P := fun B => ∀ (y2 : Int32) (M3 : ml_M), B y2 M3 = some res → ml_J E g 7 (ml_Z E g (fun r _ => some (.int r)) res 0 0) (0) (0) 104 [(0, .int x0), (1, .int x1), (2, ml_rf g 10), (5, .int y2), (6, .int x6)] ([]) M3) h ?_ (fun jn5 h => ?_)
      · intro y2 M3 h
        dsimp only at h
        refine ml_iload (q := 4) F dJ6_getChars_ba4f3_104 rfl ?_
        refine ml_jnR (P := fun B => ∀ (y6 : Int32) (M7 : ml_M), B y6 M7 = some res → ml_J E g 7 (ml_Z E g (fun r _ => some (.int r)) res 0 0) (0) (0) 118 [(0, .int x0), (1, .int x1), (2, ml_rf g 10), (5, .int y6), (6, .int x6)] ([]) M7) h ?_ (fun jn9 h => ?_)
        · intro y6 M7 h
          dsimp only at h
          refine ml_iload (q := 3) F dJ6_getChars_ba4f3_118 rfl ?_
          exact ml_iret (st := []) F (Option.some.inj h) rfl rfl rfl (by decide) (by decide) dJ6_getChars_ba4f3_120
        refine ml_if_eq (tgt := 118) F dJ6_getChars_ba4f3_106 (by decide) h (fun _ h => ?_) (fun _ h => ?_)
        · exact ml_sub [0, 1, 2, 3, 4] rfl (jn9 _ _ h)
        · refine ml_aload_n (q := 2) F dJ6_getChars_ba4f3_109 rfl rfl ?_
          refine ml_iinc (q := 3) (v := y2 + (-1)) (ls2 := [(5, .int (y2 + (-1))), (0, .int x0), (1, .int x1), (2, ml_rf g 10), (6, .int x6)]) F dJ6_getChars_ba4f3_110 rfl rfl (by decide) rfl ?_
          refine ml_iload (q := 0) F dJ6_getChars_ba4f3_113 rfl ?_
          refine ml_bipush (v := 45) F dJ6_getChars_ba4f3_115 (by decide) ?_
          refine ml_bast F (pc10 g) h dJ6_getChars_ba4f3_117 (fun h => ?_)
          refine ml_ltM h (fun M10 _ h => ?_)
          exact ml_sub [1, 2, 3, 0, 4] rfl (jn9 _ _ h)
      refine ml_icmp_ge (tgt := 104) F dJ6_getChars_ba4f3_88 (by decide) h (fun _ h => ?_) (fun _ h => ?_)
      · exact ml_sub [1, 2, 3, 0, 4] rfl (jn5 _ _ h)
      · refine ml_aload_n (q := 3) F dJ6_getChars_ba4f3_91 rfl rfl ?_
        refine ml_iinc (q := 0) (v := x5 + (-1) + (-1)) (ls2 := [(5, .int (x5 + (-1) + (-1))), (0, .int x0), (1, .int x1), (2, ml_rf g 10), (6, .int x6)]) F dJ6_getChars_ba4f3_92 rfl rfl (by decide) rfl ?_
        refine ml_iload (q := 0) F dJ6_getChars_ba4f3_95 rfl ?_
        refine ml_gdg1 F lkJ6_87 dJ6_getChars_ba4f3_97 ?_
        refine ml_iload_n (q := 1) F dJ6_getChars_ba4f3_100 rfl rfl ?_
        refine ml_ineg F dJ6_getChars_ba4f3_101 ?_
        refine ml_dgld1 F h dJ6_getChars_ba4f3_102 (fun h => ?_)
        refine ml_bast F (pc10 g) h dJ6_getChars_ba4f3_103 (fun h => ?_)
        refine ml_ltM h (fun M11 _ h => ?_)
        exact ml_sub [1, 2, 3, 0, 4] rfl (jn5 _ _ h)
    · refine ml_iload_n (q := 0) F dJ6_getChars_ba4f3_28 rfl rfl ?_
      refine ml_bipush (v := 100) F dJ6_getChars_ba4f3_29 (by decide) ?_
      refine ml_idiv F dJ6_getChars_ba4f3_31 (by decide) ?_
      refine ml_istore_n (ls2 := [(3, .int (x0 / 100)), (0, .int x0), (1, .int x1), (2, ml_rf g 10), (5, .int x5), (6, .int x6)]) F dJ6_getChars_ba4f3_32 rfl (by decide) rfl ?_
      refine ml_iload_n (q := 0) F dJ6_getChars_ba4f3_33 rfl rfl ?_
      refine ml_bipush (v := 100) F dJ6_getChars_ba4f3_34 (by decide) ?_
      refine ml_imul F dJ6_getChars_ba4f3_36 ?_
      refine ml_iload_n (q := 1) F dJ6_getChars_ba4f3_37 rfl rfl ?_
      refine ml_isub F dJ6_getChars_ba4f3_38 ?_
      refine ml_ltI h (fun v12 _ h => ?_)
      refine ml_istore (ls2 := [(4, .int v12), (3, .int (x0 / 100)), (0, .int x0), (1, .int x1), (2, ml_rf g 10), (5, .int x5), (6, .int x6)]) F dJ6_getChars_ba4f3_39 (by decide) rfl ?_
      refine ml_iload_n (q := 1) F dJ6_getChars_ba4f3_41 rfl rfl ?_
      refine ml_istore_n (ls2 := [(0, .int (x0 / 100)), (4, .int v12), (3, .int (x0 / 100)), (1, .int x1), (2, ml_rf g 10), (5, .int x5), (6, .int x6)]) F dJ6_getChars_ba4f3_42 rfl (by decide) rfl ?_
      refine ml_aload_n (q := 4) F dJ6_getChars_ba4f3_43 rfl rfl ?_
      refine ml_iinc (q := 5) (v := x5 + (-1)) (ls2 := [(5, .int (x5 + (-1))), (0, .int (x0 / 100)), (4, .int v12), (3, .int (x0 / 100)), (1, .int x1), (2, ml_rf g 10), (6, .int x6)]) F dJ6_getChars_ba4f3_44 rfl rfl (by decide) rfl ?_
      refine ml_iload (q := 0) F dJ6_getChars_ba4f3_47 rfl ?_
      refine ml_gdg0 F lkJ6_83 dJ6_getChars_ba4f3_49 ?_
      refine ml_iload (q := 2) F dJ6_getChars_ba4f3_52 rfl ?_
      refine ml_dgld0 F h dJ6_getChars_ba4f3_54 (fun h => ?_)
      refine ml_bast F (pc10 g) h dJ6_getChars_ba4f3_55 (fun h => ?_)
      refine ml_ltM h (fun M13 _ h => ?_)
      refine ml_aload_n (q := 5) F dJ6_getChars_ba4f3_56 rfl rfl ?_
      refine ml_iinc (q := 0) (v := x5 + (-1) + (-1)) (ls2 := [(5, .int (x5 + (-1) + (-1))), (0, .int (x0 / 100)), (4, .int v12), (3, .int (x0 / 100)), (1, .int x1), (2, ml_rf g 10), (6, .int x6)]) F dJ6_getChars_ba4f3_57 rfl rfl (by decide) rfl ?_
      refine ml_iload (q := 0) F dJ6_getChars_ba4f3_60 rfl ?_
      refine ml_gdg1 F lkJ6_87 dJ6_getChars_ba4f3_62 ?_
      refine ml_iload (q := 2) F dJ6_getChars_ba4f3_65 rfl ?_
      refine ml_dgld1 F h dJ6_getChars_ba4f3_67 (fun h => ?_)
      refine ml_bast F (pc10 g) h dJ6_getChars_ba4f3_68 (fun h => ?_)
      refine ml_ltM h (fun M14 _ h => ?_)
      refine ml_goto (tgt := 22) F dJ6_getChars_ba4f3_69 (by decide) ?_
      exact ml_sub [1, 4, 5, 0, 6] rfl (ih _ _ _ _ _ h)
set_option maxRecDepth 100000 in
def fJ6_getChars_ba4f3 (a0 : Int32) (a1 : Int32) (M : ml_M) : Option ml_R :=
  ml_jn (fun (y1 : Int32) => (if y1 = 0 then fJ6_getChars_ba4f3_l a0 a1 ml_fuel (-a0) a1 a1 y1 M else fJ6_getChars_ba4f3_l a0 a1 ml_fuel a0 a1 a1 y1 M)) (fun B2 => (if 0 ≤ a0 then B2 0 else B2 1))
set_option maxHeartbeats 4000000 in
set_option maxRecDepth 100000 in
theorem fJ6_getChars_ba4f3_c (a0 : Int32) (a1 : Int32) (M : ml_M) (res : ml_R) {g : ml_G} (hst : g.2.2.2.2.2.stackTraces = false) (h : fJ6_getChars_ba4f3 a0 a1 M = some res) : ml_C yJ6_getChars_ba4f3 cJ6_getChars_ba4f3 7 (some .int) 1 0 0 g (fun r _ => some (.int r)) [.int a0, .int a1, ml_rf g 10] M res := by
  refine ml_ofF [(0, .int a0), (1, .int a1), (2, ml_rf g 10)] hst (by decide +kernel) (Nat.le_of_ble_eq_true rfl) rfl (fun E F => ?_)
  unfold fJ6_getChars_ba4f3 at h
  refine ml_iload_n (q := 1) F dJ6_getChars_ba4f3_0 rfl rfl ?_
  refine ml_istore (ls2 := [(5, .int a1), (0, .int a0), (1, .int a1), (2, ml_rf g 10)]) F dJ6_getChars_ba4f3_1 (by decide) rfl ?_
  refine ml_iload_n (q := 1) F dJ6_getChars_ba4f3_3 rfl rfl ?_
  refine ml_jnR (P := fun B => ∀ (y1 : Int32), B y1 = some res → ml_J E g 7 (ml_Z E g (fun r _ => some (.int r)) res 0 0) (0) (0) 12 [(0, .int a0), (1, .int a1), (2, ml_rf g 10), (5, .int a1)] (.int y1 :: []) M) h ?_ (fun jn3 h => ?_)
  · intro y1 h
    dsimp only at h
    refine ml_istore (ls2 := [(6, .int y1), (0, .int a0), (1, .int a1), (2, ml_rf g 10), (5, .int a1)]) F dJ6_getChars_ba4f3_12 (by decide) rfl ?_
    refine ml_iload (q := 0) F dJ6_getChars_ba4f3_14 rfl ?_
    refine ml_if_ne (tgt := 22) F dJ6_getChars_ba4f3_16 (by decide) h (fun _ h => ?_) (fun _ h => ?_)
    · exact ml_sub [1, 2, 3, 4, 0] rfl ((fJ6_getChars_ba4f3_w a0 a1 F ml_fuel) _ _ _ _ _ h)
    · refine ml_iload_n (q := 1) F dJ6_getChars_ba4f3_19 rfl rfl ?_
      refine ml_ineg F dJ6_getChars_ba4f3_20 ?_
      refine ml_istore_n (ls2 := [(0, .int (-a0)), (6, .int y1), (1, .int a1), (2, ml_rf g 10), (5, .int a1)]) F dJ6_getChars_ba4f3_21 rfl (by decide) rfl ?_
      exact ml_sub [0, 2, 3, 4, 1] rfl ((fJ6_getChars_ba4f3_w a0 a1 F ml_fuel) _ _ _ _ _ h)
  refine ml_if_ge (tgt := 11) F dJ6_getChars_ba4f3_4 (by decide) h (fun _ h => ?_) (fun _ h => ?_)
  · refine ml_iconst (v := 0) F dJ6_getChars_ba4f3_11 (by decide) ?_
    exact ml_sub [1, 2, 3, 0] rfl (jn3 _ h)
  · refine ml_iconst (v := 1) F dJ6_getChars_ba4f3_7 (by decide) ?_
    refine ml_goto (tgt := 12) F dJ6_getChars_ba4f3_8 (by decide) ?_
    exact ml_sub [1, 2, 3, 0] rfl (jn3 _ h)
set_option maxRecDepth 100000 in
def fJ5_append_c97b9 (a0 : Int32) (M : ml_M) : Option ml_R :=
  ml_bd (fJ6_stringSize_0f7a4 a0 M) (fun r1 M2 => ml_bd (fJ5_ensureCapacityInternal_d00df ((M 9 3) + r1) M2) (fun r3 M4 => ml_bd (fJ5_isLatin1_aae02 M4) (fun r5 M6 => (if r5 = 0 then none else ml_bd (fJ6_getChars_ba4f3 a0 ((M 9 3) + r1) M6) (fun r7 M8 => ml_lt (ml_w M8 9 3 ((M 9 3) + r1)) (fun M9 => some (.inl 0, M9)))))))
set_option maxHeartbeats 4000000 in
set_option maxRecDepth 100000 in
theorem fJ5_append_c97b9_c (a0 : Int32) (M : ml_M) (res : ml_R) {g : ml_G} (hst : g.2.2.2.2.2.stackTraces = false) (h : fJ5_append_c97b9 a0 M = some res) : ml_C yJ5_append_c97b9 cJ5_append_c97b9 4 (some (.object "java/lang/AbstractStringBuilder")) 2 0 0 g (fun _ _ => some (ml_rf g 9)) [ml_rf g 9, .int a0] M res := by
  refine ml_ofF [(0, ml_rf g 9), (1, .int a0)] hst (by decide +kernel) (Nat.le_of_ble_eq_true rfl) rfl (fun E F => ?_)
  unfold fJ5_append_c97b9 at h
  refine ml_aload_n (q := 0) F dJ5_append_c97b9_0 rfl rfl ?_
  refine ml_get (v := .int (M 9 3)) F (pc9 g) rfl iaJ4 3 (by decide) lkJ5_79 rfl rfl dJ5_append_c97b9_1 ?_
  refine ml_istore_n (ls2 := [(2, .int (M 9 3)), (0, ml_rf g 9), (1, .int a0)]) F dJ5_append_c97b9_4 rfl (by decide) rfl ?_
  refine ml_iload_n (q := 0) F dJ5_append_c97b9_5 rfl rfl ?_
  refine ml_iload_n (q := 2) F dJ5_append_c97b9_6 rfl rfl ?_
  refine ml_callS (av := [.int a0]) F h (fun rs h9 => fJ6_stringSize_0f7a4_c a0 M rs hst h9) wcJ6_stringSize_0f7a4 mlJ5_245 wdJ6_stringSize_0f7a4 (by decide) (by decide) (by decide) rfl stJ6_stringSize_0f7a4 rfl (Nat.le_of_ble_eq_true rfl) dJ5_append_c97b9_7 (fun r1 M2 h => ?_)
  refine ml_iadd F dJ5_append_c97b9_10 ?_
  refine ml_istore_n (ls2 := [(3, .int ((M 9 3) + r1)), (2, .int (M 9 3)), (0, ml_rf g 9), (1, .int a0)]) F dJ5_append_c97b9_11 rfl (by decide) rfl ?_
  refine ml_aload_n (q := 2) F dJ5_append_c97b9_12 rfl rfl ?_
  refine ml_iload_n (q := 0) F dJ5_append_c97b9_13 rfl rfl ?_
  refine ml_callU (av := [.int ((M 9 3) + r1)]) (T := TJ4) (N := 4) F (pc9 g) rfl h (fun rs h9 => fJ5_ensureCapacityInternal_d00df_c ((M 9 3) + r1) M2 rs hst h9) wcJ5_ensureCapacityInternal_d00df mlJ5_100 wdJ5_ensureCapacityInternal_d00df (by decide) (by decide) (by decide) rfl smJ5_ensureCapacityInternal_d00df sbJ5_ensureCapacityInternal_d00df imJ5_ensureCapacityInternal_d00df rfl (Nat.le_of_ble_eq_true rfl) dJ5_append_c97b9_14 (fun r3 M4 h => ?_)
  refine ml_aload_n (q := 2) F dJ5_append_c97b9_17 rfl rfl ?_
  refine ml_callU (av := []) (T := TJ4) (N := 4) F (pc9 g) rfl h (fun rs h9 => fJ5_isLatin1_aae02_c M4 rs hst h9) wcJ5_isLatin1_aae02 mlJ5_83 wdJ5_isLatin1_aae02 (by decide) (by decide) (by decide) rfl smJ5_isLatin1_aae02 sbJ5_isLatin1_aae02 imJ5_isLatin1_aae02 rfl (Nat.le_of_ble_eq_true rfl) dJ5_append_c97b9_18 (fun r5 M6 h => ?_)
  refine ml_if_eq (tgt := 37) F dJ5_append_c97b9_21 (by decide) h (fun _ h => ?_) (fun _ h => ?_)
  · exact nomatch (show (none : Option ml_R) = some res from h)
  · refine ml_iload_n (q := 3) F dJ5_append_c97b9_24 rfl rfl ?_
    refine ml_iload_n (q := 0) F dJ5_append_c97b9_25 rfl rfl ?_
    refine ml_aload_n (q := 2) F dJ5_append_c97b9_26 rfl rfl ?_
    refine ml_get (v := ml_rf g 10) F (pc9 g) rfl iaJ4 0 (by decide) lkJ5_15 rfl rfl dJ5_append_c97b9_27 ?_
    refine ml_callS (av := [.int a0, .int ((M 9 3) + r1), ml_rf g 10]) F h (fun rs h9 => fJ6_getChars_ba4f3_c a0 ((M 9 3) + r1) M6 rs hst h9) wcJ6_getChars_ba4f3 mlJ5_248 wdJ6_getChars_ba4f3 (by decide) (by decide) (by decide) rfl stJ6_getChars_ba4f3 rfl (Nat.le_of_ble_eq_true rfl) dJ5_append_c97b9_30 (fun r7 M8 h => ?_)
    refine ml_pop F dJ5_append_c97b9_33 rfl ?_
    refine ml_goto (tgt := 48) F dJ5_append_c97b9_34 (by decide) ?_
    refine ml_aload_n (q := 2) F dJ5_append_c97b9_48 rfl rfl ?_
    refine ml_iload_n (q := 0) F dJ5_append_c97b9_49 rfl rfl ?_
    refine ml_set F (pc9 g) rfl iaJ4 tyJ4_ok nmJ4 3 (by decide) lkJ5_79 rfl rfl rfl rfl rfl (Nat.le_of_ble_eq_true rfl) (fun m => by simp [upd]) dJ5_append_c97b9_50 ?_
    refine ml_ltM h (fun M9 _ h => ?_)
    refine ml_aload_n (q := 2) F dJ5_append_c97b9_53 rfl rfl ?_
    exact ml_aret (st := []) F (Option.some.inj h) rfl rfl (Or.inl ⟨_, rfl⟩) (by decide) (by decide) dJ5_append_c97b9_54
set_option maxRecDepth 100000 in
def fJ4_append_bf812 (a0 : Int32) (M : ml_M) : Option ml_R :=
  ml_bd (fJ5_append_c97b9 a0 M) (fun r1 M2 => some (.inl 0, M2))
set_option maxHeartbeats 4000000 in
set_option maxRecDepth 100000 in
theorem fJ4_append_bf812_c (a0 : Int32) (M : ml_M) (res : ml_R) {g : ml_G} (hst : g.2.2.2.2.2.stackTraces = false) (h : fJ4_append_bf812 a0 M = some res) : ml_C yJ4_append_bf812 cJ4_append_bf812 2 (some (.object "java/lang/StringBuilder")) 3 0 0 g (fun _ _ => some (ml_rf g 9)) [ml_rf g 9, .int a0] M res := by
  refine ml_ofF [(0, ml_rf g 9), (1, .int a0)] hst (by decide +kernel) (Nat.le_of_ble_eq_true rfl) rfl (fun E F => ?_)
  unfold fJ4_append_bf812 at h
  refine ml_aload_n (q := 0) F dJ4_append_bf812_0 rfl rfl ?_
  refine ml_iload_n (q := 1) F dJ4_append_bf812_1 rfl rfl ?_
  refine ml_callP (av := [.int a0]) (T := TJ4) (N := 4) F (pc9 g) rfl h (fun rs h9 => fJ5_append_c97b9_c a0 M rs hst h9) wcJ5_append_c97b9 mlJ4_53 wdJ5_append_c97b9 (by decide) (by decide) (by decide) rfl smJ5_append_c97b9 suJ4 (by decide) imJ5_append_c97b9 rfl (Nat.le_of_ble_eq_true rfl) dJ4_append_bf812_2 (fun r1 M2 h => ?_)
  refine ml_pop F dJ4_append_bf812_5 rfl ?_
  refine ml_aload_n (q := 0) F dJ4_append_bf812_6 rfl rfl ?_
  exact ml_aret (st := []) F (Option.some.inj h) rfl rfl (Or.inl ⟨_, rfl⟩) (by decide) (by decide) dJ4_append_bf812_7
set_option maxRecDepth 100000 in
def fJ5_getValue_6d5f1 (M : ml_M) : Option ml_R :=
  some (.inl 0, M)
set_option maxHeartbeats 4000000 in
set_option maxRecDepth 100000 in
theorem fJ5_getValue_6d5f1_c (M : ml_M) (res : ml_R) {g : ml_G} (hst : g.2.2.2.2.2.stackTraces = false) (h : fJ5_getValue_6d5f1 M = some res) : ml_C yJ5_getValue_6d5f1 cJ5_getValue_6d5f1 1 (some (.array .byte)) 1 0 0 g (fun _ _ => some (ml_rf g 10)) [ml_rf g 9] M res := by
  refine ml_ofF [(0, ml_rf g 9)] hst (by decide +kernel) (Nat.le_of_ble_eq_true rfl) rfl (fun E F => ?_)
  unfold fJ5_getValue_6d5f1 at h
  refine ml_aload_n (q := 0) F dJ5_getValue_6d5f1_0 rfl rfl ?_
  refine ml_get (v := ml_rf g 10) F (pc9 g) rfl iaJ4 0 (by decide) lkJ5_15 rfl rfl dJ5_getValue_6d5f1_1 ?_
  exact ml_aret (st := []) F (Option.some.inj h) rfl rfl (Or.inr ⟨_, rfl⟩) (by decide) (by decide) dJ5_getValue_6d5f1_4
set_option maxRecDepth 100000 in
def fJ5_length_8abf5 (M : ml_M) : Option ml_R :=
  some (.inl (M 9 3), M)
set_option maxHeartbeats 4000000 in
set_option maxRecDepth 100000 in
theorem fJ5_length_8abf5_c (M : ml_M) (res : ml_R) {g : ml_G} (hst : g.2.2.2.2.2.stackTraces = false) (h : fJ5_length_8abf5 M = some res) : ml_C yJ5_length_8abf5 cJ5_length_8abf5 1 (some .int) 1 0 0 g (fun r _ => some (.int r)) [ml_rf g 9] M res := by
  refine ml_ofF [(0, ml_rf g 9)] hst (by decide +kernel) (Nat.le_of_ble_eq_true rfl) rfl (fun E F => ?_)
  unfold fJ5_length_8abf5 at h
  refine ml_aload_n (q := 0) F dJ5_length_8abf5_0 rfl rfl ?_
  refine ml_get (v := .int (M 9 3)) F (pc9 g) rfl iaJ4 3 (by decide) lkJ5_79 rfl rfl dJ5_length_8abf5_1 ?_
  exact ml_iret (st := []) F (Option.some.inj h) rfl rfl rfl (by decide) (by decide) dJ5_length_8abf5_4
set_option maxRecDepth 100000 in
def fJ5_setLength_d00df (a0 : Int32) (M : ml_M) : Option ml_R :=
  (if 0 ≤ a0 then ml_bd (fJ5_ensureCapacityInternal_d00df a0 M) (fun r1 M2 => ml_jn (fun (M3 : ml_M) => ml_lt (ml_w M3 9 3 a0) (fun M6 => some (.inl 0, M6))) (fun B4 => (if a0 ≤ (M2 9 3) then (if (M2 9 3) ≤ a0 then B4 M2 else ml_lt (ml_w M2 9 2 1) (fun M7 => B4 M7)) else ml_bd (fJ5_isLatin1_aae02 M2) (fun r8 M9 => (if r8 = 0 then none else none))))) else none)
set_option maxHeartbeats 4000000 in
set_option maxRecDepth 100000 in
theorem fJ5_setLength_d00df_c (a0 : Int32) (M : ml_M) (res : ml_R) {g : ml_G} (hst : g.2.2.2.2.2.stackTraces = false) (h : fJ5_setLength_d00df a0 M = some res) : ml_C yJ5_setLength_d00df cJ5_setLength_d00df 2 none 2 0 0 g (fun _ _ => none) [ml_rf g 9, .int a0] M res := by
  refine ml_ofF [(0, ml_rf g 9), (1, .int a0)] hst (by decide +kernel) (Nat.le_of_ble_eq_true rfl) rfl (fun E F => ?_)
  unfold fJ5_setLength_d00df at h
  refine ml_iload_n (q := 1) F dJ5_setLength_d00df_0 rfl rfl ?_
  refine ml_if_ge (tgt := 13) F dJ5_setLength_d00df_1 (by decide) h (fun _ h => ?_) (fun _ h => ?_)
  · refine ml_aload_n (q := 0) F dJ5_setLength_d00df_13 rfl rfl ?_
    refine ml_iload_n (q := 1) F dJ5_setLength_d00df_14 rfl rfl ?_
    refine ml_callU (av := [.int a0]) (T := TJ4) (N := 4) F (pc9 g) rfl h (fun rs h9 => fJ5_ensureCapacityInternal_d00df_c a0 M rs hst h9) wcJ5_ensureCapacityInternal_d00df mlJ5_100 wdJ5_ensureCapacityInternal_d00df (by decide) (by decide) (by decide) rfl smJ5_ensureCapacityInternal_d00df sbJ5_ensureCapacityInternal_d00df imJ5_ensureCapacityInternal_d00df rfl (Nat.le_of_ble_eq_true rfl) dJ5_setLength_d00df_15 (fun r1 M2 h => ?_)
    refine ml_aload_n (q := 0) F dJ5_setLength_d00df_18 rfl rfl ?_
    refine ml_get (v := .int (M2 9 3)) F (pc9 g) rfl iaJ4 3 (by decide) lkJ5_79 rfl rfl dJ5_setLength_d00df_19 ?_
    refine ml_iload_n (q := 1) F dJ5_setLength_d00df_22 rfl rfl ?_
    refine ml_jnR (P := fun B => ∀ (M3 : ml_M), B M3 = some res → ml_J E g 2 (ml_Z E g (fun _ _ => none) res 0 0) (0 + 0) (0 + 0) 76 [(0, ml_rf g 9), (1, .int a0)] ([]) M3) h ?_ (fun jn5 h => ?_)
    · intro M3 h
      dsimp only at h
      refine ml_aload_n (q := 0) F dJ5_setLength_d00df_76 rfl rfl ?_
      refine ml_iload_n (q := 1) F dJ5_setLength_d00df_77 rfl rfl ?_
      refine ml_set F (pc9 g) rfl iaJ4 tyJ4_ok nmJ4 3 (by decide) lkJ5_79 rfl rfl rfl rfl rfl (Nat.le_of_ble_eq_true rfl) (fun m => by simp [upd]) dJ5_setLength_d00df_78 ?_
      refine ml_ltM h (fun M6 _ h => ?_)
      exact ml_vret (st := []) F (Option.some.inj h) rfl rfl (by decide) (by decide) dJ5_setLength_d00df_81
    refine ml_icmp_ge (tgt := 63) F dJ5_setLength_d00df_23 (by decide) h (fun _ h => ?_) (fun _ h => ?_)
    · refine ml_aload_n (q := 0) F dJ5_setLength_d00df_63 rfl rfl ?_
      refine ml_get (v := .int (M2 9 3)) F (pc9 g) rfl iaJ4 3 (by decide) lkJ5_79 rfl rfl dJ5_setLength_d00df_64 ?_
      refine ml_iload_n (q := 1) F dJ5_setLength_d00df_67 rfl rfl ?_
      refine ml_icmp_le (tgt := 76) F dJ5_setLength_d00df_68 (by decide) h (fun _ h => ?_) (fun _ h => ?_)
      · exact ml_sub [0, 1] rfl (jn5 _ h)
      · refine ml_aload_n (q := 0) F dJ5_setLength_d00df_71 rfl rfl ?_
        refine ml_iconst (v := 1) F dJ5_setLength_d00df_72 (by decide) ?_
        refine ml_set F (pc9 g) rfl iaJ4 tyJ4_ok nmJ4 2 (by decide) lkJ5_73 rfl rfl rfl (by decide) (by decide) (Nat.le_of_ble_eq_true rfl) (fun m => by simp [upd]) dJ5_setLength_d00df_73 ?_
        refine ml_ltM h (fun M7 _ h => ?_)
        exact ml_sub [0, 1] rfl (jn5 _ h)
    · refine ml_aload_n (q := 0) F dJ5_setLength_d00df_26 rfl rfl ?_
      refine ml_callU (av := []) (T := TJ4) (N := 4) F (pc9 g) rfl h (fun rs h9 => fJ5_isLatin1_aae02_c M2 rs hst h9) wcJ5_isLatin1_aae02 mlJ5_83 wdJ5_isLatin1_aae02 (by decide) (by decide) (by decide) rfl smJ5_isLatin1_aae02 sbJ5_isLatin1_aae02 imJ5_isLatin1_aae02 rfl (Nat.le_of_ble_eq_true rfl) dJ5_setLength_d00df_27 (fun r8 M9 h => ?_)
      refine ml_if_eq (tgt := 48) F dJ5_setLength_d00df_30 (by decide) h (fun _ h => ?_) (fun _ h => ?_)
      · exact nomatch (show (none : Option ml_R) = some res from h)
      · exact nomatch (show (none : Option ml_R) = some res from h)
  · exact nomatch (show (none : Option ml_R) = some res from h)
set_option maxRecDepth 100000 in
def fJ4_setLength_d00df (a0 : Int32) (M : ml_M) : Option ml_R :=
  ml_bd (fJ5_setLength_d00df a0 M) (fun r1 M2 => some (.inl 0, M2))
set_option maxHeartbeats 4000000 in
set_option maxRecDepth 100000 in
theorem fJ4_setLength_d00df_c (a0 : Int32) (M : ml_M) (res : ml_R) {g : ml_G} (hst : g.2.2.2.2.2.stackTraces = false) (h : fJ4_setLength_d00df a0 M = some res) : ml_C yJ4_setLength_d00df cJ4_setLength_d00df 2 none 3 0 0 g (fun _ _ => none) [ml_rf g 9, .int a0] M res := by
  refine ml_ofF [(0, ml_rf g 9), (1, .int a0)] hst (by decide +kernel) (Nat.le_of_ble_eq_true rfl) rfl (fun E F => ?_)
  unfold fJ4_setLength_d00df at h
  refine ml_aload_n (q := 0) F dJ4_setLength_d00df_0 rfl rfl ?_
  refine ml_iload_n (q := 1) F dJ4_setLength_d00df_1 rfl rfl ?_
  refine ml_callP (av := [.int a0]) (T := TJ4) (N := 4) F (pc9 g) rfl h (fun rs h9 => fJ5_setLength_d00df_c a0 M rs hst h9) wcJ5_setLength_d00df mlJ4_333 wdJ5_setLength_d00df (by decide) (by decide) (by decide) rfl smJ5_setLength_d00df suJ4 (by decide) imJ5_setLength_d00df rfl (Nat.le_of_ble_eq_true rfl) dJ4_setLength_d00df_2 (fun r1 M2 h => ?_)
  exact ml_vret (st := []) F (Option.some.inj h) rfl rfl (by decide) (by decide) dJ4_setLength_d00df_5
set_option maxRecDepth 100000 in
def fJ1_canEncode_fc78d (a0 : Int32) (M : ml_M) : Option ml_R :=
  ml_jn (fun (y1 : Int32) => if narrow .boolean (.int y1) = .int y1 then some (.inl y1, M) else none) (fun B2 => (if 255 < a0 then B2 0 else B2 1))
set_option maxHeartbeats 4000000 in
set_option maxRecDepth 100000 in
theorem fJ1_canEncode_fc78d_c (a0 : Int32) (M : ml_M) (res : ml_R) {g : ml_G} (hst : g.2.2.2.2.2.stackTraces = false) (h : fJ1_canEncode_fc78d a0 M = some res) : ml_C yJ1_canEncode_fc78d cJ1_canEncode_fc78d 1 (some .boolean) 1 0 0 g (fun r _ => some (.int r)) [.int a0] M res := by
  refine ml_ofF [(0, .int a0)] hst (by decide +kernel) (Nat.le_of_ble_eq_true rfl) rfl (fun E F => ?_)
  unfold fJ1_canEncode_fc78d at h
  refine ml_iload_n (q := 0) F dJ1_canEncode_fc78d_0 rfl rfl ?_
  refine ml_sipush (v := 255) F dJ1_canEncode_fc78d_1 (by decide) ?_
  refine ml_jnR (P := fun B => ∀ (y1 : Int32), B y1 = some res → ml_J E g 1 (ml_Z E g (fun r _ => some (.int r)) res 0 0) (0) (0) 12 [(0, .int a0)] (.int y1 :: []) M) h ?_ (fun jn3 h => ?_)
  · intro y1 h
    dsimp only at h
    obtain ⟨q4, h⟩ := ml_if h
    exact ml_iret (st := []) F (Option.some.inj h) rfl rfl q4 (by decide) (by decide) dJ1_canEncode_fc78d_12
  refine ml_icmp_gt (tgt := 11) F dJ1_canEncode_fc78d_4 (by decide) h (fun _ h => ?_) (fun _ h => ?_)
  · refine ml_iconst (v := 0) F dJ1_canEncode_fc78d_11 (by decide) ?_
    exact ml_sub [0] rfl (jn3 _ h)
  · refine ml_iconst (v := 1) F dJ1_canEncode_fc78d_7 (by decide) ?_
    refine ml_goto (tgt := 12) F dJ1_canEncode_fc78d_8 (by decide) ?_
    exact ml_sub [0] rfl (jn3 _ h)
set_option maxRecDepth 100000 in
def fJ3_checkIndex_8e157 (a0 : Int32) (a1 : Int32) (M : ml_M) : Option ml_R :=
  (if a0 < 0 then none else (if a0 < a1 then some (.inl a0, M) else none))
set_option maxHeartbeats 4000000 in
set_option maxRecDepth 100000 in
theorem fJ3_checkIndex_8e157_c (vq : Option Nat) (a0 : Int32) (a1 : Int32) (M : ml_M) (res : ml_R) {g : ml_G} (hst : g.2.2.2.2.2.stackTraces = false) (h : fJ3_checkIndex_8e157 a0 a1 M = some res) : ml_C yJ3_checkIndex_8e157 cJ3_checkIndex_8e157 3 (some .int) 1 0 0 g (fun r _ => some (.int r)) [.int a0, .int a1, va_rf vq] M res := by
  refine ml_ofF [(0, .int a0), (1, .int a1), (2, va_rf vq)] hst (by decide +kernel) (by cases vq <;> exact Nat.le_of_ble_eq_true rfl) rfl (fun E F => ?_)
  unfold fJ3_checkIndex_8e157 at h
  refine ml_iload_n (q := 0) F dJ3_checkIndex_8e157_0 rfl rfl ?_
  refine ml_if_lt (tgt := 9) F dJ3_checkIndex_8e157_1 (by decide) h (fun _ h => ?_) (fun _ h => ?_)
  · exact nomatch (show (none : Option ml_R) = some res from h)
  · refine ml_iload_n (q := 0) F dJ3_checkIndex_8e157_4 rfl rfl ?_
    refine ml_iload_n (q := 1) F dJ3_checkIndex_8e157_5 rfl rfl ?_
    refine ml_icmp_lt (tgt := 16) F dJ3_checkIndex_8e157_6 (by decide) h (fun _ h => ?_) (fun _ h => ?_)
    · refine ml_iload_n (q := 0) F dJ3_checkIndex_8e157_16 rfl rfl ?_
      exact ml_iret (st := []) F (Option.some.inj h) rfl rfl rfl (by decide) (by decide) dJ3_checkIndex_8e157_17
    · exact nomatch (show (none : Option ml_R) = some res from h)
set_option maxRecDepth 100000 in
def fJ0_checkIndex_df160 (a0 : Int32) (a1 : Int32) (M : ml_M) : Option ml_R :=
  ml_bd (fJ3_checkIndex_8e157 a0 a1 M) (fun r2 M3 => some (.inl 0, M3))
set_option maxHeartbeats 4000000 in
set_option maxRecDepth 100000 in
theorem fJ0_checkIndex_df160_c (a0 : Int32) (a1 : Int32) (M : ml_M) (res : ml_R) {g : ml_G} (hst : g.2.2.2.2.2.stackTraces = false) (h : fJ0_checkIndex_df160 a0 a1 M = some res) : ml_C yJ0_checkIndex_df160 cJ0_checkIndex_df160 2 none 2 0 0 g (fun _ _ => none) [.int a0, .int a1] M res := by
  refine ml_ofF [(0, .int a0), (1, .int a1)] hst (by decide +kernel) (Nat.le_of_ble_eq_true rfl) rfl (fun E F => ?_)
  unfold fJ0_checkIndex_df160 at h
  refine ml_iload_n (q := 0) F dJ0_checkIndex_df160_0 rfl rfl ?_
  refine ml_iload_n (q := 1) F dJ0_checkIndex_df160_1 rfl rfl ?_
  refine ml_gsi F lkJ0_1053 dJ0_checkIndex_df160_2 (fun w1 => ?_)
  refine ml_callS (av := [.int a0, .int a1, va_rf w1]) F h (fun rs h9 => fJ3_checkIndex_8e157_c w1 a0 a1 M rs hst h9) wcJ3_checkIndex_8e157 mlJ0_1059 wdJ3_checkIndex_8e157 (by decide) (by decide) (by decide) rfl stJ3_checkIndex_8e157 rfl (Nat.le_of_ble_eq_true rfl) dJ0_checkIndex_df160_5 (fun r2 M3 h => ?_)
  refine ml_pop F dJ0_checkIndex_df160_8 rfl ?_
  exact ml_vret (st := []) F (Option.some.inj h) rfl rfl (by decide) (by decide) dJ0_checkIndex_df160_9
set_option maxRecDepth 100000 in
def fJ5_append_3fe6f (a0 : Int32) (M : ml_M) : Option ml_R :=
  ml_bd (fJ5_ensureCapacityInternal_d00df ((M 9 3) + 1) M) (fun r1 M2 => ml_bd (fJ5_isLatin1_aae02 M2) (fun r3 M4 => (if r3 = 0 then ml_bd (fJ5_isLatin1_aae02 M4) (fun r5 M6 => (if r5 = 0 then none else none)) else ml_bd (fJ1_canEncode_fc78d a0 M4) (fun r10 M11 => (if r10 = 0 then ml_bd (fJ5_isLatin1_aae02 M11) (fun r12 M13 => (if r12 = 0 then none else none)) else ml_lt (ml_w M11 9 3 ((M11 9 3) + 1)) (fun M17 => if ml_ok (M11 9 3) 16 then ml_lt (ml_w M17 10 (M11 9 3).toNatClampNeg (vp_nar .byte (a0.toInt8.toInt32))) (fun M18 => some (.inl 0, M18)) else none))))))
set_option maxHeartbeats 4000000 in
set_option maxRecDepth 100000 in
theorem fJ5_append_3fe6f_c (a0 : Int32) (M : ml_M) (res : ml_R) {g : ml_G} (hst : g.2.2.2.2.2.stackTraces = false) (h : fJ5_append_3fe6f a0 M = some res) : ml_C yJ5_append_3fe6f cJ5_append_3fe6f 2 (some (.object "java/lang/AbstractStringBuilder")) 3 0 0 g (fun _ _ => some (ml_rf g 9)) [ml_rf g 9, .int a0] M res := by
  refine ml_ofF [(0, ml_rf g 9), (1, .int a0)] hst (by decide +kernel) (Nat.le_of_ble_eq_true rfl) rfl (fun E F => ?_)
  unfold fJ5_append_3fe6f at h
  refine ml_aload_n (q := 0) F dJ5_append_3fe6f_0 rfl rfl ?_
  refine ml_aload_n (q := 0) F dJ5_append_3fe6f_1 rfl rfl ?_
  refine ml_get (v := .int (M 9 3)) F (pc9 g) rfl iaJ4 3 (by decide) lkJ5_79 rfl rfl dJ5_append_3fe6f_2 ?_
  refine ml_iconst (v := 1) F dJ5_append_3fe6f_5 (by decide) ?_
  refine ml_iadd F dJ5_append_3fe6f_6 ?_
  refine ml_callU (av := [.int ((M 9 3) + 1)]) (T := TJ4) (N := 4) F (pc9 g) rfl h (fun rs h9 => fJ5_ensureCapacityInternal_d00df_c ((M 9 3) + 1) M rs hst h9) wcJ5_ensureCapacityInternal_d00df mlJ5_100 wdJ5_ensureCapacityInternal_d00df (by decide) (by decide) (by decide) rfl smJ5_ensureCapacityInternal_d00df sbJ5_ensureCapacityInternal_d00df imJ5_ensureCapacityInternal_d00df rfl (Nat.le_of_ble_eq_true rfl) dJ5_append_3fe6f_7 (fun r1 M2 h => ?_)
  refine ml_aload_n (q := 0) F dJ5_append_3fe6f_10 rfl rfl ?_
  refine ml_callU (av := []) (T := TJ4) (N := 4) F (pc9 g) rfl h (fun rs h9 => fJ5_isLatin1_aae02_c M2 rs hst h9) wcJ5_isLatin1_aae02 mlJ5_83 wdJ5_isLatin1_aae02 (by decide) (by decide) (by decide) rfl smJ5_isLatin1_aae02 sbJ5_isLatin1_aae02 imJ5_isLatin1_aae02 rfl (Nat.le_of_ble_eq_true rfl) dJ5_append_3fe6f_11 (fun r3 M4 h => ?_)
  refine ml_if_eq (tgt := 45) F dJ5_append_3fe6f_14 (by decide) h (fun _ h => ?_) (fun _ h => ?_)
  · refine ml_aload_n (q := 0) F dJ5_append_3fe6f_45 rfl rfl ?_
    refine ml_callU (av := []) (T := TJ4) (N := 4) F (pc9 g) rfl h (fun rs h9 => fJ5_isLatin1_aae02_c M4 rs hst h9) wcJ5_isLatin1_aae02 mlJ5_83 wdJ5_isLatin1_aae02 (by decide) (by decide) (by decide) rfl smJ5_isLatin1_aae02 sbJ5_isLatin1_aae02 imJ5_isLatin1_aae02 rfl (Nat.le_of_ble_eq_true rfl) dJ5_append_3fe6f_46 (fun r5 M6 h => ?_)
    refine ml_if_eq (tgt := 56) F dJ5_append_3fe6f_49 (by decide) h (fun _ h => ?_) (fun _ h => ?_)
    · exact nomatch (show (none : Option ml_R) = some res from h)
    · exact nomatch (show (none : Option ml_R) = some res from h)
  · refine ml_iload_n (q := 1) F dJ5_append_3fe6f_17 rfl rfl ?_
    refine ml_callS (av := [.int a0]) F h (fun rs h9 => fJ1_canEncode_fc78d_c a0 M4 rs hst h9) wcJ1_canEncode_fc78d mlJ5_191 wdJ1_canEncode_fc78d (by decide) (by decide) (by decide) rfl stJ1_canEncode_fc78d rfl (Nat.le_of_ble_eq_true rfl) dJ5_append_3fe6f_18 (fun r10 M11 h => ?_)
    refine ml_if_eq (tgt := 45) F dJ5_append_3fe6f_21 (by decide) h (fun _ h => ?_) (fun _ h => ?_)
    · refine ml_aload_n (q := 0) F dJ5_append_3fe6f_45 rfl rfl ?_
      refine ml_callU (av := []) (T := TJ4) (N := 4) F (pc9 g) rfl h (fun rs h9 => fJ5_isLatin1_aae02_c M11 rs hst h9) wcJ5_isLatin1_aae02 mlJ5_83 wdJ5_isLatin1_aae02 (by decide) (by decide) (by decide) rfl smJ5_isLatin1_aae02 sbJ5_isLatin1_aae02 imJ5_isLatin1_aae02 rfl (Nat.le_of_ble_eq_true rfl) dJ5_append_3fe6f_46 (fun r12 M13 h => ?_)
      refine ml_if_eq (tgt := 56) F dJ5_append_3fe6f_49 (by decide) h (fun _ h => ?_) (fun _ h => ?_)
      · exact nomatch (show (none : Option ml_R) = some res from h)
      · exact nomatch (show (none : Option ml_R) = some res from h)
    · refine ml_aload_n (q := 0) F dJ5_append_3fe6f_24 rfl rfl ?_
      refine ml_get (v := ml_rf g 10) F (pc9 g) rfl iaJ4 0 (by decide) lkJ5_15 rfl rfl dJ5_append_3fe6f_25 ?_
      refine ml_aload_n (q := 0) F dJ5_append_3fe6f_28 rfl rfl ?_
      refine ml_dup F dJ5_append_3fe6f_29 rfl ?_
      refine ml_get (v := .int (M11 9 3)) F (pc9 g) rfl iaJ4 3 (by decide) lkJ5_79 rfl rfl dJ5_append_3fe6f_30 ?_
      refine ml_dup_x1 F dJ5_append_3fe6f_33 rfl rfl ?_
      refine ml_iconst (v := 1) F dJ5_append_3fe6f_34 (by decide) ?_
      refine ml_iadd F dJ5_append_3fe6f_35 ?_
      refine ml_set F (pc9 g) rfl iaJ4 tyJ4_ok nmJ4 3 (by decide) lkJ5_79 rfl rfl rfl rfl rfl (Nat.le_of_ble_eq_true rfl) (fun m => by simp [upd]) dJ5_append_3fe6f_36 ?_
      refine ml_ltM h (fun M17 _ h => ?_)
      refine ml_iload_n (q := 1) F dJ5_append_3fe6f_39 rfl rfl ?_
      refine ml_i2b F dJ5_append_3fe6f_40 ?_
      refine ml_bast F (pc10 g) h dJ5_append_3fe6f_41 (fun h => ?_)
      refine ml_ltM h (fun M18 _ h => ?_)
      refine ml_goto (tgt := 75) F dJ5_append_3fe6f_42 (by decide) ?_
      refine ml_aload_n (q := 0) F dJ5_append_3fe6f_75 rfl rfl ?_
      exact ml_aret (st := []) F (Option.some.inj h) rfl rfl (Or.inl ⟨_, rfl⟩) (by decide) (by decide) dJ5_append_3fe6f_76
set_option maxRecDepth 100000 in
def fJ4_append_cf468 (a0 : Int32) (M : ml_M) : Option ml_R :=
  ml_bd (fJ5_append_3fe6f a0 M) (fun r1 M2 => some (.inl 0, M2))
set_option maxHeartbeats 4000000 in
set_option maxRecDepth 100000 in
theorem fJ4_append_cf468_c (a0 : Int32) (M : ml_M) (res : ml_R) {g : ml_G} (hst : g.2.2.2.2.2.stackTraces = false) (h : fJ4_append_cf468 a0 M = some res) : ml_C yJ4_append_cf468 cJ4_append_cf468 2 (some (.object "java/lang/StringBuilder")) 4 0 0 g (fun _ _ => some (ml_rf g 9)) [ml_rf g 9, .int a0] M res := by
  refine ml_ofF [(0, ml_rf g 9), (1, .int a0)] hst (by decide +kernel) (Nat.le_of_ble_eq_true rfl) rfl (fun E F => ?_)
  unfold fJ4_append_cf468 at h
  refine ml_aload_n (q := 0) F dJ4_append_cf468_0 rfl rfl ?_
  refine ml_iload_n (q := 1) F dJ4_append_cf468_1 rfl rfl ?_
  refine ml_callP (av := [.int a0]) (T := TJ4) (N := 4) F (pc9 g) rfl h (fun rs h9 => fJ5_append_3fe6f_c a0 M rs hst h9) wcJ5_append_3fe6f mlJ4_50 wdJ5_append_3fe6f (by decide) (by decide) (by decide) rfl smJ5_append_3fe6f suJ4 (by decide) imJ5_append_3fe6f rfl (Nat.le_of_ble_eq_true rfl) dJ4_append_cf468_2 (fun r1 M2 h => ?_)
  refine ml_pop F dJ4_append_cf468_5 rfl ?_
  refine ml_aload_n (q := 0) F dJ4_append_cf468_6 rfl rfl ?_
  exact ml_aret (st := []) F (Option.some.inj h) rfl rfl (Or.inl ⟨_, rfl⟩) (by decide) (by decide) dJ4_append_cf468_7
set_option maxRecDepth 100000 in
def fJ4_length_8abf5 (M : ml_M) : Option ml_R :=
  ml_bd (fJ5_length_8abf5 M) (fun r1 M2 => some (.inl r1, M2))
set_option maxHeartbeats 4000000 in
set_option maxRecDepth 100000 in
theorem fJ4_length_8abf5_c (M : ml_M) (res : ml_R) {g : ml_G} (hst : g.2.2.2.2.2.stackTraces = false) (h : fJ4_length_8abf5 M = some res) : ml_C yJ4_length_8abf5 cJ4_length_8abf5 1 (some .int) 2 0 0 g (fun r _ => some (.int r)) [ml_rf g 9] M res := by
  refine ml_ofF [(0, ml_rf g 9)] hst (by decide +kernel) (Nat.le_of_ble_eq_true rfl) rfl (fun E F => ?_)
  unfold fJ4_length_8abf5 at h
  refine ml_aload_n (q := 0) F dJ4_length_8abf5_0 rfl rfl ?_
  refine ml_callP (av := []) (T := TJ4) (N := 4) F (pc9 g) rfl h (fun rs h9 => fJ5_length_8abf5_c M rs hst h9) wcJ5_length_8abf5 mlJ4_343 wdJ5_length_8abf5 (by decide) (by decide) (by decide) rfl smJ5_length_8abf5 suJ4 (by decide) imJ5_length_8abf5 rfl (Nat.le_of_ble_eq_true rfl) dJ4_length_8abf5_1 (fun r1 M2 h => ?_)
  exact ml_iret (st := []) F (Option.some.inj h) rfl rfl rfl (by decide) (by decide) dJ4_length_8abf5_4
set_option maxRecDepth 100000 in
def fJ5_charAt_5068e (a0 : Int32) (M : ml_M) : Option ml_R :=
  ml_lt (if (16 >>> ((M 9 1) &&& 31)) < (M 9 3) then (16 >>> ((M 9 1) &&& 31)) else (M 9 3)) (fun v1 => ml_bd (fJ0_checkIndex_df160 a0 v1 M) (fun r2 M3 => (if (M 9 1) = 0 then if ml_ok a0 16 then if narrow .char (.int ((((M3 10 a0.toNatClampNeg) &&& 255).toUInt32 % 65536).toInt32)) = .int ((((M3 10 a0.toNatClampNeg) &&& 255).toUInt32 % 65536).toInt32) then some (.inl ((((M3 10 a0.toNatClampNeg) &&& 255).toUInt32 % 65536).toInt32), M3) else none else none else none)))
set_option maxHeartbeats 4000000 in
set_option maxRecDepth 100000 in
theorem fJ5_charAt_5068e_c (a0 : Int32) (M : ml_M) (res : ml_R) {g : ml_G} (hst : g.2.2.2.2.2.stackTraces = false) (h : fJ5_charAt_5068e a0 M = some res) : ml_C yJ5_charAt_5068e cJ5_charAt_5068e 5 (some .char) 3 0 0 g (fun r _ => some (.int r)) [ml_rf g 9, .int a0] M res := by
  refine ml_ofF [(0, ml_rf g 9), (1, .int a0)] hst (by decide +kernel) (Nat.le_of_ble_eq_true rfl) rfl (fun E F => ?_)
  unfold fJ5_charAt_5068e at h
  refine ml_aload_n (q := 0) F dJ5_charAt_5068e_0 rfl rfl ?_
  refine ml_get (v := .int (M 9 1)) F (pc9 g) rfl iaJ4 1 (by decide) lkJ5_22 rfl rfl dJ5_charAt_5068e_1 ?_
  refine ml_istore_n (ls2 := [(2, .int (M 9 1)), (0, ml_rf g 9), (1, .int a0)]) F dJ5_charAt_5068e_4 rfl (by decide) rfl ?_
  refine ml_aload_n (q := 1) F dJ5_charAt_5068e_5 rfl rfl ?_
  refine ml_get (v := ml_rf g 10) F (pc9 g) rfl iaJ4 0 (by decide) lkJ5_15 rfl rfl dJ5_charAt_5068e_6 ?_
  refine ml_astore_n (ls2 := [(3, ml_rf g 10), (2, .int (M 9 1)), (0, ml_rf g 9), (1, .int a0)]) F dJ5_charAt_5068e_9 rfl (by decide) rfl ?_
  refine ml_aload_n (q := 2) F dJ5_charAt_5068e_10 rfl rfl ?_
  refine ml_get (v := .int (M 9 3)) F (pc9 g) rfl iaJ4 3 (by decide) lkJ5_79 rfl rfl dJ5_charAt_5068e_11 ?_
  refine ml_aload_n (q := 0) F dJ5_charAt_5068e_14 rfl rfl ?_
  refine ml_alen (v := 16) F (pc10 g) ⟨_, rfl, rfl⟩ (by decide) dJ5_charAt_5068e_15 ?_
  refine ml_iload_n (q := 1) F dJ5_charAt_5068e_16 rfl rfl ?_
  refine ml_ishr F dJ5_charAt_5068e_17 ?_
  refine ml_min F mlJ5_138 mnst mnin mnco dJ5_charAt_5068e_18 (Nat.le_of_ble_eq_true rfl) (by decide) (by decide) ?_
  refine ml_ltI h (fun v1 _ h => ?_)
  refine ml_istore (ls2 := [(4, .int v1), (3, ml_rf g 10), (2, .int (M 9 1)), (0, ml_rf g 9), (1, .int a0)]) F dJ5_charAt_5068e_21 (by decide) rfl ?_
  refine ml_iload_n (q := 4) F dJ5_charAt_5068e_23 rfl rfl ?_
  refine ml_iload (q := 0) F dJ5_charAt_5068e_24 rfl ?_
  refine ml_callS (av := [.int a0, .int v1]) F h (fun rs h9 => fJ0_checkIndex_df160_c a0 v1 M rs hst h9) wcJ0_checkIndex_df160 mlJ5_144 wdJ0_checkIndex_df160 (by decide) (by decide) (by decide) rfl stJ0_checkIndex_df160 rfl (Nat.le_of_ble_eq_true rfl) dJ5_charAt_5068e_26 (fun r2 M3 h => ?_)
  refine ml_iload_n (q := 2) F dJ5_charAt_5068e_29 rfl rfl ?_
  refine ml_if_ne (tgt := 42) F dJ5_charAt_5068e_30 (by decide) h (fun _ h => ?_) (fun _ h => ?_)
  · exact nomatch (show (none : Option ml_R) = some res from h)
  · refine ml_aload_n (q := 1) F dJ5_charAt_5068e_33 rfl rfl ?_
    refine ml_iload_n (q := 4) F dJ5_charAt_5068e_34 rfl rfl ?_
    refine ml_bald F (pc10 g) h dJ5_charAt_5068e_35 (fun h => ?_)
    refine ml_sipush (v := 255) F dJ5_charAt_5068e_36 (by decide) ?_
    refine ml_iand F dJ5_charAt_5068e_39 ?_
    refine ml_i2c F dJ5_charAt_5068e_40 ?_
    obtain ⟨q4, h⟩ := ml_if h
    exact ml_iret (st := []) F (Option.some.inj h) rfl rfl q4 (by decide) (by decide) dJ5_charAt_5068e_41
set_option maxRecDepth 100000 in
def fJ4_charAt_5068e (a0 : Int32) (M : ml_M) : Option ml_R :=
  ml_bd (fJ5_charAt_5068e a0 M) (fun r1 M2 => if narrow .char (.int r1) = .int r1 then some (.inl r1, M2) else none)
set_option maxHeartbeats 4000000 in
set_option maxRecDepth 100000 in
theorem fJ4_charAt_5068e_c (a0 : Int32) (M : ml_M) (res : ml_R) {g : ml_G} (hst : g.2.2.2.2.2.stackTraces = false) (h : fJ4_charAt_5068e a0 M = some res) : ml_C yJ4_charAt_5068e cJ4_charAt_5068e 2 (some .char) 4 0 0 g (fun r _ => some (.int r)) [ml_rf g 9, .int a0] M res := by
  refine ml_ofF [(0, ml_rf g 9), (1, .int a0)] hst (by decide +kernel) (Nat.le_of_ble_eq_true rfl) rfl (fun E F => ?_)
  unfold fJ4_charAt_5068e at h
  refine ml_aload_n (q := 0) F dJ4_charAt_5068e_0 rfl rfl ?_
  refine ml_iload_n (q := 1) F dJ4_charAt_5068e_1 rfl rfl ?_
  refine ml_callP (av := [.int a0]) (T := TJ4) (N := 4) F (pc9 g) rfl h (fun rs h9 => fJ5_charAt_5068e_c a0 M rs hst h9) wcJ5_charAt_5068e mlJ4_329 wdJ5_charAt_5068e (by decide) (by decide) (by decide) rfl smJ5_charAt_5068e suJ4 (by decide) imJ5_charAt_5068e rfl (Nat.le_of_ble_eq_true rfl) dJ4_charAt_5068e_2 (fun r1 M2 h => ?_)
  obtain ⟨q3, h⟩ := ml_if h
  exact ml_iret (st := []) F (Option.some.inj h) rfl rfl q3 (by decide) (by decide) dJ4_charAt_5068e_5
set_option maxRecDepth 100000 in
def fJ0_isLatin1_aae02 (z : ml_Y) (q : Nat) (M : ml_M) : Option ml_R :=
  some (.inl 1, M)
set_option maxHeartbeats 4000000 in
set_option maxRecDepth 100000 in
theorem fJ0_isLatin1_aae02_c (q : Nat) (M : ml_M) (res : ml_R) (hq : q < 7) {g : ml_G} (hst : g.2.2.2.2.2.stackTraces = false) (h : fJ0_isLatin1_aae02 g.1.2 q M = some res) : ml_C yJ0_isLatin1_aae02 cJ0_isLatin1_aae02 1 (some .boolean) 1 0 0 g (fun r _ => some (.int r)) [.ref (g.2.2.2.2.1 (10 + q))] M res := by
  refine ml_ofF [(0, .ref (g.2.2.2.2.1 (10 + q)))] hst (by decide +kernel) (Nat.le_of_ble_eq_true rfl) rfl (fun E F => ?_)
  unfold fJ0_isLatin1_aae02 at h
  refine ml_gcp F lkJ0_38 dJ0_isLatin1_aae02_0 ?_
  refine ml_if_eqF (tgt := 17) F dJ0_isLatin1_aae02_3 (by decide) (by decide) ?_
  refine ml_aload_n (q := 0) F dJ0_isLatin1_aae02_6 rfl rfl ?_
  refine ml_tcod (q8 := q) F hq rfl lkJ0_15 dJ0_isLatin1_aae02_7 ?_
  refine ml_if_neF (tgt := 17) F dJ0_isLatin1_aae02_10 (by decide) (by decide) ?_
  refine ml_iconst (v := 1) F dJ0_isLatin1_aae02_13 (by decide) ?_
  refine ml_goto (tgt := 18) F dJ0_isLatin1_aae02_14 (by decide) ?_
  exact ml_iret (st := []) F (Option.some.inj h) rfl rfl (by decide) (by decide) (by decide) dJ0_isLatin1_aae02_18
set_option maxRecDepth 100000 in
def fJ1_charAt_3b067 (z : ml_Y) (q : Nat) (a1 : Int32) (M : ml_M) : Option ml_R :=
  ml_bd (fJ0_checkIndex_df160 a1 (nI (z.2 q).length) M) (fun r1 M2 => if ml_ok a1 (z.2 q).length then if narrow .char (.int (((((z.2 q).getD a1.toNatClampNeg 0) &&& 255).toUInt32 % 65536).toInt32)) = .int (((((z.2 q).getD a1.toNatClampNeg 0) &&& 255).toUInt32 % 65536).toInt32) then some (.inl (((((z.2 q).getD a1.toNatClampNeg 0) &&& 255).toUInt32 % 65536).toInt32), M2) else none else none)
set_option maxHeartbeats 4000000 in
set_option maxRecDepth 100000 in
theorem fJ1_charAt_3b067_c (q : Nat) (a1 : Int32) (M : ml_M) (res : ml_R) (hq : q < 7) {g : ml_G} (hst : g.2.2.2.2.2.stackTraces = false) (h : fJ1_charAt_3b067 g.1.2 q a1 M = some res) : ml_C yJ1_charAt_3b067 cJ1_charAt_3b067 2 (some .char) 3 0 0 g (fun r _ => some (.int r)) [.ref (g.2.2.2.2.1 (40 + q)), .int a1] M res := by
  refine ml_ofF [(0, .ref (g.2.2.2.2.1 (40 + q))), (1, .int a1)] hst (by decide +kernel) (Nat.le_of_ble_eq_true rfl) rfl (fun E F => ?_)
  unfold fJ1_charAt_3b067 at h
  refine ml_iload_n (q := 1) F dJ1_charAt_3b067_0 rfl rfl ?_
  refine ml_aload_n (q := 0) F dJ1_charAt_3b067_1 rfl rfl ?_
  refine ml_tlen F hq dJ1_charAt_3b067_2 ?_
  refine ml_callS (av := [.int a1, .int (nI (g.1.2.2 q).length)]) F h (fun rs h9 => fJ0_checkIndex_df160_c a1 (nI (g.1.2.2 q).length) M rs hst h9) wcJ0_checkIndex_df160 mlJ1_9 wdJ0_checkIndex_df160 (by decide) (by decide) (by decide) rfl stJ0_checkIndex_df160 rfl (Nat.le_of_ble_eq_true rfl) dJ1_charAt_3b067_3 (fun r1 M2 h => ?_)
  refine ml_aload_n (q := 0) F dJ1_charAt_3b067_6 rfl rfl ?_
  refine ml_iload_n (q := 1) F dJ1_charAt_3b067_7 rfl rfl ?_
  refine ml_tald F hq h dJ1_charAt_3b067_8 (fun h => ?_)
  refine ml_sipush (v := 255) F dJ1_charAt_3b067_9 (by decide) ?_
  refine ml_iand F dJ1_charAt_3b067_12 ?_
  refine ml_i2c F dJ1_charAt_3b067_13 ?_
  obtain ⟨q3, h⟩ := ml_if h
  exact ml_iret (st := []) F (Option.some.inj h) rfl rfl q3 (by decide) (by decide) dJ1_charAt_3b067_14
set_option maxRecDepth 100000 in
def fJ0_charAt_5068e (z : ml_Y) (q : Nat) (a0 : Int32) (M : ml_M) : Option ml_R :=
  ml_bd (fJ0_isLatin1_aae02 z q M) (fun r1 M2 => (if r1 = 0 then none else ml_bd (fJ1_charAt_3b067 z q a0 M2) (fun r3 M4 => if narrow .char (.int r3) = .int r3 then some (.inl r3, M4) else none)))
set_option maxHeartbeats 4000000 in
set_option maxRecDepth 100000 in
theorem fJ0_charAt_5068e_c (q : Nat) (a0 : Int32) (M : ml_M) (res : ml_R) (hq : q < 7) {g : ml_G} (hst : g.2.2.2.2.2.stackTraces = false) (h : fJ0_charAt_5068e g.1.2 q a0 M = some res) : ml_C yJ0_charAt_5068e cJ0_charAt_5068e 2 (some .char) 4 0 0 g (fun r _ => some (.int r)) [.ref (g.2.2.2.2.1 (10 + q)), .int a0] M res := by
  refine ml_ofF [(0, .ref (g.2.2.2.2.1 (10 + q))), (1, .int a0)] hst (by decide +kernel) (Nat.le_of_ble_eq_true rfl) rfl (fun E F => ?_)
  unfold fJ0_charAt_5068e at h
  refine ml_aload_n (q := 0) F dJ0_charAt_5068e_0 rfl rfl ?_
  refine ml_callT (q8 := q) (av := []) F hq rfl h (fun rs h9 => fJ0_isLatin1_aae02_c q M rs hq hst h9) wcJ0_isLatin1_aae02 mlJ0_492 wdJ0_isLatin1_aae02 (by decide) (by decide) (by decide) rfl seJ0_isLatin1_aae02 imJ0_isLatin1_aae02 rfl (Nat.le_of_ble_eq_true rfl) dJ0_charAt_5068e_1 (fun r1 M2 h => ?_)
  refine ml_if_eq (tgt := 16) F dJ0_charAt_5068e_4 (by decide) h (fun _ h => ?_) (fun _ h => ?_)
  · exact nomatch (show (none : Option ml_R) = some res from h)
  · refine ml_aload_n (q := 0) F dJ0_charAt_5068e_7 rfl rfl ?_
    refine ml_tval (q8 := q) F hq rfl lkJ0_9 dJ0_charAt_5068e_8 ?_
    refine ml_iload_n (q := 1) F dJ0_charAt_5068e_11 rfl rfl ?_
    refine ml_callS (av := [.ref (g.2.2.2.2.1 (40 + q)), .int a0]) F h (fun rs h9 => fJ1_charAt_3b067_c q a0 M2 rs hq hst h9) wcJ1_charAt_3b067 mlJ0_495 wdJ1_charAt_3b067 (by decide) (by decide) (by decide) rfl stJ1_charAt_3b067 rfl (Nat.le_of_ble_eq_true rfl) dJ0_charAt_5068e_12 (fun r3 M4 h => ?_)
    obtain ⟨q5, h⟩ := ml_if h
    exact ml_iret (st := []) F (Option.some.inj h) rfl rfl q5 (by decide) (by decide) dJ0_charAt_5068e_15
