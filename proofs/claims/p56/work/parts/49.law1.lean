/-! THE LAW: its loops. -/
theorem mlL_155 : Cond.methodLink RL 155 yX6_isHigher ∈ ml_all := ml_tb 380 (by decide +kernel) rfl
theorem wcX6_isHigher : ml_wc yX6_isHigher cX6_isHigher 3 (some .boolean) := ⟨ml_tb 383 (by decide +kernel) rfl, ml_tb 1 (by decide +kernel) rfl, by decide⟩
theorem wdX6_isHigher : ml_wd yX6_isHigher 2 := ⟨by decide +kernel, by decide +kernel, by decide +kernel⟩
theorem imX6_isHigher : Cond.instanceMethod yX6_isHigher ∈ ml_all := ml_tb 381 (by decide +kernel) rfl
theorem seX6_isHigher : Cond.selects yX6_isHigher.cls yX6_isHigher yX6_isHigher ∈ ml_all := ml_tb 382 (by decide +kernel) rfl
theorem mlL_123 : Cond.methodLink RL 123 yX6_area ∈ ml_all := ml_tb 282 (by decide +kernel) rfl
theorem wcX6_area : ml_wc yX6_area cX6_area 2 (some .int) := ⟨ml_tb 285 (by decide +kernel) rfl, ml_tb 1 (by decide +kernel) rfl, by decide⟩
theorem wdX6_area : ml_wd yX6_area 1 := ⟨by decide +kernel, by decide +kernel, by decide +kernel⟩
theorem imX6_area : Cond.instanceMethod yX6_area ∈ ml_all := ml_tb 283 (by decide +kernel) rfl
theorem seX6_area : Cond.selects yX6_area.cls yX6_area yX6_area ∈ ml_all := ml_tb 284 (by decide +kernel) rfl
theorem mlL_120 : Cond.methodLink RL 120 yX6_volume ∈ ml_all := ml_tb 363 (by decide +kernel) rfl
theorem wcX6_volume : ml_wc yX6_volume cX6_volume 2 (some .int) := ⟨ml_tb 366 (by decide +kernel) rfl, ml_tb 1 (by decide +kernel) rfl, by decide⟩
theorem wdX6_volume : ml_wd yX6_volume 1 := ⟨by decide +kernel, by decide +kernel, by decide +kernel⟩
theorem imX6_volume : Cond.instanceMethod yX6_volume ∈ ml_all := ml_tb 364 (by decide +kernel) rfl
theorem seX6_volume : Cond.selects yX6_volume.cls yX6_volume yX6_volume ∈ ml_all := ml_tb 365 (by decide +kernel) rfl
theorem mlL_129 : Cond.methodLink RL 129 yJ4_append_15ec4 ∈ ml_all := ml_tb 1224 (by decide +kernel) rfl
theorem wcJ4_append_15ec4 : ml_wc yJ4_append_15ec4 cJ4_append_15ec4 2 (some (.object "java/lang/StringBuilder")) := ⟨ml_tb 595 (by decide +kernel) rfl, ml_tb 9 (by decide +kernel) rfl, by decide⟩
theorem wdJ4_append_15ec4 : ml_wd yJ4_append_15ec4 1 := ⟨by decide +kernel, by decide +kernel, by decide +kernel⟩
theorem imJ4_append_15ec4 : Cond.instanceMethod yJ4_append_15ec4 ∈ ml_all := ml_tb 593 (by decide +kernel) rfl
theorem seJ4_append_15ec4 : Cond.selects yJ4_append_15ec4.cls yJ4_append_15ec4 yJ4_append_15ec4 ∈ ml_all := ml_tb 594 (by decide +kernel) rfl
theorem mlL_141 : Cond.methodLink RL 141 yJ4_append_bf812 ∈ ml_all := ml_tb 1226 (by decide +kernel) rfl
theorem mlL_148 : Cond.methodLink RL 148 yX6_level ∈ ml_all := ml_tb 367 (by decide +kernel) rfl
theorem wcX6_level : ml_wc yX6_level cX6_level 2 (some .int) := ⟨ml_tb 370 (by decide +kernel) rfl, ml_tb 1 (by decide +kernel) rfl, by decide⟩
theorem wdX6_level : ml_wd yX6_level 1 := ⟨by decide +kernel, by decide +kernel, by decide +kernel⟩
theorem imX6_level : Cond.instanceMethod yX6_level ∈ ml_all := ml_tb 368 (by decide +kernel) rfl
theorem seX6_level : Cond.selects yX6_level.cls yX6_level yX6_level ∈ ml_all := ml_tb 369 (by decide +kernel) rfl
theorem mlL_151 : Cond.methodLink RL 151 yX6_exactLevel ∈ ml_all := ml_tb 376 (by decide +kernel) rfl
theorem wcX6_exactLevel : ml_wc yX6_exactLevel cX6_exactLevel 2 (some .double) := ⟨ml_tb 379 (by decide +kernel) rfl, ml_tb 1 (by decide +kernel) rfl, by decide⟩
theorem wdX6_exactLevel : ml_wd yX6_exactLevel 1 := ⟨by decide +kernel, by decide +kernel, by decide +kernel⟩
theorem imX6_exactLevel : Cond.instanceMethod yX6_exactLevel ∈ ml_all := ml_tb 377 (by decide +kernel) rfl
theorem seX6_exactLevel : Cond.selects yX6_exactLevel.cls yX6_exactLevel yX6_exactLevel ∈ ml_all := ml_tb 378 (by decide +kernel) rfl
theorem mlL_133 : Cond.methodLink RL 133 yX6_isOpen ∈ ml_all := ml_tb 423 (by decide +kernel) rfl
theorem wcX6_isOpen : ml_wc yX6_isOpen cX6_isOpen 2 (some .boolean) := ⟨ml_tb 426 (by decide +kernel) rfl, ml_tb 1 (by decide +kernel) rfl, by decide⟩
theorem wdX6_isOpen : ml_wd yX6_isOpen 1 := ⟨by decide +kernel, by decide +kernel, by decide +kernel⟩
theorem imX6_isOpen : Cond.instanceMethod yX6_isOpen ∈ ml_all := ml_tb 424 (by decide +kernel) rfl
theorem seX6_isOpen : Cond.selects yX6_isOpen.cls yX6_isOpen yX6_isOpen ∈ ml_all := ml_tb 425 (by decide +kernel) rfl
theorem nI_inj8 : ∀ a < 128, ∀ b, nI b = nI a → b < 2 ^ 31 → b = a := fun a ha b h hb => (nI_eq hb (by omega)).mp h
set_option maxRecDepth 100000 in
theorem fpc_10 : ∀ v < 401, Op.cmpValue (FP.dcmp (FP.ddiv (FP.i2d (nI v)) (FP.i2d (nI 10))) (FP.ddiv (FP.i2d (nI v)) (FP.i2d (nI 10)))) .l = 0 := by decide +kernel
set_option maxRecDepth 100000 in
theorem fpc_6 : ∀ v < 401, Op.cmpValue (FP.dcmp (FP.ddiv (FP.i2d (nI v)) (FP.i2d (nI 6))) (FP.ddiv (FP.i2d (nI v)) (FP.i2d (nI 6)))) .l = 0 := by decide +kernel
theorem fp_c {k v : Nat} (hv : v < 401) : Op.cmpValue (FP.dcmp (FP.ddiv (FP.i2d (nI v)) (FP.i2d (nI (ar k)))) (FP.ddiv (FP.i2d (nI v)) (FP.i2d (nI (ar k))))) .l = 0 := by
  unfold ar
  split
  · exact fpc_10 v hv
  · split
    · exact fpc_10 v hv
    · exact fpc_6 v hv
theorem dg_lt {v : Nat} (hv : v < 100) : ∀ c ∈ dg v, c < 128 := by
  unfold dg
  split
  · intro c hc
    simp at hc
    omega
  · intro c hc
    simp at hc
    omega
theorem lvT_lt {v gg : Nat → Nat} : ∀ b, (∀ j, j < b → v j / ar j ≤ 40) → ∀ c ∈ lvT v gg b, c < 128 := by
  intro b
  induction b with
  | zero => intro _ c hc; cases hc
  | succ b ih =>
    intro h c hc
    have hc : c ∈ lvT v gg b ++ (if b = 0 then [] else [if gg (b - 1) = 0 then 124 else 47]) ++ dg (v b / ar b) := hc
    rcases List.mem_append.mp hc with hc | hc
    · rcases List.mem_append.mp hc with hc | hc
      · exact ih (fun j hj => h j (by omega)) c hc
      · split at hc
        · cases hc
        · rcases List.mem_singleton.mp hc with rfl
          split <;> decide
    · exact dg_lt (by have := h b (by omega); omega) c hc
theorem nI_i1 (a : Nat) : nI a + Int32.ofInt 1 = nI (a + 1) := nI_1 a
theorem li_mv {E : ml_E} {g : ml_G} {A : Nat → Prop} {nL : Nat} {Q : State → Prop} {k n pc : Nat} {ls : List (Nat × Value)} {st : List Value} {Wl X : va_W} {a b : Nat × va_E} (K : cn_J E g A nL Q k n pc ls st (Wl ++ a :: b :: X)) : cn_J E g A nL Q k n pc ls st ((Wl ++ X) ++ [a, b]) := by
  refine li_cut ⟨fun i => if i < Wl.length then i else if i < Wl.length + 2 then i + X.length else i - 2, fun i j hi hj h => ?_, fun i q h => ?_⟩ K
  · simp only [List.length_append, List.length_cons] at hi hj
    dsimp only at h
    split at h <;> split at h <;> (try split at h) <;> (try split at h) <;> omega
  · dsimp only
    rcases Nat.lt_or_ge i Wl.length with c | c
    · rw [if_pos c, List.append_assoc, List.getElem?_append_left c]
      rw [List.getElem?_append_left c] at h
      exact h
    · rw [List.getElem?_append_right c] at h
      rw [if_neg (by omega)]
      by_cases c2 : i < Wl.length + 2
      · rw [if_pos c2, List.getElem?_append_right (by rw [List.length_append]; omega), List.length_append]
        rw [show i + X.length - (Wl.length + X.length) = i - Wl.length by omega]
        rcases (show i - Wl.length = 0 ∨ i - Wl.length = 1 by omega) with e | e <;> rw [e] at h ⊢ <;> exact h
      · rw [if_neg c2]
        obtain ⟨d, hd⟩ : ∃ d, i - Wl.length = d + 2 := ⟨i - Wl.length - 2, by omega⟩
        rw [hd] at h
        have hx : X[d]? = some q := h
        have hl := (List.getElem?_eq_some_iff.mp hx).1
        rw [List.getElem?_append_left (by rw [List.length_append]; omega), List.getElem?_append_right (by omega), show i - 2 - Wl.length = d by omega]
        exact hx
theorem li_mkSB {E : ml_E} {g : ml_G} {A : Nat → Prop} {Q : State → Prop} (F : li_F E g A cL_law RL 13 100 877187 6469907 (some .boolean)) (hst : g.2.2.2.2.2.stackTraces = false) (hLO : li_O E) {k n pc : Nat} {ls : List (Nat × Value)} {st : List Value} {M : ml_M} {X : va_W} (hd1 : decode cL_law pc = .ok (.new 126, 3)) (hd2 : decode cL_law (pc + 3) = .ok (.dup, 1)) (hd3 : decode cL_law (pc + 4) = .ok (.invokespecial 128, 3)) (hk : k + 2 ≤ 877187) (hn : n + 20 ≤ 6469907) (hroom : ∀ q : Nat, ((Value.ref q :: st).map fun v => v.category).sum ≤ 8) (K : ∀ bq aq : Nat, cn_J E g A 13 Q (k + 2) (n + 20) (pc + 7) ls (.ref bq :: st) (ml_wm g M ++ (bq, li_cb aq (fun _ => 0)) :: (aq, li_ca g (fun _ => 0)) :: X)) : cn_J E g A 13 Q k n pc ls st (ml_wm g M ++ X) := by
  refine li_new (ci := 1) (N := 4) (C := RJ4) (T := TJ4) (fs := [.null, .int 0, .int 0, .int 0]) F tyJ4 iaJ4 tyJ4_ok (ml_tb 1222 (by decide +kernel) rfl) (ml_tb 222 (by decide +kernel) rfl) (ml_tb 9 (by decide +kernel) rfl) rfl (by decide) (by omega) (by omega) hd1 (fun q0 => ?_)
  refine li_dup F hd2 rfl ?_
  refine li_callC (st := .ref q0 :: st) (z := 0) (mc2 := 1) (ms2 := 16) (lv2 := 2) (L0 := ml_wm g M ++ X) (post := cn_pSB g) (av := []) F hLO (J4_init_da8c8_k g _) ⟨ml_tb 225 (by decide +kernel) rfl, ml_tb 9 (by decide +kernel) rfl, by decide⟩ (ml_tb 1223 (by decide +kernel) rfl) ⟨by decide +kernel, by decide +kernel, by decide +kernel⟩ (by decide) (by omega) (by omega) rfl rfl (ml_tb 224 (by decide +kernel) rfl) rfl (hroom q0) hd3 (fun q eq => ?_)
  subst eq
  exact li_mv (K (q 0) (q 1))
theorem oY_0 : oY (fun _ => 0) (fun _ => 0) [] := ⟨rfl, rfl, fun j c h => by cases h⟩
theorem li_c {g : ml_G} {X : va_W} (hsb : ml_sb g = st_sb) {i : Nat} (hi : i < 5) {T : List Nat} (hT : T.map nI = st_sb i) : li_txt g X (g.2.2.2.2.1 (10 + i)) (g.2.2.2.2.1 (40 + i)) (T.map nI) := Or.inl ⟨i, hi, rfl, rfl, by rw [hT]; exact (congrFun hsb i).symm⟩
def sv (v : Nat → Nat) : Nat → Nat
  | 0 => 0
  | b + 1 => sv v b + v b
set_option maxHeartbeats 4000000 in
theorem w_b {E : ml_E} {g : ml_G} {A : Nat → Prop} {Q : State → Prop} (F : li_F E g A cL_law RL 13 100 877187 6469907 (some .boolean)) (hst : g.2.2.2.2.2.stackTraces = false) {v o gg : Nat → Nat} {L : List fb} {nx c : Nat} {M : ml_M} (h : jS M v o gg L nx c) {t tot n9 rank : Int32} {ia sq b : Nat} {X : va_W} {kz nz : Nat} (hb : b < 5) (hkz : kz ≤ 877187) (hnz : nz ≤ 6469907) (K : cn_J E g A 13 Q kz nz 262 [(0, .ref (g.2.2.2.2.1 4)), (1, ml_rf g 0), (2, .int t), (3, .int tot), (4, .int n9), (5, .int rank), (6, .ref ia), (7, .ref sq), (8, .int (nI b))] [] (ml_wm g M ++ X)) : ∀ (s j k n : Nat), j + s = 5 → k + 20 * s ≤ kz → n + 200 * s ≤ nz → cn_J E g A 13 Q k n 211 [(0, .ref (g.2.2.2.2.1 4)), (1, ml_rf g 0), (2, .int t), (3, .int tot), (4, .int n9), (5, .int rank), (6, .ref ia), (7, .ref sq), (8, .int (nI b)), (9, .int (nI (v b))), (10, .int (nI (ar b))), (11, .int (nI j))] [] (ml_wm g M ++ X) := by
  intro s
  induction s with
  | zero =>
    intro j k n hj hk hn
    have e : j = 5 := by omega
    subst e
    refine li_iload (q := 11) F dL_law_211 rfl ?_
    refine li_iconst (v := 5) F dL_law_213 (by decide) ?_
    refine li_icmp_geT (tgt := 262) F dL_law_214 (by decide) (by decide) ?_
    exact li_pick [0, 1, 2, 3, 4, 5, 6, 7, 8] rfl (li_wid (by omega) (by omega) K)
  | succ s ih =>
    intro j k n hj hk hn
    have hj5 : j < 5 := by omega
    refine li_iload (q := 11) F dL_law_211 rfl ?_
    refine li_iconst (v := 5) F dL_law_213 (by decide) ?_
    refine li_icmp_geF (tgt := 262) F dL_law_214 (by decide) (fun z => by have := (nI_leI (a := 5) (b := j) (by decide) (by omega)).mp z; omega) ?_
    refine li_aload_n (q := 1) F dL_law_217 rfl rfl ?_
    refine li_iload (q := 8) F dL_law_218 rfl ?_
    refine li_iload (q := 11) F dL_law_220 rfl ?_
    refine li_callV (lv2 := 3) (mc2 := 2) (ms2 := 12) (av := [.int (nI b), .int (nI j)]) (st := []) (r8 := (if v j * ar b < v b * ar j then 1 else 0)) (M := M) (M8 := M) (X := X) (kb := 0) (ci := 10) (T := TX6) (N := 9) F (pc0 g) li_noT rfl (fun _ => fX6_isHigher_c (nI b) (nI j) M _ hst (q_higher h hb hj5)) wcX6_isHigher mlL_155 wdX6_isHigher (by decide) (by omega) (by omega) rfl seX6_isHigher imX6_isHigher rfl (Nat.le_of_ble_eq_true rfl) dL_law_222 ?_
    refine li_eq (st2 := [.int (if v j * ar b < v b * ar j then 1 else 0)]) rfl ?_
    refine li_iload (q := 9) F dL_law_225 rfl ?_
    refine li_aload_n (q := 1) F dL_law_227 rfl rfl ?_
    refine li_iload (q := 11) F dL_law_228 rfl ?_
    refine li_callV (lv2 := 2) (mc2 := 1) (ms2 := 6) (av := [.int (nI j)]) (st := [.int (nI (v b)), .int (if v j * ar b < v b * ar j then 1 else 0)]) (r8 := (nI (ar j))) (M := M) (M8 := M) (X := X) (kb := 0) (ci := 10) (T := TX6) (N := 9) F (pc0 g) li_noT rfl (fun _ => fX6_area_c (nI j) M _ hst (q_area hj5)) wcX6_area mlL_123 wdX6_area (by decide) (by omega) (by omega) rfl seX6_area imX6_area rfl (Nat.le_of_ble_eq_true rfl) dL_law_230 ?_
    refine li_eq (st2 := [.int (nI (ar j)), .int (nI (v b)), .int (if v j * ar b < v b * ar j then 1 else 0)]) rfl ?_
    refine li_imul (v := (nI (v b * ar j))) F dL_law_233 (pk_mul _ _) ?_
    refine li_aload_n (q := 1) F dL_law_234 rfl rfl ?_
    refine li_iload (q := 11) F dL_law_235 rfl ?_
    refine li_callV (lv2 := 2) (mc2 := 1) (ms2 := 6) (av := [.int (nI j)]) (st := [.int (nI (v b * ar j)), .int (if v j * ar b < v b * ar j then 1 else 0)]) (r8 := (nI (v j))) (M := M) (M8 := M) (X := X) (kb := 0) (ci := 10) (T := TX6) (N := 9) F (pc0 g) li_noT rfl (fun _ => fX6_volume_c (nI j) M _ hst (q_volume h hj5)) wcX6_volume mlL_120 wdX6_volume (by decide) (by omega) (by omega) rfl seX6_volume imX6_volume rfl (Nat.le_of_ble_eq_true rfl) dL_law_237 ?_
    refine li_eq (st2 := [.int (nI (v j)), .int (nI (v b * ar j)), .int (if v j * ar b < v b * ar j then 1 else 0)]) rfl ?_
    refine li_iload (q := 10) F dL_law_240 rfl ?_
    refine li_imul (v := (nI (v j * ar b))) F dL_law_242 (pk_mul _ _) ?_
    have l1 := mul_le_400 (a := j) (lim4 h.1 hb)
    have l2 := mul_le_400 (a := b) (lim4 h.1 hj5)
    by_cases hc : v j * ar b < v b * ar j
    · refine li_icmp_leF (tgt := 250) F dL_law_243 (by decide) (fun z => by have := (nI_leI (by omega) (by omega)).mp z; omega) ?_
      refine li_iconst (v := 1) F dL_law_246 (by decide) ?_
      refine li_goto (tgt := 251) F dL_law_247 (by decide) ?_
      refine li_icmp_eqT (tgt := 256) F dL_law_251 (by decide) (if_pos hc) ?_
      refine li_iinc (q := 11) (v := (nI (j + 1))) (ls2 := [(11, .int (nI (j + 1))), (0, .ref (g.2.2.2.2.1 4)), (1, ml_rf g 0), (2, .int t), (3, .int tot), (4, .int n9), (5, .int rank), (6, .ref ia), (7, .ref sq), (8, .int (nI b)), (9, .int (nI (v b))), (10, .int (nI (ar b)))]) F dL_law_256 rfl (nI_i1 j) (by decide) rfl ?_
      refine li_goto (tgt := 211) F dL_law_259 (by decide) ?_
      exact li_pick [1, 2, 3, 4, 5, 6, 7, 8, 9, 10, 11, 0] rfl (li_wid (by omega) (by omega) (ih (j + 1) (k + 20) (n + 200) (by omega) (by omega) (by omega)))
    · refine li_icmp_leT (tgt := 250) F dL_law_243 (by decide) ((nI_leI (by omega) (by omega)).mpr (by omega)) ?_
      refine li_iconst (v := 0) F dL_law_250 (by decide) ?_
      refine li_icmp_eqT (tgt := 256) F dL_law_251 (by decide) (if_neg hc) ?_
      refine li_iinc (q := 11) (v := (nI (j + 1))) (ls2 := [(11, .int (nI (j + 1))), (0, .ref (g.2.2.2.2.1 4)), (1, ml_rf g 0), (2, .int t), (3, .int tot), (4, .int n9), (5, .int rank), (6, .ref ia), (7, .ref sq), (8, .int (nI b)), (9, .int (nI (v b))), (10, .int (nI (ar b)))]) F dL_law_256 rfl (nI_i1 j) (by decide) rfl ?_
      refine li_goto (tgt := 211) F dL_law_259 (by decide) ?_
      exact li_pick [1, 2, 3, 4, 5, 6, 7, 8, 9, 10, 11, 0] rfl (li_wid (by omega) (by omega) (ih (j + 1) (k + 20) (n + 200) (by omega) (by omega) (by omega)))
set_option maxRecDepth 100000 in
set_option maxHeartbeats 8000000 in
theorem w_a {E : ml_E} {g : ml_G} {A : Nat → Prop} {Q : State → Prop} (F : li_F E g A cL_law RL 13 100 877187 6469907 (some .boolean)) (hst : g.2.2.2.2.2.stackTraces = false) (hsb : ml_sb g = st_sb) (hLO : li_O E) {v o gg : Nat → Nat} {L : List fb} {nx c : Nat} {t n9 rank : Int32} {ia : Nat} {kz nz : Nat} (hkz : kz ≤ 877187) (hnz : nz ≤ 6469907) (K : ∀ (M : ml_M) (X : va_W) (sq tq i : Nat), jI M → jS M v o gg L nx c → li_txt g X sq tq ((lvT v gg 5).map nI) → X[i]? = some (ia, .inl (g.2.2.1 0, 5, .inl (fun _ => 0))) → (∀ f : Nat → Int32, li_txt g (X.set i (ia, .inl (g.2.2.1 0, 5, .inl f))) sq tq ((lvT v gg 5).map nI)) → cn_J E g A 13 Q kz nz 268 [(0, .ref (g.2.2.2.2.1 4)), (1, ml_rf g 0), (2, .int t), (3, .int (nI (sv v 5))), (4, .int n9), (5, .int rank), (6, .ref ia), (7, .ref sq), (8, .int (nI 5))] [] (ml_wm g M ++ X)) : ∀ (s b k n : Nat) (M : ml_M) (X : va_W) (sq tq i : Nat), b + s = 5 → k + 300 * s ≤ kz → n + 3000 * s ≤ nz → jI M → jS M v o gg L nx c → li_txt g X sq tq ((lvT v gg b).map nI) → X[i]? = some (ia, .inl (g.2.2.1 0, 5, .inl (fun _ => 0))) → (∀ f : Nat → Int32, li_txt g (X.set i (ia, .inl (g.2.2.1 0, 5, .inl f))) sq tq ((lvT v gg b).map nI)) → cn_J E g A 13 Q k n 43 [(0, .ref (g.2.2.2.2.1 4)), (1, ml_rf g 0), (2, .int t), (3, .int (nI (sv v b))), (4, .int n9), (5, .int rank), (6, .ref ia), (7, .ref sq), (8, .int (nI b))] [] (ml_wm g M ++ X) := by
  intro s
  induction s with
  | zero =>
    intro b k n M X sq tq i hb hk hn hI h hT hA hS
    have e : b = 5 := by omega
    subst e
    refine li_iload (q := 8) F dL_law_43 rfl ?_
    refine li_iconst (v := 5) F dL_law_45 (by decide) ?_
    refine li_icmp_geT (tgt := 268) F dL_law_46 (by decide) (by decide) ?_
    exact li_wid (by omega) (by omega) (K M X sq tq i hI h hT hA hS)
  | succ s ih =>
    intro b k n M X sq tq i hb hk hn hI h hT hA hS
    have hb5 : b < 5 := by omega
    have a1 := ar_ge b
    have a2 := ar_le b
    have l4 := lim4 h.1 hb5
    obtain ⟨hq40, ed⟩ := lv_40 h hb5
    have hlen := lvT_len v gg b
    have hsum : sv v 5 < 1600 := by have := q_sum h; simp only [sv]; omega
    refine li_iload (q := 8) F dL_law_43 rfl ?_
    refine li_iconst (v := 5) F dL_law_45 (by decide) ?_
    refine li_icmp_geF (tgt := 268) F dL_law_46 (by decide) (fun z => by have := (nI_leI (a := 5) (b := b) (by decide) (by omega)).mp z; omega) ?_
    refine li_aload_n (q := 1) F dL_law_49 rfl rfl ?_
    refine li_iload (q := 8) F dL_law_50 rfl ?_
    refine li_callV (lv2 := 2) (mc2 := 1) (ms2 := 6) (av := [.int (nI b)]) (st := []) (r8 := (nI (v b))) (M := M) (M8 := M) (X := X) (kb := 0) (ci := 10) (T := TX6) (N := 9) F (pc0 g) li_noT rfl (fun _ => fX6_volume_c (nI b) M _ hst (q_volume h hb5)) wcX6_volume mlL_120 wdX6_volume (by decide) (by omega) (by omega) rfl seX6_volume imX6_volume rfl (Nat.le_of_ble_eq_true rfl) dL_law_52 ?_
    refine li_eq (st2 := [.int (nI (v b))]) rfl ?_
    refine li_istore (ls2 := [(9, .int (nI (v b))), (0, .ref (g.2.2.2.2.1 4)), (1, ml_rf g 0), (2, .int t), (3, .int (nI (sv v b))), (4, .int n9), (5, .int rank), (6, .ref ia), (7, .ref sq), (8, .int (nI b))]) F dL_law_55 (by decide) rfl ?_
    refine li_aload_n (q := 2) F dL_law_57 rfl rfl ?_
    refine li_iload (q := 9) F dL_law_58 rfl ?_
    refine li_callV (lv2 := 2) (mc2 := 1) (ms2 := 6) (av := [.int (nI b)]) (st := []) (r8 := (nI (ar b))) (M := M) (M8 := M) (X := X) (kb := 0) (ci := 10) (T := TX6) (N := 9) F (pc0 g) li_noT rfl (fun _ => fX6_area_c (nI b) M _ hst (q_area hb5)) wcX6_area mlL_123 wdX6_area (by decide) (by omega) (by omega) rfl seX6_area imX6_area rfl (Nat.le_of_ble_eq_true rfl) dL_law_60 ?_
    refine li_eq (st2 := [.int (nI (ar b))]) rfl ?_
    refine li_istore (ls2 := [(10, .int (nI (ar b))), (9, .int (nI (v b))), (0, .ref (g.2.2.2.2.1 4)), (1, ml_rf g 0), (2, .int t), (3, .int (nI (sv v b))), (4, .int n9), (5, .int rank), (6, .ref ia), (7, .ref sq), (8, .int (nI b))]) F dL_law_63 (by decide) rfl ?_
    refine li_iload_n (q := 5) F dL_law_65 rfl rfl ?_
    refine li_iload (q := 1) F dL_law_66 rfl ?_
    refine li_iadd (v := (nI (sv v (b + 1)))) F dL_law_68 (nI_add _ _) ?_
    refine li_istore_n (ls2 := [(3, .int (nI (sv v (b + 1)))), (10, .int (nI (ar b))), (9, .int (nI (v b))), (0, .ref (g.2.2.2.2.1 4)), (1, ml_rf g 0), (2, .int t), (4, .int n9), (5, .int rank), (6, .ref ia), (7, .ref sq), (8, .int (nI b))]) F dL_law_69 rfl (by decide) rfl ?_
    refine li_mkSB F hst hLO dL_law_70 dL_law_73 dL_law_74 (by omega) (by omega) (fun _ => Nat.le_of_ble_eq_true rfl) (fun bq aq => ?_)
    obtain ⟨mb1, ma1, e1, t1⟩ := y_s (M := M) (T2 := lvT v gg b) (z := (g.1.2.1, fun i => if i = 5 then (lvT v gg b).map nI else g.1.2.2 i)) (q := 5) oY_0 (by simp only [List.length_nil]; split at hlen <;> omega) (fun j y hy => lvT_lt b (fun j hj => (lv_40 h (by omega)).1) y (List.mem_of_getElem? hy)) rfl
    refine li_aload (q := 9) F dL_law_77 rfl ?_
    refine li_callB (vl2 := fun _ _ => some (.ref bq)) (lv2 := 6) (mc2 := 0) (ms2 := 0) (av := [.ref sq]) (st := []) (r8 := 0) (M := M) (mb := (fun _ => 0)) (ma := (fun _ => 0)) (mb8 := mb1) (ma8 := ma1) (bq := bq) (aq := aq) (X := X) F hT rfl (fun B9 => fJ4_append_15ec4_c (g := li_gB g B9 bq aq sq tq _)  5 (li_mB M (fun _ => 0) (fun _ => 0)) _ (by decide) hst (e1)) wcJ4_append_15ec4 mlL_129 wdJ4_append_15ec4 (by decide) (by omega) (by omega) rfl seJ4_append_15ec4 imJ4_append_15ec4 rfl (Nat.le_of_ble_eq_true rfl) dL_law_79 ?_
    refine li_eq (st2 := [.ref bq]) rfl ?_
    have tail : ∀ (i8 : Nat) (T2 : List Nat), i8 < 5 → T2.map nI = st_sb i8 → T2 = (if b = 0 then [] else [if gg (b - 1) = 0 then 124 else 47]) → cn_J E g A 13 Q (k + 1 + 1 + 2 + 0 + 1) (n + 6 + 6 + 20 + 0 + 6) 110 [(3, .int (nI (sv v (b + 1)))), (10, .int (nI (ar b))), (9, .int (nI (v b))), (0, .ref (g.2.2.2.2.1 4)), (1, ml_rf g 0), (2, .int t), (4, .int n9), (5, .int rank), (6, .ref ia), (7, .ref sq), (8, .int (nI b))] [.ref (g.2.2.2.2.1 (10 + i8)), .ref bq] (ml_wm g M ++ (bq, li_cb aq mb1) :: (aq, li_ca g ma1) :: X) := by
      intro i8 T2 hi8 hT8 hT2
      have hT2l : T2.length ≤ 1 ∧ (b = 0 → T2.length = 0) := by rw [hT2]; split <;> simp [*]
      have hl1 : ([] ++ lvT v gg b).length + T2.length + 2 ≤ 16 := by simp only [List.nil_append]; split at hlen <;> omega
      obtain ⟨mb2, ma2, e2, t2⟩ := y_s (M := M) (T2 := T2) (z := (g.1.2.1, fun i => if i = 5 then T2.map nI else g.1.2.2 i)) (q := 5) t1 (by omega) (fun j y hy => by rw [hT2] at hy; split at hy; cases hy; split at hy <;> (rcases j with _ | j <;> simp at hy <;> omega)) rfl
      refine li_callB (vl2 := fun _ _ => some (.ref bq)) (lv2 := 6) (mc2 := 0) (ms2 := 0) (av := [.ref (g.2.2.2.2.1 (10 + i8))]) (st := []) (r8 := 0) (M := M) (mb := mb1) (ma := ma1) (mb8 := mb2) (ma8 := ma2) (bq := bq) (aq := aq) (X := X) F (li_c hsb hi8 hT8) rfl (fun B9 => fJ4_append_15ec4_c (g := li_gB g B9 bq aq (g.2.2.2.2.1 (10 + i8)) (g.2.2.2.2.1 (40 + i8)) _)  5 (li_mB M mb1 ma1) _ (by decide) hst (e2)) wcJ4_append_15ec4 mlL_129 wdJ4_append_15ec4 (by decide) (by omega) (by omega) rfl seJ4_append_15ec4 imJ4_append_15ec4 rfl (Nat.le_of_ble_eq_true rfl) dL_law_110 ?_
      refine li_eq (st2 := [.ref bq]) rfl ?_
      obtain ⟨mb3, ma3, e3, t3⟩ := y_n (M := M) (v := v b / ar b) t2 (by rw [List.length_append]; omega) (by omega)
      refine li_iload (q := 2) F dL_law_113 rfl ?_
      refine li_iload (q := 1) F dL_law_115 rfl ?_
      refine li_idiv (v := (nI (v b / ar b))) F dL_law_117 (ar_nz b) ed ?_
      refine li_callB (vl2 := fun _ _ => some (.ref bq)) (lv2 := 3) (mc2 := 0) (ms2 := 0) (av := [.int (nI (v b / ar b))]) (st := []) (r8 := 0) (M := M) (mb := mb2) (ma := ma2) (mb8 := mb3) (ma8 := ma3) (bq := bq) (aq := aq) (X := X) F li_noT rfl (fun B9 => fJ4_append_bf812_c  (nI (v b / ar b)) (li_mB M mb2 ma2) _ hst (e3)) wcJ4_append_bf812 mlL_141 wdJ4_append_bf812 (by decide) (by omega) (by omega) rfl seJ4_append_bf812 imJ4_append_bf812 rfl (Nat.le_of_ble_eq_true rfl) dL_law_118 ?_
      refine li_eq (st2 := [.ref bq]) rfl ?_
      have eT : [] ++ lvT v gg b ++ T2 ++ dg (v b / ar b) = lvT v gg (b + 1) := by rw [hT2]; rfl
      rw [eT] at t3
      have hlen2 := lvT_len v gg (b + 1)
      rw [if_neg (show ¬ b + 1 = 0 by omega)] at hlen2
      refine li_toSB F hst (show (lvT v gg (b + 1)).length < 16 by omega) (y_fit t3) t3.1 t3.2.1 (ml_tb 1227 (by decide +kernel) rfl) (by decide) (by omega) (by omega) (Nat.le_of_ble_eq_true rfl) dL_law_121 (fun s2 t2b => ?_)
      have hT9 : li_txt g ((s2, .inr (0, [.ref t2b, .int 0, .int 0, .int 0])) :: (t2b, .inl (g.2.2.1 4, (lvT v gg (b + 1)).length, .inl (va_cpy ma3 (fun _ => 0) 0 0 (lvT v gg (b + 1)).length))) :: X) s2 t2b ((lvT v gg (b + 1)).map nI) := y_txt (i := 0) t3 rfl rfl
      have hA9 : ((s2, .inr (0, [.ref t2b, .int 0, .int 0, .int 0])) :: (t2b, .inl (g.2.2.1 4, (lvT v gg (b + 1)).length, .inl (va_cpy ma3 (fun _ => 0) 0 0 (lvT v gg (b + 1)).length))) :: X)[i + 2]? = some (ia, .inl (g.2.2.1 0, 5, .inl (fun _ => 0))) := hA
      have hS9 : ∀ f : Nat → Int32, li_txt g (List.set ((s2, .inr (0, [.ref t2b, .int 0, .int 0, .int 0])) :: (t2b, .inl (g.2.2.1 4, (lvT v gg (b + 1)).length, .inl (va_cpy ma3 (fun _ => 0) 0 0 (lvT v gg (b + 1)).length))) :: X) (i + 2) (ia, .inl (g.2.2.1 0, 5, .inl f))) s2 t2b ((lvT v gg (b + 1)).map nI) := fun f => y_txt (i := 0) t3 rfl rfl
      generalize ((s2, .inr (0, [.ref t2b, .int 0, .int 0, .int 0])) :: (t2b, .inl (g.2.2.1 4, (lvT v gg (b + 1)).length, .inl (va_cpy ma3 (fun _ => 0) 0 0 (lvT v gg (b + 1)).length))) :: X : va_W) = X9 at hT9 hA9 hS9 ⊢
      refine li_astore (ls2 := [(7, .ref s2), (3, .int (nI (sv v (b + 1)))), (10, .int (nI (ar b))), (9, .int (nI (v b))), (0, .ref (g.2.2.2.2.1 4)), (1, ml_rf g 0), (2, .int t), (4, .int n9), (5, .int rank), (6, .ref ia), (8, .int (nI b))]) F dL_law_124 (by decide) rfl ?_
      refine li_iload (q := 2) F dL_law_126 rfl ?_
      have tail2 : cn_J E g A 13 Q (k + 1 + 1 + 2 + 0 + 1 + 0 + 0 + 2) (n + 6 + 6 + 20 + 0 + 6 + 0 + 0 + 20) 146 [(7, .ref s2), (3, .int (nI (sv v (b + 1)))), (10, .int (nI (ar b))), (9, .int (nI (v b))), (0, .ref (g.2.2.2.2.1 4)), (1, ml_rf g 0), (2, .int t), (4, .int n9), (5, .int rank), (6, .ref ia), (8, .int (nI b))] [.int (nI (ar b)), .int (nI (ar b))] (ml_wm g M ++ X9) := by
        refine li_icmp_neF (tgt := 206) F dL_law_146 (by decide) rfl ?_
        refine li_iload (q := 3) F dL_law_149 rfl ?_
        refine li_if_ltF (tgt := 206) F dL_law_151 (by decide) (nI_pos (by omega)) ?_
        refine li_iload (q := 3) F dL_law_154 rfl ?_
        refine li_bipush (v := 40) F dL_law_156 (by decide) ?_
        refine li_iload (q := 2) F dL_law_158 rfl ?_
        refine li_imul (v := (nI (40 * ar b))) F dL_law_160 (pk_mul 40 (ar b)) ?_
        refine li_icmp_gtF (tgt := 206) F dL_law_161 (by decide) (fun z => by have := (nI_ltI (by omega) (by omega)).mp z; have := (h.1 b hb5).2; unfold lim at this; omega) ?_
        refine li_aload_n (q := 5) F dL_law_164 rfl rfl ?_
        refine li_iload (q := 10) F dL_law_165 rfl ?_
        refine li_callV (lv2 := 3) (mc2 := 1) (ms2 := 6) (av := [.int (nI b)]) (st := []) (r8 := (nI (v b) / nI (ar b))) (M := M) (M8 := M) (X := X9) (kb := 0) (ci := 10) (T := TX6) (N := 9) F (pc0 g) li_noT rfl (fun _ => fX6_level_c (nI b) M _ hst (q_level h hb5)) wcX6_level mlL_148 wdX6_level (by decide) (by omega) (by omega) rfl seX6_level imX6_level rfl (Nat.le_of_ble_eq_true rfl) dL_law_167 ?_
        refine li_eq (st2 := [.int (nI (v b) / nI (ar b))]) rfl ?_
        refine li_iload (q := 3) F dL_law_170 rfl ?_
        refine li_iload (q := 2) F dL_law_172 rfl ?_
        refine li_idiv (v := (nI (v b) / nI (ar b))) F dL_law_174 (ar_nz b) rfl ?_
        refine li_icmp_neF (tgt := 206) F dL_law_175 (by decide) rfl ?_
        refine li_aload_n (q := 5) F dL_law_178 rfl rfl ?_
        refine li_iload (q := 10) F dL_law_179 rfl ?_
        refine li_callV (lv2 := 2) (mc2 := 1) (ms2 := 6) (av := [.int (nI b)]) (st := []) (r8 := 0) (M := M) (M8 := (ml_w (ml_w M 200 0 (nI (v b))) 200 1 (nI (ar b)))) (X := X9) (kb := 0) (ci := 10) (T := TX6) (N := 9) F (pc0 g) li_noT rfl (fun _ => fX6_exactLevel_c (nI b) M _ hst (q_exact h hb5)) wcX6_exactLevel mlL_151 wdX6_exactLevel (by decide) (by omega) (by omega) rfl seX6_exactLevel imX6_exactLevel rfl (Nat.le_of_ble_eq_true rfl) dL_law_181 ?_
        refine li_eq (st2 := [.double (FP.ddiv (FP.i2d (nI (v b))) (FP.i2d (nI (ar b))))]) (by rw [w_un (show (0 : Nat) ≠ 1 by decide), w_at, w_at]; rfl) ?_
        refine li_iload (q := 3) F dL_law_184 rfl ?_
        refine li_i2d F dL_law_186 ?_
        refine li_iload (q := 2) F dL_law_187 rfl ?_
        refine li_i2d F dL_law_189 ?_
        refine li_ddiv F dL_law_190 (fp_a (by omega)) ?_
        have hI2 : jI (ml_w (ml_w M 200 0 (nI (v b))) 200 1 (nI (ar b))) := hI.of (fun p hp => by rw [ml_w_ne (by omega), ml_w_ne (by omega)])
        have h2 : jS (ml_w (ml_w M 200 0 (nI (v b))) 200 1 (nI (ar b))) v o gg L nx c := h.of (fun p _ _ => by rw [ml_w_ne (by omega), ml_w_ne (by omega)])
        generalize (ml_w (ml_w M 200 0 (nI (v b))) 200 1 (nI (ar b)) : ml_M) = M9 at hI2 h2 ⊢
        refine li_dcmp (v := 0) F dL_law_191 (fp_c (by omega)) ?_
        refine li_if_neF (tgt := 206) F dL_law_192 (by decide) rfl ?_
        refine li_aload_n (q := 5) F dL_law_195 rfl rfl ?_
        refine li_iload (q := 10) F dL_law_196 rfl ?_
        refine li_iload (q := 10) F dL_law_198 rfl ?_
        refine li_callV (lv2 := 3) (mc2 := 2) (ms2 := 12) (av := [.int (nI b), .int (nI b)]) (st := []) (r8 := (if v b * ar b < v b * ar b then 1 else 0)) (M := M9) (M8 := M9) (X := X9) (kb := 0) (ci := 10) (T := TX6) (N := 9) F (pc0 g) li_noT rfl (fun _ => fX6_isHigher_c (nI b) (nI b) M9 _ hst (q_higher h2 hb5 hb5)) wcX6_isHigher mlL_155 wdX6_isHigher (by decide) (by omega) (by omega) rfl seX6_isHigher imX6_isHigher rfl (Nat.le_of_ble_eq_true rfl) dL_law_200 ?_
        refine li_eq (st2 := [.int (if v b * ar b < v b * ar b then 1 else 0)]) rfl ?_
        refine li_if_eqT (tgt := 208) F dL_law_203 (by decide) (if_neg (Nat.lt_irrefl _)) ?_
        refine li_iconst (v := 0) F dL_law_208 (by decide) ?_
        refine li_istore (ls2 := [(11, .int 0), (7, .ref s2), (3, .int (nI (sv v (b + 1)))), (10, .int (nI (ar b))), (9, .int (nI (v b))), (0, .ref (g.2.2.2.2.1 4)), (1, ml_rf g 0), (2, .int t), (4, .int n9), (5, .int rank), (6, .ref ia), (8, .int (nI b))]) F dL_law_209 (by decide) rfl ?_
        refine li_pick (ls2 := [(0, .ref (g.2.2.2.2.1 4)), (1, ml_rf g 0), (2, .int t), (3, .int (nI (sv v (b + 1)))), (4, .int n9), (5, .int rank), (6, .ref ia), (7, .ref s2), (8, .int (nI b)), (9, .int (nI (v b))), (10, .int (nI (ar b))), (11, .int (nI 0))] ) [5, 6, 7, 2, 8, 9, 10, 1, 11, 4, 3, 0] rfl ?_
        refine w_b (kz := k + 300) (nz := n + 3000) F hst h2 hb5 (by omega) (by omega) ?_ 5 0 _ _ (by decide) (by omega) (by omega)
        refine li_iinc (q := 8) (v := (nI (b + 1))) (ls2 := [(8, .int (nI (b + 1))), (0, .ref (g.2.2.2.2.1 4)), (1, ml_rf g 0), (2, .int t), (3, .int (nI (sv v (b + 1)))), (4, .int n9), (5, .int rank), (6, .ref ia), (7, .ref s2)]) F dL_law_262 rfl (nI_i1 b) (by decide) rfl ?_
        refine li_goto (tgt := 43) F dL_law_265 (by decide) ?_
        exact li_pick [1, 2, 3, 4, 5, 6, 7, 8, 0] rfl (ih (b + 1) (k + 300) (n + 3000) M9 X9 s2 t2b (i + 2) (by omega) (by omega) (by omega) hI2 h2 hT9 hA9 hS9)
      refine li_iload (q := 10) F dL_law_128 rfl ?_
      by_cases hb0 : b = 0
      · subst hb0
        refine li_if_eqT (tgt := 139) F dL_law_130 (by decide) rfl ?_
        refine li_bipush (v := (nI (ar 0))) F dL_law_139 (by decide) ?_
        refine li_goto (tgt := 146) F dL_law_141 (by decide) ?_
        exact tail2
      · refine li_if_eqF (tgt := 139) F dL_law_130 (by decide) (fun z => hb0 ((nI_eq (by omega) (by decide)).mp z)) ?_
        refine li_iload (q := 10) F dL_law_133 rfl ?_
        refine li_iconst (v := 4) F dL_law_135 (by decide) ?_
        by_cases hb4 : b = 4
        · subst hb4
          refine li_icmp_neF (tgt := 144) F dL_law_136 (by decide) rfl ?_
          refine li_bipush (v := (nI (ar 4))) F dL_law_139 (by decide) ?_
          refine li_goto (tgt := 146) F dL_law_141 (by decide) ?_
          exact tail2
        · have e6 : ar b = 6 := by unfold ar; rw [if_neg hb0, if_neg hb4]
          refine li_icmp_neT (tgt := 144) F dL_law_136 (by decide) (fun z => hb4 ((nI_eq (by omega) (by decide)).mp z)) ?_
          refine li_bipush (v := (nI (ar b))) F dL_law_144 (by rw [e6]; decide) ?_
          exact tail2
    refine li_iload (q := 10) F dL_law_82 rfl ?_
    by_cases hb0 : b = 0
    · refine li_if_neF (tgt := 92) F dL_law_84 (by decide) (by rw [hb0]; rfl) ?_
      refine li_ldcS (i8 := 0) F rfl (by decide) dL_law_87 ?_
      refine li_goto (tgt := 110) F dL_law_89 (by decide) ?_
      exact li_wid (by omega) (by omega) (tail 0 [] (by decide) rfl (by rw [if_pos hb0]))
    · obtain ⟨p, hp⟩ : ∃ p, b = p + 1 := ⟨b - 1, by omega⟩
      have hp4 : p < 4 := by omega
      have e1 : nI b - 1 = nI p := by rw [hp]; exact nI_pred p
      have hgp := (h.2.2.1 p hp4).2
      have ep : b - 1 = p := by omega
      refine li_if_neT (tgt := 92) F dL_law_84 (by decide) (fun z => hb0 ((nI_eq (by omega) (by decide)).mp z)) ?_
      refine li_aload_n (q := 4) F dL_law_92 rfl rfl ?_
      refine li_iload (q := 10) F dL_law_93 rfl ?_
      refine li_iconst (v := 1) F dL_law_95 (by decide) ?_
      refine li_isub (v := (nI p)) F dL_law_96 e1 ?_
      refine li_callV (lv2 := 3) (mc2 := 1) (ms2 := 6) (av := [.int (nI p)]) (st := [.ref bq]) (r8 := (nI (gg p))) (M := M) (M8 := M) (X := (bq, li_cb aq mb1) :: (aq, li_ca g ma1) :: X) (kb := 0) (ci := 10) (T := TX6) (N := 9) F (pc0 g) li_noT rfl (fun _ => fX6_isOpen_c (nI p) M _ hst (q_isOpen h hp4)) wcX6_isOpen mlL_133 wdX6_isOpen (by decide) (by omega) (by omega) rfl seX6_isOpen imX6_isOpen rfl (Nat.le_of_ble_eq_true rfl) dL_law_97 ?_
      refine li_eq (st2 := [.int (nI (gg p)), .ref bq]) rfl ?_
      by_cases hg : gg p = 0
      · refine li_if_eqT (tgt := 108) F dL_law_100 (by decide) (by rw [hg]; rfl) ?_
        refine li_ldcS (i8 := 2) F rfl (by decide) dL_law_108 ?_
        exact li_wid (by omega) (by omega) (tail 2 [124] (by decide) rfl (by rw [if_neg hb0, ep, if_pos hg]))
      · refine li_if_eqF (tgt := 108) F dL_law_100 (by decide) (fun z => hg ((nI_eq (by omega) (by decide)).mp z)) ?_
        refine li_ldcS (i8 := 1) F rfl (by decide) dL_law_103 ?_
        refine li_goto (tgt := 110) F dL_law_105 (by decide) ?_
        exact li_wid (by omega) (by omega) (tail 1 [47] (by decide) rfl (by rw [if_neg hb0, ep, if_neg hg]))
