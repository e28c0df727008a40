/-! The law: its orders. -/
theorem mlL_209 : Cond.methodLink RL 209 yX6_boatsIn ∈ ml_all := ml_tb 522 (by decide +kernel) rfl
theorem wcX6_boatsIn : ml_wc yX6_boatsIn cX6_boatsIn 2 (some .int) := ⟨ml_tb 525 (by decide +kernel) rfl, ml_tb 1 (by decide +kernel) rfl, by decide⟩
theorem wdX6_boatsIn : ml_wd yX6_boatsIn 1 := ⟨by decide +kernel, by decide +kernel, by decide +kernel⟩
theorem imX6_boatsIn : Cond.instanceMethod yX6_boatsIn ∈ ml_all := ml_tb 523 (by decide +kernel) rfl
theorem seX6_boatsIn : Cond.selects yX6_boatsIn.cls yX6_boatsIn yX6_boatsIn ∈ ml_all := ml_tb 524 (by decide +kernel) rfl
theorem sign_e {k : Nat} (h : k < 3) (M : ml_M) : fL_sign (nI k) M = some (.inl (ml_cs k), M) := by
  rcases (show k = 0 ∨ k = 1 ∨ k = 2 by omega) with rfl | rfl | rfl <;> rfl
theorem cs_inj {a b : Nat} (ha : a < 3) (hb : b < 3) (h : ml_cs a = ml_cs b) : a = b := by
  rcases (show a = 0 ∨ a = 1 ∨ a = 2 by omega) with rfl | rfl | rfl <;> rcases (show b = 0 ∨ b = 1 ∨ b = 2 by omega) with rfl | rfl | rfl <;> first | rfl | exact absurd h (by decide)
theorem q_order6 {M : ml_M} {v o g : Nat → Nat} {L : List fb} {nx c : Nat} (h : jS M v o g L nx c) {k : Nat} (hk : k < L.length) : fX6_boatInOrder (nI (nlt (lk L) (lk L k) L.length)) M = some (.inl (nI k), M) := by
  have hL := h.2.2.2.2.2.2.1
  have hr : nlt (lk L) (lk L k) L.length ≤ L.length := nlt_le _
  rcases bo_c hL h.2.2.2.2.1.1 (fun j hj => lc_3 h hj) (show nlt (lk L) (lk L k) L.length < 100 by omega) (nI (nlt (lk L) (lk L k) L.length)) L.length 0 ml_fuel (by omega) (by unfold ml_fuel; omega) with ⟨k', k1, k2, k3, k5⟩ | ⟨k1, k2⟩
  · have := nlt_inj k2 hk (lk_inj hL) k3
    subst this
    exact k5
  · exact absurd rfl (k1 k (Nat.zero_le _) hk)
theorem rk_in {L : List fb} {cc k : Nat} (hL : L.length ≤ 8) (hk : k < L.length) (h : lc L k = cc) : nlt (lk L) (cc * 16 + k + 1) L.length = nlt (lk L) (lk L k) L.length + 1 ∧ cc * 16 + k = lk L k := by
  have e : cc * 16 + k = lk L k := by unfold lk; rw [h]
  exact ⟨by rw [e]; exact nlt_1 _ hk (fun j hj => lk_inj hL k j hk hj), e⟩
theorem rk_out {L : List fb} {cc k : Nat} (hL : L.length ≤ 8) (hk : k < L.length) (h : lc L k ≠ cc) : nlt (lk L) (cc * 16 + k + 1) L.length = nlt (lk L) (cc * 16 + k) L.length := by
  refine nlt_congr _ (fun j hj => ?_)
  have : lk L j ≠ cc * 16 + k := fun z => by
    unfold lk at z
    have e : j = k := by omega
    subst e
    exact h (by omega)
  omega
theorem rk_next {L : List fb} {cc : Nat} (hL : L.length ≤ 8) : nlt (lk L) (cc * 16 + L.length) L.length = nlt (lk L) ((cc + 1) * 16 + 0) L.length := by
  refine nlt_congr _ (fun j hj => ?_)
  unfold lk
  omega
set_option maxRecDepth 100000 in
set_option maxHeartbeats 8000000 in
theorem w_g {E : ml_E} {g : ml_G} {A : Nat → Prop} {Q : State → Prop} (F : li_F E g A cL_law RL 13 100 877187 6469907 (some .boolean)) (hst : g.2.2.2.2.2.stackTraces = false) {v o gg : Nat → Nat} {L : List fb} {nx c : Nat} {M : ml_M} (h : jS M v o gg L nx c) {t tot : Int32} {ia sq cc : Nat} {X : va_W} {kz nz : Nat} (hcc : cc < 3) (hkz : kz ≤ 877187) (hnz : nz ≤ 6469907) (K : cn_J E g A 13 Q kz nz 799 [(0, .ref (g.2.2.2.2.1 4)), (1, ml_rf g 0), (2, .int t), (3, .int tot), (4, .int (nI L.length)), (5, .int (nI (nlt (lk L) (cc * 16 + L.length) L.length))), (6, .ref ia), (7, .ref sq), (8, .int (nI cc))] [] (ml_wm g M ++ X)) : ∀ (s k9 k n : Nat), k9 + s = L.length → k + 20 * s ≤ kz → n + 200 * s ≤ nz → cn_J E g A 13 Q k n 753 [(0, .ref (g.2.2.2.2.1 4)), (1, ml_rf g 0), (2, .int t), (3, .int tot), (4, .int (nI L.length)), (5, .int (nI (nlt (lk L) (cc * 16 + k9) L.length))), (6, .ref ia), (7, .ref sq), (8, .int (nI cc)), (9, .int (nI k9))] [] (ml_wm g M ++ X) := by
  intro s
  induction s with
  | zero =>
    intro k9 k n hj hk hn
    have e : k9 = L.length := by omega
    subst e
    refine li_iload (q := 9) F dL_law_753 rfl ?_
    refine li_iload (q := 4) F dL_law_755 rfl ?_
    refine li_icmp_geT (tgt := 799) F dL_law_757 (by decide) (Int32.le_refl _) ?_
    exact li_pick [0, 1, 2, 3, 4, 5, 6, 7, 8] rfl (li_wid (by omega) (by omega) K)
  | succ s ih =>
    intro k9 k n hj hk hn
    have hL8 := h.2.2.2.2.2.2.1
    have hk9 : k9 < L.length := by omega
    obtain ⟨x, hx, ⟨x3, -⟩, -, ec, -⟩ := q_boat h hk9
    have hlc : lc L k9 = x.1 := by unfold lc; rw [hx]
    have hub : nlt (lk L) (lk L k9) L.length ≤ L.length := nlt_le _
    refine li_iload (q := 9) F dL_law_753 rfl ?_
    refine li_iload (q := 4) F dL_law_755 rfl ?_
    refine li_icmp_geF (tgt := 799) F dL_law_757 (by decide) (fun z => by have := (nI_leI (by omega) (by omega)).mp z; omega) ?_
    refine li_aload_n (q := 1) F dL_law_760 rfl rfl ?_
    refine li_iload (q := 9) F dL_law_761 rfl ?_
    refine li_callV (lv2 := 2) (mc2 := 1) (ms2 := 6) (av := [.int (nI k9)]) (st := []) (r8 := (ml_cs x.1)) (M := M) (M8 := M) (X := X) (kb := 0) (ci := 10) (T := TX6) (N := 9) F (pc0 g) li_noT rfl (fun _ => fX6_colour_c (nI k9) M _ hst (ec)) wcX6_colour mlL_186 wdX6_colour (by decide) (by omega) (by omega) rfl seX6_colour imX6_colour rfl (Nat.le_of_ble_eq_true rfl) dL_law_763 ?_
    refine li_eq (st2 := [.int (ml_cs x.1)]) rfl ?_
    refine li_iload (q := 8) F dL_law_766 rfl ?_
    refine li_callS (lv2 := 1) (mc2 := 0) (ms2 := 0) (av := [.int (nI cc)]) (st := [.int (ml_cs x.1)]) (r8 := (ml_cs cc)) (M := M) (M8 := M) (X := X) F li_noT (fun B9 => fL_sign_c (g := li_g0 g B9 _ _ _) (nI cc) M _ hst (sign_e hcc M)) wcL_sign mlL_72 wdL_sign (by decide) (by omega) (by omega) rfl stL_sign rfl (Nat.le_of_ble_eq_true rfl) dL_law_768 ?_
    refine li_eq (st2 := [.int (ml_cs cc), .int (ml_cs x.1)]) rfl ?_
    by_cases hc : x.1 = cc
    · obtain ⟨r1, r2⟩ := rk_in hL8 hk9 (hlc.trans hc)
      have eo : fX6_boatInOrder (nI (nlt (lk L) (cc * 16 + k9) L.length)) M = some (.inl (nI k9), M) := by rw [r2]; exact q_order6 h hk9
      refine li_icmp_eqT (tgt := 777) F dL_law_771 (by decide) (congrArg ml_cs hc) ?_
      refine li_aload_n (q := 1) F dL_law_777 rfl rfl ?_
      refine li_iload (q := 5) F dL_law_778 rfl ?_
      refine li_callV (lv2 := 2) (mc2 := 1) (ms2 := 6) (av := [.int (nI (nlt (lk L) (cc * 16 + k9) L.length))]) (st := []) (r8 := (nI k9)) (M := M) (M8 := M) (X := X) (kb := 0) (ci := 10) (T := TX6) (N := 9) F (pc0 g) li_noT rfl (fun _ => fX6_boatInOrder_c (nI (nlt (lk L) (cc * 16 + k9) L.length)) M _ hst (eo)) wcX6_boatInOrder mlL_52 wdX6_boatInOrder (by decide) (by omega) (by omega) rfl seX6_boatInOrder imX6_boatInOrder rfl (Nat.le_of_ble_eq_true rfl) dL_law_780 ?_
      refine li_eq (st2 := [.int (nI k9)]) rfl ?_
      refine li_iload (q := 9) F dL_law_783 rfl ?_
      refine li_icmp_eqT (tgt := 790) F dL_law_785 (by decide) rfl ?_
      refine li_iinc (q := 5) (v := (nI (nlt (lk L) (cc * 16 + (k9 + 1)) L.length))) (ls2 := [(5, .int (nI (nlt (lk L) (cc * 16 + (k9 + 1)) L.length))), (0, .ref (g.2.2.2.2.1 4)), (1, ml_rf g 0), (2, .int t), (3, .int tot), (4, .int (nI L.length)), (6, .ref ia), (7, .ref sq), (8, .int (nI cc)), (9, .int (nI k9))]) F dL_law_790 rfl (by rw [nI_i1, ← Nat.add_assoc, r1, r2]) (by decide) rfl ?_
      refine li_iinc (q := 9) (v := (nI (k9 + 1))) (ls2 := [(9, .int (nI (k9 + 1))), (5, .int (nI (nlt (lk L) (cc * 16 + (k9 + 1)) L.length))), (0, .ref (g.2.2.2.2.1 4)), (1, ml_rf g 0), (2, .int t), (3, .int tot), (4, .int (nI L.length)), (6, .ref ia), (7, .ref sq), (8, .int (nI cc))]) F dL_law_793 rfl (nI_i1 k9) (by decide) rfl ?_
      refine li_goto (tgt := 753) F dL_law_796 (by decide) ?_
      exact li_pick [2, 3, 4, 5, 6, 1, 7, 8, 9, 0] rfl (li_wid (by omega) (by omega) (ih (k9 + 1) (k + 20) (n + 200) (by omega) (by omega) (by omega)))
    · have r1 := rk_out (cc := cc) hL8 hk9 (by rw [hlc]; exact hc)
      refine li_icmp_eqF (tgt := 777) F dL_law_771 (by decide) (fun z => hc (cs_inj x3 hcc z)) ?_
      refine li_goto (tgt := 793) F dL_law_774 (by decide) ?_
      rw [show nlt (lk L) (cc * 16 + k9) L.length = nlt (lk L) (cc * 16 + (k9 + 1)) L.length from r1.symm]
      refine li_iinc (q := 9) (v := (nI (k9 + 1))) (ls2 := [(9, .int (nI (k9 + 1))), (0, .ref (g.2.2.2.2.1 4)), (1, ml_rf g 0), (2, .int t), (3, .int tot), (4, .int (nI L.length)), (5, .int (nI (nlt (lk L) (cc * 16 + (k9 + 1)) L.length))), (6, .ref ia), (7, .ref sq), (8, .int (nI cc))]) F dL_law_793 rfl (nI_i1 k9) (by decide) rfl ?_
      refine li_goto (tgt := 753) F dL_law_796 (by decide) ?_
      exact li_pick [1, 2, 3, 4, 5, 6, 7, 8, 9, 0] rfl (li_wid (by omega) (by omega) (ih (k9 + 1) (k + 20) (n + 200) (by omega) (by omega) (by omega)))
set_option maxRecDepth 100000 in
set_option maxHeartbeats 8000000 in
theorem w_f {E : ml_E} {g : ml_G} {A : Nat → Prop} {Q : State → Prop} (F : li_F E g A cL_law RL 13 100 877187 6469907 (some .boolean)) (hst : g.2.2.2.2.2.stackTraces = false) {v o gg : Nat → Nat} {L : List fb} {nx c : Nat} {M : ml_M} (h : jS M v o gg L nx c) {t tot : Int32} {ia sq : Nat} {X : va_W} {kz nz : Nat} (hkz : kz ≤ 877187) (hnz : nz ≤ 6469907) (K : cn_J E g A 13 Q kz nz 805 [(0, .ref (g.2.2.2.2.1 4)), (1, ml_rf g 0), (2, .int t), (3, .int tot), (4, .int (nI L.length)), (5, .int (nI (nlt (lk L) (3 * 16 + 0) L.length))), (6, .ref ia), (7, .ref sq), (8, .int (nI 3))] [] (ml_wm g M ++ X)) : ∀ (s cc k n : Nat), cc + s = 3 → k + 300 * s ≤ kz → n + 3000 * s ≤ nz → cn_J E g A 13 Q k n 744 [(0, .ref (g.2.2.2.2.1 4)), (1, ml_rf g 0), (2, .int t), (3, .int tot), (4, .int (nI L.length)), (5, .int (nI (nlt (lk L) (cc * 16 + 0) L.length))), (6, .ref ia), (7, .ref sq), (8, .int (nI cc))] [] (ml_wm g M ++ X) := by
  intro s
  induction s with
  | zero =>
    intro cc k n hj hk hn
    have e : cc = 3 := by omega
    subst e
    refine li_iload (q := 8) F dL_law_744 rfl ?_
    refine li_iconst (v := 3) F dL_law_746 (by decide) ?_
    refine li_icmp_geT (tgt := 805) F dL_law_747 (by decide) (by decide) ?_
    exact li_wid (by omega) (by omega) K
  | succ s ih =>
    intro cc k n hj hk hn
    have hL8 := h.2.2.2.2.2.2.1
    have hcc : cc < 3 := by omega
    refine li_iload (q := 8) F dL_law_744 rfl ?_
    refine li_iconst (v := 3) F dL_law_746 (by decide) ?_
    refine li_icmp_geF (tgt := 805) F dL_law_747 (by decide) (fun z => by have := (nI_leI (a := 3) (b := cc) (by decide) (by omega)).mp z; omega) ?_
    refine li_iconst (v := (nI 0)) F dL_law_750 (by decide) ?_
    refine li_istore (ls2 := [(9, .int (nI 0)), (0, .ref (g.2.2.2.2.1 4)), (1, ml_rf g 0), (2, .int t), (3, .int tot), (4, .int (nI L.length)), (5, .int (nI (nlt (lk L) (cc * 16 + 0) L.length))), (6, .ref ia), (7, .ref sq), (8, .int (nI cc))]) F dL_law_751 (by decide) rfl ?_
    refine li_pick (ls2 := [(0, .ref (g.2.2.2.2.1 4)), (1, ml_rf g 0), (2, .int t), (3, .int tot), (4, .int (nI L.length)), (5, .int (nI (nlt (lk L) (cc * 16 + 0) L.length))), (6, .ref ia), (7, .ref sq), (8, .int (nI cc)), (9, .int (nI 0))]) [1, 2, 3, 4, 5, 6, 7, 8, 9, 0] rfl ?_
    refine w_g (kz := k + 300) (nz := n + 3000) F hst h hcc (by omega) (by omega) ?_ L.length 0 _ _ (by omega) (by omega) (by omega)
    refine li_iinc (q := 8) (v := (nI (cc + 1))) (ls2 := [(8, .int (nI (cc + 1))), (0, .ref (g.2.2.2.2.1 4)), (1, ml_rf g 0), (2, .int t), (3, .int tot), (4, .int (nI L.length)), (5, .int (nI (nlt (lk L) (cc * 16 + L.length) L.length))), (6, .ref ia), (7, .ref sq)]) F dL_law_799 rfl (nI_i1 cc) (by decide) rfl ?_
    refine li_goto (tgt := 744) F dL_law_802 (by decide) ?_
    rw [rk_next hL8]
    exact li_pick [1, 2, 3, 4, 5, 6, 7, 8, 0] rfl (ih (cc + 1) (k + 300) (n + 3000) (by omega) (by omega) (by omega))
set_option maxRecDepth 100000 in
set_option maxHeartbeats 8000000 in
theorem w_h {E : ml_E} {g : ml_G} {A : Nat → Prop} {Q : State → Prop} (F : li_F E g A cL_law RL 13 100 877187 6469907 (some .boolean)) (hst : g.2.2.2.2.2.stackTraces = false) {v o gg : Nat → Nat} {L : List fb} {nx c : Nat} {M : ml_M} (h : jS M v o gg L nx c) {t tot n9 rank : Int32} {ia sq i : Nat} {X : va_W} {f : Nat → Int32} {kz nz : Nat} (hA : X[i]? = some (ia, .inl (g.2.2.1 0, 5, .inl f))) (hf : ∀ q, q < 5 → f q = nI (cnt L q)) (hkz : kz ≤ 877187) (hnz : nz ≤ 6469907) (K : cn_J E g A 13 Q kz nz 856 [(0, .ref (g.2.2.2.2.1 4)), (1, ml_rf g 0), (2, .int t), (3, .int tot), (4, .int n9), (5, .int rank), (6, .ref ia), (7, .ref sq), (8, .int (nI 5))] [] (ml_wm g M ++ X)) : ∀ (s b k n : Nat), b + s = 5 → k + 20 * s ≤ kz → n + 200 * s ≤ nz → cn_J E g A 13 Q k n 808 [(0, .ref (g.2.2.2.2.1 4)), (1, ml_rf g 0), (2, .int t), (3, .int tot), (4, .int n9), (5, .int rank), (6, .ref ia), (7, .ref sq), (8, .int (nI b))] [] (ml_wm g M ++ X) := by
  intro s
  induction s with
  | zero =>
    intro b k n hj hk hn
    have e : b = 5 := by omega
    subst e
    refine li_iload (q := 8) F dL_law_808 rfl ?_
    refine li_iconst (v := 5) F dL_law_810 (by decide) ?_
    refine li_icmp_geT (tgt := 856) F dL_law_811 (by decide) (by decide) ?_
    exact li_wid (by omega) (by omega) K
  | succ s ih =>
    intro b k n hj hk hn
    have hL8 := h.2.2.2.2.2.2.1
    have hR := h.2.2.2.2.2.2.2.1
    have hb5 : b < 5 := by omega
    have hc8 := cnt_le L b
    refine li_iload (q := 8) F dL_law_808 rfl ?_
    refine li_iconst (v := 5) F dL_law_810 (by decide) ?_
    refine li_icmp_geF (tgt := 856) F dL_law_811 (by decide) (fun z => by have := (nI_leI (a := 5) (b := b) (by decide) (by omega)).mp z; omega) ?_
    refine li_aload_n (q := 1) F dL_law_814 rfl rfl ?_
    refine li_iload (q := 8) F dL_law_815 rfl ?_
    refine li_callV (lv2 := 2) (mc2 := 1) (ms2 := 6) (av := [.int (nI b)]) (st := []) (r8 := (nI (cnt L b))) (M := M) (M8 := M) (X := X) (kb := 0) (ci := 10) (T := TX6) (N := 9) F (pc0 g) li_noT rfl (fun _ => fX6_boatsIn_c (nI b) M _ hst (q_boatsIn h hb5)) wcX6_boatsIn mlL_209 wdX6_boatsIn (by decide) (by omega) (by omega) rfl seX6_boatsIn imX6_boatsIn rfl (Nat.le_of_ble_eq_true rfl) dL_law_817 ?_
    refine li_eq (st2 := [.int (nI (cnt L b))]) rfl ?_
    refine li_aload (q := 6) F dL_law_820 rfl ?_
    refine li_iload (q := 8) F dL_law_822 rfl ?_
    refine li_iald (q0 := (176 + i)) (N := 5) (j := b) (f := f) (v := (nI (cnt L b))) F (by rw [li_at]; exact hA) (nI_pos (by omega)) (nI_clamp (by omega)) hb5 (hf b hb5) dL_law_824 ?_
    refine li_icmp_neF (tgt := 848) F dL_law_825 (by decide) rfl ?_
    have tail : cn_J E g A 13 Q (k + 1) (n + 6) 850 [(0, .ref (g.2.2.2.2.1 4)), (1, ml_rf g 0), (2, .int t), (3, .int tot), (4, .int n9), (5, .int rank), (6, .ref ia), (7, .ref sq), (8, .int (nI b))] [] (ml_wm g M ++ X) := by
      refine li_iinc (q := 8) (v := (nI (b + 1))) (ls2 := [(8, .int (nI (b + 1))), (0, .ref (g.2.2.2.2.1 4)), (1, ml_rf g 0), (2, .int t), (3, .int tot), (4, .int n9), (5, .int rank), (6, .ref ia), (7, .ref sq)]) F dL_law_850 rfl (nI_i1 b) (by decide) rfl ?_
      refine li_goto (tgt := 808) F dL_law_853 (by decide) ?_
      exact li_pick [1, 2, 3, 4, 5, 6, 7, 8, 0] rfl (li_wid (by omega) (by omega) (ih (b + 1) (k + 20) (n + 200) (by omega) (by omega) (by omega)))
    by_cases hb0 : b = 0
    · refine li_iload (q := 8) F dL_law_828 rfl ?_
      refine li_if_leT (tgt := 850) F dL_law_830 (by decide) (by rw [hb0]; decide) ?_
      exact tail
    · refine li_iload (q := 8) F dL_law_828 rfl ?_
      refine li_if_leF (tgt := 850) F dL_law_830 (by decide) (nI_nle (by omega) (by omega)) ?_
      refine li_iload (q := 8) F dL_law_833 rfl ?_
      refine li_iconst (v := 4) F dL_law_835 (by decide) ?_
      by_cases hb4 : b = 4
      · refine li_icmp_geT (tgt := 850) F dL_law_836 (by decide) (by rw [hb4]; decide) ?_
        exact tail
      · refine li_icmp_geF (tgt := 850) F dL_law_836 (by decide) (fun z => by have := (nI_leI (a := 4) (b := b) (by decide) (by omega)).mp z; omega) ?_
        refine li_aload (q := 6) F dL_law_839 rfl ?_
        refine li_iload (q := 8) F dL_law_841 rfl ?_
        refine li_iald (q0 := (176 + i)) (N := 5) (j := b) (f := f) (v := (nI (cnt L b))) F (by rw [li_at]; exact hA) (nI_pos (by omega)) (nI_clamp (by omega)) hb5 (hf b hb5) dL_law_843 ?_
        refine li_iconst (v := 2) F dL_law_844 (by decide) ?_
        refine li_icmp_leT (tgt := 850) F dL_law_845 (by decide) ((nI_leI (b := 2) (by omega) (by decide)).mpr (hR b (by omega) (by omega))) ?_
        exact tail
