/-! The law: totals, events, turns. -/
theorem mlL_243 : Cond.methodLink RL 243 yX6_eventCount ∈ ml_all := ml_tb 546 (by decide +kernel) rfl
theorem wcX6_eventCount : ml_wc yX6_eventCount cX6_eventCount 1 (some .int) := ⟨ml_tb 549 (by decide +kernel) rfl, ml_tb 1 (by decide +kernel) rfl, by decide⟩
theorem wdX6_eventCount : ml_wd yX6_eventCount 0 := ⟨by decide +kernel, by decide +kernel, by decide +kernel⟩
theorem imX6_eventCount : Cond.instanceMethod yX6_eventCount ∈ ml_all := ml_tb 547 (by decide +kernel) rfl
theorem seX6_eventCount : Cond.selects yX6_eventCount.cls yX6_eventCount yX6_eventCount ∈ ml_all := ml_tb 548 (by decide +kernel) rfl
theorem mlL_246 : Cond.methodLink RL 246 yL_eventKind ∈ ml_all := ml_tb 988 (by decide +kernel) rfl
theorem wdL_eventKind : ml_wd yL_eventKind 2 := ⟨by decide +kernel, by decide +kernel, by decide +kernel⟩
theorem stL_eventKind : Cond.static yL_eventKind ∈ ml_all := ml_tb 989 (by decide +kernel) rfl
theorem wcL_eventKind : ml_wcW yL_eventKind cL_eventKind 3 (some .int) [(0, 5, 6, 50)] := ⟨ml_tb 990 (by decide +kernel) rfl, ml_tb 0 (by decide +kernel) rfl, by decide⟩
theorem mlL_248 : Cond.methodLink RL 248 yL_eventNumber ∈ ml_all := ml_tb 1007 (by decide +kernel) rfl
theorem wdL_eventNumber : ml_wd yL_eventNumber 2 := ⟨by decide +kernel, by decide +kernel, by decide +kernel⟩
theorem stL_eventNumber : Cond.static yL_eventNumber ∈ ml_all := ml_tb 1008 (by decide +kernel) rfl
theorem wcL_eventNumber : ml_wcW yL_eventNumber cL_eventNumber 3 (some .int) [(0, 5, 6, 50)] := ⟨ml_tb 1009 (by decide +kernel) rfl, ml_tb 0 (by decide +kernel) rfl, by decide⟩
theorem mlL_212 : Cond.methodLink RL 212 yX6_totalVolume ∈ ml_all := ml_tb 439 (by decide +kernel) rfl
theorem wcX6_totalVolume : ml_wc yX6_totalVolume cX6_totalVolume 1 (some .int) := ⟨ml_tb 442 (by decide +kernel) rfl, ml_tb 1 (by decide +kernel) rfl, by decide⟩
theorem wdX6_totalVolume : ml_wd yX6_totalVolume 0 := ⟨by decide +kernel, by decide +kernel, by decide +kernel⟩
theorem imX6_totalVolume : Cond.instanceMethod yX6_totalVolume ∈ ml_all := ml_tb 440 (by decide +kernel) rfl
theorem seX6_totalVolume : Cond.selects yX6_totalVolume.cls yX6_totalVolume yX6_totalVolume ∈ ml_all := ml_tb 441 (by decide +kernel) rfl
theorem mlL_215 : Cond.methodLink RL 215 yX6_totalVolumeByAccounts ∈ ml_all := ml_tb 447 (by decide +kernel) rfl
theorem wcX6_totalVolumeByAccounts : ml_wc yX6_totalVolumeByAccounts cX6_totalVolumeByAccounts 1 (some .int) := ⟨ml_tb 450 (by decide +kernel) rfl, ml_tb 1 (by decide +kernel) rfl, by decide⟩
theorem wdX6_totalVolumeByAccounts : ml_wd yX6_totalVolumeByAccounts 0 := ⟨by decide +kernel, by decide +kernel, by decide +kernel⟩
theorem imX6_totalVolumeByAccounts : Cond.instanceMethod yX6_totalVolumeByAccounts ∈ ml_all := ml_tb 448 (by decide +kernel) rfl
theorem seX6_totalVolumeByAccounts : Cond.selects yX6_totalVolumeByAccounts.cls yX6_totalVolumeByAccounts yX6_totalVolumeByAccounts ∈ ml_all := ml_tb 449 (by decide +kernel) rfl
theorem mlL_218 : Cond.methodLink RL 218 yX6_rainTotal ∈ ml_all := ml_tb 455 (by decide +kernel) rfl
theorem wcX6_rainTotal : ml_wc yX6_rainTotal cX6_rainTotal 1 (some .int) := ⟨ml_tb 458 (by decide +kernel) rfl, ml_tb 1 (by decide +kernel) rfl, by decide⟩
theorem wdX6_rainTotal : ml_wd yX6_rainTotal 0 := ⟨by decide +kernel, by decide +kernel, by decide +kernel⟩
theorem imX6_rainTotal : Cond.instanceMethod yX6_rainTotal ∈ ml_all := ml_tb 456 (by decide +kernel) rfl
theorem seX6_rainTotal : Cond.selects yX6_rainTotal.cls yX6_rainTotal yX6_rainTotal ∈ ml_all := ml_tb 457 (by decide +kernel) rfl
theorem mlL_221 : Cond.methodLink RL 221 yX6_drainTotal ∈ ml_all := ml_tb 459 (by decide +kernel) rfl
theorem wcX6_drainTotal : ml_wc yX6_drainTotal cX6_drainTotal 1 (some .int) := ⟨ml_tb 462 (by decide +kernel) rfl, ml_tb 1 (by decide +kernel) rfl, by decide⟩
theorem wdX6_drainTotal : ml_wd yX6_drainTotal 0 := ⟨by decide +kernel, by decide +kernel, by decide +kernel⟩
theorem imX6_drainTotal : Cond.instanceMethod yX6_drainTotal ∈ ml_all := ml_tb 460 (by decide +kernel) rfl
theorem seX6_drainTotal : Cond.selects yX6_drainTotal.cls yX6_drainTotal yX6_drainTotal ∈ ml_all := ml_tb 461 (by decide +kernel) rfl
theorem mlL_224 : Cond.methodLink RL 224 yX6_spilledTotal ∈ ml_all := ml_tb 463 (by decide +kernel) rfl
theorem wcX6_spilledTotal : ml_wc yX6_spilledTotal cX6_spilledTotal 1 (some .int) := ⟨ml_tb 466 (by decide +kernel) rfl, ml_tb 1 (by decide +kernel) rfl, by decide⟩
theorem wdX6_spilledTotal : ml_wd yX6_spilledTotal 0 := ⟨by decide +kernel, by decide +kernel, by decide +kernel⟩
theorem imX6_spilledTotal : Cond.instanceMethod yX6_spilledTotal ∈ ml_all := ml_tb 464 (by decide +kernel) rfl
theorem seX6_spilledTotal : Cond.selects yX6_spilledTotal.cls yX6_spilledTotal yX6_spilledTotal ∈ ml_all := ml_tb 465 (by decide +kernel) rfl
theorem mlL_227 : Cond.methodLink RL 227 yX6_meanLevel ∈ ml_all := ml_tb 550 (by decide +kernel) rfl
theorem wcX6_meanLevel : ml_wc yX6_meanLevel cX6_meanLevel 1 (some .float) := ⟨ml_tb 553 (by decide +kernel) rfl, ml_tb 1 (by decide +kernel) rfl, by decide⟩
theorem wdX6_meanLevel : ml_wd yX6_meanLevel 0 := ⟨by decide +kernel, by decide +kernel, by decide +kernel⟩
theorem imX6_meanLevel : Cond.instanceMethod yX6_meanLevel ∈ ml_all := ml_tb 551 (by decide +kernel) rfl
theorem seX6_meanLevel : Cond.selects yX6_meanLevel.cls yX6_meanLevel yX6_meanLevel ∈ ml_all := ml_tb 552 (by decide +kernel) rfl
theorem mlL_232 : Cond.methodLink RL 232 yX6_isConsistent ∈ ml_all := ml_tb 555 (by decide +kernel) rfl
theorem wcX6_isConsistent : ml_wc yX6_isConsistent cX6_isConsistent 1 (some .boolean) := ⟨ml_tb 558 (by decide +kernel) rfl, ml_tb 1 (by decide +kernel) rfl, by decide⟩
theorem wdX6_isConsistent : ml_wd yX6_isConsistent 0 := ⟨by decide +kernel, by decide +kernel, by decide +kernel⟩
theorem imX6_isConsistent : Cond.instanceMethod yX6_isConsistent ∈ ml_all := ml_tb 556 (by decide +kernel) rfl
theorem seX6_isConsistent : Cond.selects yX6_isConsistent.cls yX6_isConsistent yX6_isConsistent ∈ ml_all := ml_tb 557 (by decide +kernel) rfl
theorem mlL_236 : Cond.methodLink RL 236 yX6_renderLevels ∈ ml_all := ml_tb 573 (by decide +kernel) rfl
theorem wcX6_renderLevels : ml_wc yX6_renderLevels cX6_renderLevels 2 (some .int) := ⟨ml_tb 576 (by decide +kernel) rfl, ml_tb 1 (by decide +kernel) rfl, by decide⟩
theorem wdX6_renderLevels : ml_wd yX6_renderLevels 0 := ⟨by decide +kernel, by decide +kernel, by decide +kernel⟩
theorem imX6_renderLevels : Cond.instanceMethod yX6_renderLevels ∈ ml_all := ml_tb 574 (by decide +kernel) rfl
theorem seX6_renderLevels : Cond.selects yX6_renderLevels.cls yX6_renderLevels yX6_renderLevels ∈ ml_all := ml_tb 575 (by decide +kernel) rfl
theorem mlL_239 : Cond.methodLink RL 239 yL_boatInOrder ∈ ml_all := ml_tb 895 (by decide +kernel) rfl
theorem wdL_boatInOrder : ml_wd yL_boatInOrder 2 := ⟨by decide +kernel, by decide +kernel, by decide +kernel⟩
theorem stL_boatInOrder : Cond.static yL_boatInOrder ∈ ml_all := ml_tb 896 (by decide +kernel) rfl
theorem wcL_boatInOrder : ml_wcW yL_boatInOrder cL_boatInOrder 3 (some .int) [(0, 5, 6, 50)] := ⟨ml_tb 897 (by decide +kernel) rfl, ml_tb 0 (by decide +kernel) rfl, by decide⟩
theorem mlL_241 : Cond.methodLink RL 241 yL_basinByLevel ∈ ml_all := ml_tb 891 (by decide +kernel) rfl
theorem wdL_basinByLevel : ml_wd yL_basinByLevel 2 := ⟨by decide +kernel, by decide +kernel, by decide +kernel⟩
theorem stL_basinByLevel : Cond.static yL_basinByLevel ∈ ml_all := ml_tb 892 (by decide +kernel) rfl
theorem wcL_basinByLevel : ml_wcW yL_basinByLevel cL_basinByLevel 3 (some .int) [(0, 5, 6, 50)] := ⟨ml_tb 893 (by decide +kernel) rfl, ml_tb 0 (by decide +kernel) rfl, by decide⟩
theorem mlL_114 : Cond.methodLink RL 114 yL_build ∈ ml_all := ml_tb 1017 (by decide +kernel) rfl
theorem wcL_build : ml_wc yL_build cL_build 4 none := ⟨ml_tb 1019 (by decide +kernel) rfl, ml_tb 0 (by decide +kernel) rfl, by decide⟩
theorem wdL_build : ml_wd yL_build 2 := ⟨by decide +kernel, by decide +kernel, by decide +kernel⟩
theorem stL_build : Cond.static yL_build ∈ ml_all := ml_tb 1018 (by decide +kernel) rfl
set_option maxRecDepth 100000 in
theorem fpc_m : ∀ s < 1600, Op.cmpValue (FP.fcmp (FP.fdiv (FP.i2f (nI s)) (FP.i2f 38)) (FP.fdiv (FP.i2f (nI s)) 1108869120)) .l = 0 := by decide +kernel
theorem sv5 (v : Nat → Nat) : sv v 5 = v 0 + v 1 + v 2 + v 3 + v 4 := by simp only [sv]; omega
section
variable {M : ml_M} {v o g : Nat → Nat} {L : List fb} {nx c : Nat}
theorem q_total5 (h : jS M v o g L nx c) : fX6_totalVolume M = some (.inl (nI (sv v 5)), M) := by rw [sv5]; exact q_total h
theorem q_accounts5 (h : jS M v o g L nx c) : fX6_totalVolumeByAccounts M = some (.inl (nI (sv v 5)), M) := by rw [sv5]; exact q_accounts h
theorem q_6845 (h : jS M v o g L nx c) : nI (sv v 5) = 684 + M (ml_fl 0 + 1) 5 - M (ml_fl 0 + 1) 6 - M (ml_fl 0 + 1) 7 := by rw [sv5]; exact (q_684 h).symm
theorem q_mean5 (h : jS M v o g L nx c) : fX6_meanLevel M = some (.inl 0, ml_w (ml_w M 200 0 (nI (sv v 5))) 200 1 38) := by rw [sv5]; exact q_mean h
theorem q_sum5 (h : jS M v o g L nx c) : sv v 5 < 1600 := by rw [sv5]; exact q_sum h
end
theorem li_drop {E : ml_E} {g : ml_G} {A : Nat → Prop} {nL : Nat} {Q : State → Prop} {k n pc : Nat} {ls : List (Nat × Value)} {st : List Value} {M : ml_M} {X : va_W} (K : cn_J E g A nL Q k n pc ls st (ml_wm g M ++ [])) : cn_J E g A nL Q k n pc ls st (ml_wm g M ++ X) := by
  refine li_cut ⟨fun i => i, fun i j _ _ h => h, fun i q h => ?_⟩ K
  rw [List.append_nil] at h
  have := (List.getElem?_eq_some_iff.mp h).1
  rw [List.getElem?_append_left this]
  exact h
set_option maxRecDepth 100000 in
set_option maxHeartbeats 8000000 in
theorem w_i {E : ml_E} {g : ml_G} {A : Nat → Prop} {Q : State → Prop} (F : li_F E g A cL_law RL 13 100 877187 6469907 (some .boolean)) (hst : g.2.2.2.2.2.stackTraces = false) {v o gg : Nat → Nat} {L : List fb} {nx c : Nat} {M : ml_M} (h : jS M v o gg L nx c) {t tot n9 rank : Int32} {ia sq : Nat} {X : va_W} {kz nz : Nat} (hkz : kz ≤ 877187) (hnz : nz ≤ 6469907) (K : cn_J E g A 13 Q kz nz 1075 [(0, .ref (g.2.2.2.2.1 4)), (1, ml_rf g 0), (2, .int t), (3, .int tot), (4, .int n9), (5, .int rank), (6, .ref ia), (7, .ref sq), (8, .int (nI c))] [] (ml_wm g M ++ X)) : ∀ (s b k n : Nat), b + s = c → k + 20 * s ≤ kz → n + 200 * s ≤ nz → cn_J E g A 13 Q k n 978 [(0, .ref (g.2.2.2.2.1 4)), (1, ml_rf g 0), (2, .int t), (3, .int tot), (4, .int n9), (5, .int rank), (6, .ref ia), (7, .ref sq), (8, .int (nI b))] [] (ml_wm g M ++ X) := by
  intro s
  induction s with
  | zero =>
    intro b k n hj hk hn
    have e : b = c := by omega
    subst e
    refine li_iload (q := 8) F dL_law_978 rfl ?_
    refine li_aload_n (q := 1) F dL_law_980 rfl rfl ?_
    refine li_callV (lv2 := 1) (mc2 := 0) (ms2 := 0) (av := []) (st := [.int (nI b)]) (r8 := (nI b)) (M := M) (M8 := M) (X := X) (kb := 0) (ci := 10) (T := TX6) (N := 9) F (pc0 g) li_noT rfl (fun _ => fX6_eventCount_c M _ hst (q_eventCount h)) wcX6_eventCount mlL_243 wdX6_eventCount (by decide) (by omega) (by omega) rfl seX6_eventCount imX6_eventCount rfl (Nat.le_of_ble_eq_true rfl) dL_law_981 ?_
    refine li_eq (st2 := [.int (nI b), .int (nI b)]) rfl ?_
    refine li_icmp_geT (tgt := 1075) F dL_law_984 (by decide) (Int32.le_refl _) ?_
    exact li_wid (by omega) (by omega) K
  | succ s ih =>
    intro b k n hj hk hn
    have hc8 : c ≤ 8 := h.2.2.2.2.2.2.2.2.2.1
    have hbc : b < c := by omega
    obtain ⟨kc, x, hkc, e1, e2, hev⟩ := q_event h hbc
    refine li_iload (q := 8) F dL_law_978 rfl ?_
    refine li_aload_n (q := 1) F dL_law_980 rfl rfl ?_
    refine li_callV (lv2 := 1) (mc2 := 0) (ms2 := 0) (av := []) (st := [.int (nI b)]) (r8 := (nI c)) (M := M) (M8 := M) (X := X) (kb := 0) (ci := 10) (T := TX6) (N := 9) F (pc0 g) li_noT rfl (fun _ => fX6_eventCount_c M _ hst (q_eventCount h)) wcX6_eventCount mlL_243 wdX6_eventCount (by decide) (by omega) (by omega) rfl seX6_eventCount imX6_eventCount rfl (Nat.le_of_ble_eq_true rfl) dL_law_981 ?_
    refine li_eq (st2 := [.int (nI c), .int (nI b)]) rfl ?_
    refine li_icmp_geF (tgt := 1075) F dL_law_984 (by decide) (fun z => by have := (nI_leI (by omega) (by omega)).mp z; omega) ?_
    refine li_aload_n (q := 1) F dL_law_987 rfl rfl ?_
    refine li_iload (q := 8) F dL_law_988 rfl ?_
    refine li_callW (lv2 := 4) (mc2 := 1) (ms2 := 6) (av := [ml_rf g 0, .int (nI b)]) (st := []) (r8 := (nI kc)) (M := M) (M8 := M) (X := X) F li_noT (fun _ => fL_eventKind_c (nI b) M _ hst (e1)) wcL_eventKind mlL_246 wdL_eventKind (by decide) (by omega) (by omega) rfl stL_eventKind rfl (Nat.le_of_ble_eq_true rfl) dL_law_990 ?_
    refine li_eq (st2 := [.int (nI kc)]) rfl ?_
    refine li_istore (ls2 := [(9, .int (nI kc)), (0, .ref (g.2.2.2.2.1 4)), (1, ml_rf g 0), (2, .int t), (3, .int tot), (4, .int n9), (5, .int rank), (6, .ref ia), (7, .ref sq), (8, .int (nI b))]) F dL_law_993 (by decide) rfl ?_
    refine li_aload_n (q := 2) F dL_law_995 rfl rfl ?_
    refine li_iload (q := 9) F dL_law_996 rfl ?_
    refine li_callW (lv2 := 4) (mc2 := 1) (ms2 := 6) (av := [ml_rf g 0, .int (nI b)]) (st := []) (r8 := x) (M := M) (M8 := M) (X := X) F li_noT (fun _ => fL_eventNumber_c (nI b) M _ hst (e2)) wcL_eventNumber mlL_248 wdL_eventNumber (by decide) (by omega) (by omega) rfl stL_eventNumber rfl (Nat.le_of_ble_eq_true rfl) dL_law_998 ?_
    refine li_eq (st2 := [.int x]) rfl ?_
    refine li_istore (ls2 := [(10, .int x), (9, .int (nI kc)), (0, .ref (g.2.2.2.2.1 4)), (1, ml_rf g 0), (2, .int t), (3, .int tot), (4, .int n9), (5, .int rank), (6, .ref ia), (7, .ref sq), (8, .int (nI b))]) F dL_law_1001 (by decide) rfl ?_
    have tail : cn_J E g A 13 Q (k + 0 + 1 + 1) (n + 0 + 6 + 6) 1069 [(10, .int x), (9, .int (nI kc)), (0, .ref (g.2.2.2.2.1 4)), (1, ml_rf g 0), (2, .int t), (3, .int tot), (4, .int n9), (5, .int rank), (6, .ref ia), (7, .ref sq), (8, .int (nI b))] [] (ml_wm g M ++ X) := by
      refine li_iinc (q := 10) (v := (nI (b + 1))) (ls2 := [(8, .int (nI (b + 1))), (10, .int x), (9, .int (nI kc)), (0, .ref (g.2.2.2.2.1 4)), (1, ml_rf g 0), (2, .int t), (3, .int tot), (4, .int n9), (5, .int rank), (6, .ref ia), (7, .ref sq)]) F dL_law_1069 rfl (nI_i1 b) (by decide) rfl ?_
      refine li_goto (tgt := 978) F dL_law_1072 (by decide) ?_
      exact li_pick [3, 4, 5, 6, 7, 8, 9, 10, 0] rfl (li_wid (by omega) (by omega) (ih (b + 1) (k + 20) (n + 200) (by omega) (by omega) (by omega)))
    rcases hev with ⟨hk, z, hz, hx⟩ | ⟨hk, z, hz1, hz, hx⟩ | ⟨hk, z, hz1, hz, hx⟩
    · refine li_iload (q := 1) F dL_law_1003 rfl ?_
      refine li_bipush (v := 112) F dL_law_1005 (by decide) ?_
      refine li_icmp_neF (tgt := 1024) F dL_law_1007 (by decide) hk ?_
      refine li_iload (q := 0) F dL_law_1010 rfl ?_
      refine li_if_ltF (tgt := 1067) F dL_law_1012 (by decide) (by rw [hx]; exact nI_pos (by omega)) ?_
      refine li_iload (q := 0) F dL_law_1015 rfl ?_
      refine li_iconst (v := 3) F dL_law_1017 (by decide) ?_
      refine li_icmp_leT (tgt := 1069) F dL_law_1018 (by decide) (by rw [hx]; exact (nI_leI (b := 3) (by omega) (by decide)).mpr hz) ?_
      exact tail
    · refine li_iload (q := 1) F dL_law_1003 rfl ?_
      refine li_bipush (v := 112) F dL_law_1005 (by decide) ?_
      refine li_icmp_neT (tgt := 1024) F dL_law_1007 (by decide) (by rw [hk]; decide) ?_
      refine li_iload (q := 1) F dL_law_1024 rfl ?_
      refine li_bipush (v := 108) F dL_law_1026 (by decide) ?_
      refine li_icmp_neF (tgt := 1047) F dL_law_1028 (by decide) hk ?_
      refine li_iload (q := 0) F dL_law_1031 rfl ?_
      refine li_iconst (v := 1) F dL_law_1033 (by decide) ?_
      refine li_icmp_ltF (tgt := 1067) F dL_law_1034 (by decide) (by rw [hx]; exact fun z => by have := (nI_ltI (b := 1) (by omega) (by decide)).mp z; omega) ?_
      refine li_iload (q := 0) F dL_law_1037 rfl ?_
      refine li_bipush (v := 9) F dL_law_1039 (by decide) ?_
      refine li_icmp_leT (tgt := 1069) F dL_law_1041 (by decide) (by rw [hx]; exact (nI_leI (b := 9) (by omega) (by decide)).mpr hz) ?_
      exact tail
    · refine li_iload (q := 1) F dL_law_1003 rfl ?_
      refine li_bipush (v := 112) F dL_law_1005 (by decide) ?_
      refine li_icmp_neT (tgt := 1024) F dL_law_1007 (by decide) (by rw [hk]; decide) ?_
      refine li_iload (q := 1) F dL_law_1024 rfl ?_
      refine li_bipush (v := 108) F dL_law_1026 (by decide) ?_
      refine li_icmp_neT (tgt := 1047) F dL_law_1028 (by decide) (by rw [hk]; decide) ?_
      refine li_iload (q := 1) F dL_law_1047 rfl ?_
      refine li_bipush (v := 115) F dL_law_1049 (by decide) ?_
      refine li_icmp_neF (tgt := 1067) F dL_law_1051 (by decide) hk ?_
      refine li_iload (q := 0) F dL_law_1054 rfl ?_
      refine li_iconst (v := 1) F dL_law_1056 (by decide) ?_
      refine li_icmp_ltF (tgt := 1067) F dL_law_1057 (by decide) (by rw [hx]; exact fun z => by have := (nI_ltI (b := 1) (by omega) (by decide)).mp z; omega) ?_
      refine li_iload (q := 0) F dL_law_1060 rfl ?_
      refine li_bipush (v := 9) F dL_law_1062 (by decide) ?_
      refine li_icmp_leT (tgt := 1069) F dL_law_1064 (by decide) (by rw [hx]; exact (nI_leI (b := 9) (by omega) (by decide)).mpr hz) ?_
      exact tail
set_option maxRecDepth 100000 in
set_option maxHeartbeats 16000000 in
theorem w_u {E : ml_E} {g : ml_G} {A : Nat → Prop} {Q : State → Prop} (F : li_F E g A cL_law RL 13 100 877187 6469907 (some .boolean)) (hst : g.2.2.2.2.2.stackTraces = false) (hO : g.2.2.2.1 11 = g.2.2.2.1 9) {v o gg : Nat → Nat} {L : List fb} {nx c : Nat} {t ia sq tq i3 : Nat} {kz nz : Nat} (ht : t < 4) (hkz : kz ≤ 877187) (hnz : nz ≤ 6469907) (K : ∀ (M : ml_M), jI M → cn_J E g A 13 Q kz nz 15 [(0, .ref (g.2.2.2.2.1 4)), (1, ml_rf g 0), (2, .int (nI (t + 1)))] [] (ml_wm g M ++ [])) (k n : Nat) (M3 : ml_M) (X3 : va_W) (f3 : Nat → Int32) (hk : k + 4000 ≤ kz) (hn : n + 25000 ≤ nz) (hI : jI M3) (h : jS M3 v o gg L nx c) (hA : X3[i3]? = some (ia, .inl (g.2.2.1 0, 5, .inl f3))) (hf : ∀ q, q < 5 → f3 q = nI (cnt L q)) (hT : li_txt g X3 sq tq ((lvT v gg 5).map nI)) : cn_J E g A 13 Q k n 741 [(0, .ref (g.2.2.2.2.1 4)), (1, ml_rf g 0), (2, .int (nI t)), (3, .int (nI (sv v 5))), (4, .int (nI L.length)), (5, .int (nI 0)), (6, .ref ia), (7, .ref sq), (8, .int (nI L.length))] [] (ml_wm g M3 ++ X3) := by
  have hL8 := h.2.2.2.2.2.2.1
  have hc8 : c ≤ 8 := h.2.2.2.2.2.2.2.2.2.1
  have hsum := q_sum5 h
  refine li_iconst (v := (nI 0)) F dL_law_741 (by decide) ?_
  refine li_istore (ls2 := [(8, .int (nI 0)), (0, .ref (g.2.2.2.2.1 4)), (1, ml_rf g 0), (2, .int (nI t)), (3, .int (nI (sv v 5))), (4, .int (nI L.length)), (5, .int (nI 0)), (6, .ref ia), (7, .ref sq)]) F dL_law_742 (by decide) rfl ?_
  refine li_pick (ls2 := [(0, .ref (g.2.2.2.2.1 4)), (1, ml_rf g 0), (2, .int (nI t)), (3, .int (nI (sv v 5))), (4, .int (nI L.length)), (5, .int (nI (nlt (lk L) (0 * 16 + 0) L.length))), (6, .ref ia), (7, .ref sq), (8, .int (nI 0))]) [1, 2, 3, 4, 5, 6, 7, 8, 0] (by rw [show 0 * 16 + 0 = 0 from rfl, nlt_0]; rfl) ?_
  refine w_f (kz := k + 1000) (nz := n + 9000) F hst h (by omega) (by omega) ?_ 3 0 _ _ (by decide) (by omega) (by omega)
  refine li_iconst (v := (nI 0)) F dL_law_805 (by decide) ?_
  refine li_istore (ls2 := [(8, .int (nI 0)), (0, .ref (g.2.2.2.2.1 4)), (1, ml_rf g 0), (2, .int (nI t)), (3, .int (nI (sv v 5))), (4, .int (nI L.length)), (5, .int (nI (nlt (lk L) (3 * 16 + 0) L.length))), (6, .ref ia), (7, .ref sq)]) F dL_law_806 (by decide) rfl ?_
  refine li_pick (ls2 := [(0, .ref (g.2.2.2.2.1 4)), (1, ml_rf g 0), (2, .int (nI t)), (3, .int (nI (sv v 5))), (4, .int (nI L.length)), (5, .int (nI (nlt (lk L) (3 * 16 + 0) L.length))), (6, .ref ia), (7, .ref sq), (8, .int (nI 0))]) [1, 2, 3, 4, 5, 6, 7, 8, 0] rfl ?_
  refine w_h (kz := k + 1200) (nz := n + 11000) F hst h hA hf (by omega) (by omega) ?_ 5 0 _ _ (by decide) (by omega) (by omega)
  refine li_aload_n (q := 1) F dL_law_856 rfl rfl ?_
  refine li_callV (lv2 := 2) (mc2 := 0) (ms2 := 0) (av := []) (st := []) (r8 := (nI (sv v 5))) (M := M3) (M8 := M3) (X := X3) (kb := 0) (ci := 10) (T := TX6) (N := 9) F (pc0 g) li_noT rfl (fun _ => fX6_totalVolume_c M3 _ hst (q_total5 h)) wcX6_totalVolume mlL_212 wdX6_totalVolume (by decide) (by omega) (by omega) rfl seX6_totalVolume imX6_totalVolume rfl (Nat.le_of_ble_eq_true rfl) dL_law_857 ?_
  refine li_eq (st2 := [.int (nI (sv v 5))]) rfl ?_
  refine li_iload_n (q := 3) F dL_law_860 rfl rfl ?_
  refine li_icmp_neF (tgt := 973) F dL_law_861 (by decide) rfl ?_
  refine li_aload_n (q := 1) F dL_law_864 rfl rfl ?_
  refine li_callV (lv2 := 2) (mc2 := 0) (ms2 := 0) (av := []) (st := []) (r8 := (nI (sv v 5))) (M := M3) (M8 := M3) (X := X3) (kb := 0) (ci := 10) (T := TX6) (N := 9) F (pc0 g) li_noT rfl (fun _ => fX6_totalVolumeByAccounts_c M3 _ hst (q_accounts5 h)) wcX6_totalVolumeByAccounts mlL_215 wdX6_totalVolumeByAccounts (by decide) (by omega) (by omega) rfl seX6_totalVolumeByAccounts imX6_totalVolumeByAccounts rfl (Nat.le_of_ble_eq_true rfl) dL_law_865 ?_
  refine li_eq (st2 := [.int (nI (sv v 5))]) rfl ?_
  refine li_iload_n (q := 3) F dL_law_868 rfl rfl ?_
  refine li_icmp_neF (tgt := 973) F dL_law_869 (by decide) rfl ?_
  refine li_iload_n (q := 3) F dL_law_872 rfl rfl ?_
  refine li_sipush (v := 684) F dL_law_873 (by decide) ?_
  refine li_aload_n (q := 1) F dL_law_876 rfl rfl ?_
  refine li_callV (lv2 := 1) (mc2 := 0) (ms2 := 0) (av := []) (st := [.int 684, .int (nI (sv v 5))]) (r8 := (M3 (ml_fl 0 + 1) 5)) (M := M3) (M8 := M3) (X := X3) (kb := 0) (ci := 10) (T := TX6) (N := 9) F (pc0 g) li_noT rfl (fun _ => fX6_rainTotal_c M3 _ hst (rfl)) wcX6_rainTotal mlL_218 wdX6_rainTotal (by decide) (by omega) (by omega) rfl seX6_rainTotal imX6_rainTotal rfl (Nat.le_of_ble_eq_true rfl) dL_law_877 ?_
  refine li_eq (st2 := [.int (M3 (ml_fl 0 + 1) 5), .int 684, .int (nI (sv v 5))]) rfl ?_
  refine li_iadd (v := (684 + (M3 (ml_fl 0 + 1) 5))) F dL_law_880 rfl ?_
  refine li_aload_n (q := 1) F dL_law_881 rfl rfl ?_
  refine li_callV (lv2 := 1) (mc2 := 0) (ms2 := 0) (av := []) (st := [.int (684 + (M3 (ml_fl 0 + 1) 5)), .int (nI (sv v 5))]) (r8 := (M3 (ml_fl 0 + 1) 6)) (M := M3) (M8 := M3) (X := X3) (kb := 0) (ci := 10) (T := TX6) (N := 9) F (pc0 g) li_noT rfl (fun _ => fX6_drainTotal_c M3 _ hst (rfl)) wcX6_drainTotal mlL_221 wdX6_drainTotal (by decide) (by omega) (by omega) rfl seX6_drainTotal imX6_drainTotal rfl (Nat.le_of_ble_eq_true rfl) dL_law_882 ?_
  refine li_eq (st2 := [.int (M3 (ml_fl 0 + 1) 6), .int (684 + (M3 (ml_fl 0 + 1) 5)), .int (nI (sv v 5))]) rfl ?_
  refine li_isub (v := ((684 + (M3 (ml_fl 0 + 1) 5)) - (M3 (ml_fl 0 + 1) 6))) F dL_law_885 rfl ?_
  refine li_aload_n (q := 1) F dL_law_886 rfl rfl ?_
  refine li_callV (lv2 := 1) (mc2 := 0) (ms2 := 0) (av := []) (st := [.int ((684 + (M3 (ml_fl 0 + 1) 5)) - (M3 (ml_fl 0 + 1) 6)), .int (nI (sv v 5))]) (r8 := (M3 (ml_fl 0 + 1) 7)) (M := M3) (M8 := M3) (X := X3) (kb := 0) (ci := 10) (T := TX6) (N := 9) F (pc0 g) li_noT rfl (fun _ => fX6_spilledTotal_c M3 _ hst (rfl)) wcX6_spilledTotal mlL_224 wdX6_spilledTotal (by decide) (by omega) (by omega) rfl seX6_spilledTotal imX6_spilledTotal rfl (Nat.le_of_ble_eq_true rfl) dL_law_887 ?_
  refine li_eq (st2 := [.int (M3 (ml_fl 0 + 1) 7), .int ((684 + (M3 (ml_fl 0 + 1) 5)) - (M3 (ml_fl 0 + 1) 6)), .int (nI (sv v 5))]) rfl ?_
  refine li_isub (v := (((684 + (M3 (ml_fl 0 + 1) 5)) - (M3 (ml_fl 0 + 1) 6)) - (M3 (ml_fl 0 + 1) 7))) F dL_law_890 rfl ?_
  refine li_icmp_neF (tgt := 973) F dL_law_891 (by decide) (q_6845 h) ?_
  refine li_aload_n (q := 1) F dL_law_894 rfl rfl ?_
  refine li_callV (lv2 := 2) (mc2 := 0) (ms2 := 0) (av := []) (st := []) (r8 := 0) (M := M3) (M8 := (ml_w (ml_w M3 200 0 (nI (sv v 5))) 200 1 38)) (X := X3) (kb := 0) (ci := 10) (T := TX6) (N := 9) F (pc0 g) li_noT rfl (fun _ => fX6_meanLevel_c M3 _ hst (q_mean5 h)) wcX6_meanLevel mlL_227 wdX6_meanLevel (by decide) (by omega) (by omega) rfl seX6_meanLevel imX6_meanLevel rfl (Nat.le_of_ble_eq_true rfl) dL_law_895 ?_
  refine li_eq (st2 := [.float (FP.fdiv (FP.i2f (nI (sv v 5))) (FP.i2f 38))]) (by rw [w_un (show (0 : Nat) ≠ 1 by decide), w_at]; rfl) ?_
  refine li_iload_n (q := 3) F dL_law_898 rfl rfl ?_
  refine li_i2f F dL_law_899 ?_
  refine li_ldcf (v := 1108869120) F (ml_tb 1233 (by decide +kernel) rfl) dL_law_900 ?_
  refine li_fdiv F dL_law_902 (fp_m _ hsum) ?_
  have hI4 : jI (ml_w (ml_w M3 200 0 (nI (sv v 5))) 200 1 38) := hI.of (fun p hp => by rw [ml_w_ne (by omega), ml_w_ne (by omega)])
  have h4 : jS (ml_w (ml_w M3 200 0 (nI (sv v 5))) 200 1 38) v o gg L nx c := h.of (fun p _ _ => by rw [ml_w_ne (by omega), ml_w_ne (by omega)])
  generalize ((ml_w (ml_w M3 200 0 (nI (sv v 5))) 200 1 38) : ml_M) = M4 at hI4 h4 ⊢
  obtain ⟨M5, er, tM, hI5, h5⟩ := q_levels hI4 h4
  have hlen := lvT_len v gg 5
  have hlen5 : (lvT v gg 5).length ≤ 14 := hlen
  refine li_fcmp (v := 0) F dL_law_903 (fpc_m _ hsum) ?_
  refine li_if_neF (tgt := 973) F dL_law_904 (by decide) rfl ?_
  refine li_aload_n (q := 1) F dL_law_907 rfl rfl ?_
  refine li_callV (lv2 := 5) (mc2 := 0) (ms2 := 0) (av := []) (st := []) (r8 := 1) (M := M4) (M8 := M4) (X := X3) (kb := 0) (ci := 10) (T := TX6) (N := 9) F (pc0 g) li_noT rfl (fun _ => fX6_isConsistent_c M4 _ hst (q_consistent h4)) wcX6_isConsistent mlL_232 wdX6_isConsistent (by decide) (by omega) (by omega) rfl seX6_isConsistent imX6_isConsistent rfl (Nat.le_of_ble_eq_true rfl) dL_law_908 ?_
  refine li_eq (st2 := [.int 1]) rfl ?_
  refine li_if_eqF (tgt := 973) F dL_law_911 (by decide) (by decide) ?_
  refine li_aload_n (q := 1) F dL_law_914 rfl rfl ?_
  refine li_aload_n (q := 1) F dL_law_915 rfl rfl ?_
  refine li_callV (lv2 := 5) (mc2 := 0) (ms2 := 0) (av := []) (st := [ml_rf g 0]) (r8 := (nI (lvT v gg 5).length)) (M := M4) (M8 := M5) (X := X3) (kb := 0) (ci := 10) (T := TX6) (N := 9) F (pc0 g) li_noT rfl (fun _ => fX6_renderLevels_c M4 _ hO hst (er)) wcX6_renderLevels mlL_236 wdX6_renderLevels (by decide) (by omega) (by omega) rfl seX6_renderLevels imX6_renderLevels rfl (Nat.le_of_ble_eq_true rfl) dL_law_916 ?_
  refine li_eq (st2 := [.int (nI (lvT v gg 5).length), ml_rf g 0]) rfl ?_
  refine li_aload (q := 7) F dL_law_919 rfl ?_
  refine li_callS (lv2 := 6) (mc2 := 41) (ms2 := 246) (av := [ml_rf g 0, .int (nI (lvT v gg 5).length), .ref sq]) (st := []) (r8 := 1) (M := M5) (M8 := M5) (X := X3) F hT (fun B9 => fL_isLine_c (g := li_g0 g B9 sq tq _) 5 (nI (lvT v gg 5).length) M5 _ (by decide) hO hst (q_line (z := (g.1.2.1, fun i => if i = 5 then (lvT v gg 5).map nI else g.1.2.2 i)) tM (by omega) rfl)) wcL_isLine mlL_205 wdL_isLine (by decide) (by omega) (by omega) rfl stL_isLine rfl (Nat.le_of_ble_eq_true rfl) dL_law_921 ?_
  refine li_eq (st2 := [.int 1]) rfl ?_
  refine li_if_eqF (tgt := 973) F dL_law_924 (by decide) (by decide) ?_
  refine li_aload_n (q := 1) F dL_law_927 rfl rfl ?_
  refine li_iload (q := 4) F dL_law_928 rfl ?_
  refine li_callW (lv2 := 3) (mc2 := 1) (ms2 := 6) (av := [ml_rf g 0, .int (nI L.length)]) (st := []) (r8 := (-30000)) (M := M5) (M8 := M5) (X := X3) F li_noT (fun _ => fL_boatInOrder_c (nI L.length) M5 _ hst (q_orderN h5)) wcL_boatInOrder mlL_239 wdL_boatInOrder (by decide) (by omega) (by omega) rfl stL_boatInOrder rfl (Nat.le_of_ble_eq_true rfl) dL_law_930 ?_
  refine li_eq (st2 := [.int (-30000)]) rfl ?_
  refine li_sipush (v := (-30000)) F dL_law_933 (by decide) ?_
  refine li_icmp_neF (tgt := 973) F dL_law_936 (by decide) rfl ?_
  refine li_aload_n (q := 1) F dL_law_939 rfl rfl ?_
  refine li_iconst (v := 5) F dL_law_940 (by decide) ?_
  refine li_callW (lv2 := 5) (mc2 := 1) (ms2 := 6) (av := [ml_rf g 0, .int 5]) (st := []) (r8 := (-30000)) (M := M5) (M8 := M5) (X := X3) F li_noT (fun _ => fL_basinByLevel_c 5 M5 _ hst (q_rank5 h5)) wcL_basinByLevel mlL_241 wdL_basinByLevel (by decide) (by omega) (by omega) rfl stL_basinByLevel rfl (Nat.le_of_ble_eq_true rfl) dL_law_941 ?_
  refine li_eq (st2 := [.int (-30000)]) rfl ?_
  refine li_sipush (v := (-30000)) F dL_law_944 (by decide) ?_
  refine li_icmp_neF (tgt := 973) F dL_law_947 (by decide) rfl ?_
  refine li_aload_n (q := 1) F dL_law_950 rfl rfl ?_
  refine li_aload_n (q := 1) F dL_law_951 rfl rfl ?_
  refine li_callV (lv2 := 1) (mc2 := 0) (ms2 := 0) (av := []) (st := [ml_rf g 0]) (r8 := (nI c)) (M := M5) (M8 := M5) (X := X3) (kb := 0) (ci := 10) (T := TX6) (N := 9) F (pc0 g) li_noT rfl (fun _ => fX6_eventCount_c M5 _ hst (q_eventCount h5)) wcX6_eventCount mlL_243 wdX6_eventCount (by decide) (by omega) (by omega) rfl seX6_eventCount imX6_eventCount rfl (Nat.le_of_ble_eq_true rfl) dL_law_952 ?_
  refine li_eq (st2 := [.int (nI c), ml_rf g 0]) rfl ?_
  refine li_callW (lv2 := 4) (mc2 := 1) (ms2 := 6) (av := [ml_rf g 0, .int (nI c)]) (st := []) (r8 := (-30000)) (M := M5) (M8 := M5) (X := X3) F li_noT (fun _ => fL_eventKind_c (nI c) M5 _ hst (q_eventN h5)) wcL_eventKind mlL_246 wdL_eventKind (by decide) (by omega) (by omega) rfl stL_eventKind rfl (Nat.le_of_ble_eq_true rfl) dL_law_955 ?_
  refine li_eq (st2 := [.int (-30000)]) rfl ?_
  refine li_sipush (v := (-30000)) F dL_law_958 (by decide) ?_
  refine li_icmp_neF (tgt := 973) F dL_law_961 (by decide) rfl ?_
  refine li_aload_n (q := 1) F dL_law_964 rfl rfl ?_
  refine li_callV (lv2 := 1) (mc2 := 0) (ms2 := 0) (av := []) (st := []) (r8 := (nI c)) (M := M5) (M8 := M5) (X := X3) (kb := 0) (ci := 10) (T := TX6) (N := 9) F (pc0 g) li_noT rfl (fun _ => fX6_eventCount_c M5 _ hst (q_eventCount h5)) wcX6_eventCount mlL_243 wdX6_eventCount (by decide) (by omega) (by omega) rfl seX6_eventCount imX6_eventCount rfl (Nat.le_of_ble_eq_true rfl) dL_law_965 ?_
  refine li_eq (st2 := [.int (nI c)]) rfl ?_
  refine li_bipush (v := 8) F dL_law_968 (by decide) ?_
  refine li_icmp_leT (tgt := 975) F dL_law_970 (by decide) ((nI_leI (b := 8) (by omega) (by decide)).mpr hc8) ?_
  refine li_iconst (v := (nI 0)) F dL_law_975 (by decide) ?_
  refine li_istore (ls2 := [(8, .int (nI 0)), (0, .ref (g.2.2.2.2.1 4)), (1, ml_rf g 0), (2, .int (nI t)), (3, .int (nI (sv v 5))), (4, .int (nI L.length)), (5, .int (nI (nlt (lk L) (3 * 16 + 0) L.length))), (6, .ref ia), (7, .ref sq)]) F dL_law_976 (by decide) rfl ?_
  refine li_pick (ls2 := [(0, .ref (g.2.2.2.2.1 4)), (1, ml_rf g 0), (2, .int (nI t)), (3, .int (nI (sv v 5))), (4, .int (nI L.length)), (5, .int (nI (nlt (lk L) (3 * 16 + 0) L.length))), (6, .ref ia), (7, .ref sq), (8, .int (nI 0))]) [1, 2, 3, 4, 5, 6, 7, 8, 0] rfl ?_
  refine w_i (kz := k + 2000) (nz := n + 16000) F hst h5 (by omega) (by omega) ?_ c 0 _ _ (by omega) (by omega) (by omega)
  obtain ⟨r6, M6, ea, hI6⟩ := k_acts (g.1.2.1, fun i => if i = 5 then ml_sb g 0 else g.1.2.2 i) (k := 80 + 3 * t) (by omega) hI5
  refine li_aload_n (q := 1) F dL_law_1075 rfl rfl ?_
  refine li_aload_n (q := 0) F dL_law_1076 rfl rfl ?_
  refine li_bipush (v := 80) F dL_law_1077 (by decide) ?_
  refine li_iconst (v := 3) F dL_law_1079 (by decide) ?_
  refine li_iload_n (q := 2) F dL_law_1080 rfl rfl ?_
  refine li_imul (v := (nI (3 * t))) F dL_law_1081 (pk_mul 3 t) ?_
  refine li_iadd (v := (nI (80 + 3 * t))) F dL_law_1082 (nIl 80 (3 * t)) ?_
  refine li_callS (lv2 := 9) (mc2 := 7) (ms2 := 42) (av := [ml_rf g 0, .ref (g.2.2.2.2.1 4), .int (nI (80 + 3 * t))]) (st := []) (r8 := r6) (M := M5) (M8 := M6) (X := X3) F li_noT (fun B9 => fL_acts_c (g := li_g0 g B9 (g.2.2.2.2.1 10) (g.2.2.2.2.1 40) _) (nI (80 + 3 * t)) M5 _ hst (ea)) wcL_acts mlL_78 wdL_acts (by decide) (by omega) (by omega) rfl stL_acts rfl (Nat.le_of_ble_eq_true rfl) dL_law_1083 ?_
  refine li_eq (st2 := []) rfl ?_
  refine li_iinc (q := 2) (v := (nI (t + 1))) (ls2 := [(2, .int (nI (t + 1))), (0, .ref (g.2.2.2.2.1 4)), (1, ml_rf g 0), (3, .int (nI (sv v 5))), (4, .int (nI L.length)), (5, .int (nI (nlt (lk L) (3 * 16 + 0) L.length))), (6, .ref ia), (7, .ref sq), (8, .int (nI c))]) F dL_law_1086 rfl (nI_i1 t) (by decide) rfl ?_
  refine li_goto (tgt := 15) F dL_law_1089 (by decide) ?_
  exact li_pick [1, 2, 0] rfl (li_drop (li_wid (by omega) (by omega) (K M6 hI6)))
set_option maxRecDepth 100000 in
set_option maxHeartbeats 16000000 in
theorem w_t {E : ml_E} {g : ml_G} {A : Nat → Prop} {Q : State → Prop} (F : li_F E g A cL_law RL 13 100 877187 6469907 (some .boolean)) (hst : g.2.2.2.2.2.stackTraces = false) (hO : g.2.2.2.1 11 = g.2.2.2.1 9) (hsb : ml_sb g = st_sb) (hLO : li_O E) (K : ∀ (k n : Nat) (ls : List (Nat × Value)) (W : va_W), k ≤ 877187 → n ≤ 6469907 → cn_J E g A 13 Q k n 1093 ls [.int 1] W) : ∀ (s t k n : Nat) (M : ml_M), t + s = 4 → k + 13000 * s ≤ 877187 → n + 95000 * s ≤ 6469907 → jI M → cn_J E g A 13 Q k n 15 [(0, .ref (g.2.2.2.2.1 4)), (1, ml_rf g 0), (2, .int (nI t))] [] (ml_wm g M ++ []) := by
  intro s
  induction s with
  | zero =>
    intro t k n M hj hk hn hI
    have e : t = 4 := by omega
    subst e
    refine li_iload_n (q := 2) F dL_law_15 rfl rfl ?_
    refine li_iconst (v := 4) F dL_law_16 (by decide) ?_
    refine li_icmp_geT (tgt := 1092) F dL_law_17 (by decide) (by decide) ?_
    refine li_iconst (v := 1) F dL_law_1092 (by decide) ?_
    exact K _ _ _ _ (by omega) (by omega)
  | succ s ih =>
    intro t k n M hj hk hn hI
    obtain ⟨v, o, gg, L, nx, c, h⟩ := jS_of hI
    have hL8 := h.2.2.2.2.2.2.1
    have hc8 : c ≤ 8 := h.2.2.2.2.2.2.2.2.2.1
    obtain ⟨n3, N1, hn3, hN1, hN2⟩ : ∃ n3 N1, n + 30000 + 40000 ≤ n3 ∧ n3 + 25000 ≤ N1 ∧ N1 + 95000 * s ≤ 6469907 := by
      refine ⟨n + 70000, n + 95000, by rw [Nat.add_assoc]; exact Nat.add_le_add_left (by decide) n, by rw [Nat.add_assoc]; exact Nat.add_le_add_left (by decide) n, ?_⟩
      rw [Nat.mul_succ] at hn
      rw [Nat.add_assoc, Nat.add_comm 95000]
      exact hn
    clear hn
    refine li_iload_n (q := 2) F dL_law_15 rfl rfl ?_
    refine li_iconst (v := 4) F dL_law_16 (by decide) ?_
    refine li_icmp_geF (tgt := 1092) F dL_law_17 (by decide) (fun z => by have := (nI_leI (a := 4) (b := t) (by decide) (by omega)).mp z; omega) ?_
    refine li_iconst (v := (nI 0)) F dL_law_20 (by decide) ?_
    refine li_istore_n (ls2 := [(3, .int (nI 0)), (0, .ref (g.2.2.2.2.1 4)), (1, ml_rf g 0), (2, .int (nI t))]) F dL_law_21 rfl (by decide) rfl ?_
    refine li_aload_n (q := 2) F dL_law_22 rfl rfl ?_
    refine li_callV (lv2 := 1) (mc2 := 0) (ms2 := 0) (av := []) (st := []) (r8 := (nI L.length)) (M := M) (M8 := M) (X := []) (kb := 0) (ci := 10) (T := TX6) (N := 9) F (pc0 g) li_noT rfl (fun _ => fX6_boatCount_c M _ hst (q_boatCount h)) wcX6_boatCount mlL_82 wdX6_boatCount (by decide) (by omega) (by omega) rfl seX6_boatCount imX6_boatCount rfl (Nat.le_of_ble_eq_true rfl) dL_law_23 ?_
    refine li_eq (st2 := [.int (nI L.length)]) rfl ?_
    refine li_istore (ls2 := [(4, .int (nI L.length)), (3, .int (nI 0)), (0, .ref (g.2.2.2.2.1 4)), (1, ml_rf g 0), (2, .int (nI t))]) F dL_law_26 (by decide) rfl ?_
    refine li_iconst (v := (nI 0)) F dL_law_28 (by decide) ?_
    refine li_istore (ls2 := [(5, .int (nI 0)), (4, .int (nI L.length)), (3, .int (nI 0)), (0, .ref (g.2.2.2.2.1 4)), (1, ml_rf g 0), (2, .int (nI t))]) F dL_law_29 (by decide) rfl ?_
    refine li_iconst (v := 5) F dL_law_31 (by decide) ?_
    refine li_newa (t := 0) (N := 5) (ty := .int) F (5, .inl (fun _ => 0)) (ml_tb 87 (by decide +kernel) rfl) rfl rfl (fun cA => rfl) (by decide) (by decide) (by decide) (by omega) (by omega) dL_law_32 (fun ia => ?_)
    rw [List.append_nil]
    refine li_astore (ls2 := [(6, .ref ia), (5, .int (nI 0)), (4, .int (nI L.length)), (3, .int (nI 0)), (0, .ref (g.2.2.2.2.1 4)), (1, ml_rf g 0), (2, .int (nI t))]) F dL_law_34 (by decide) rfl ?_
    refine li_ldcS (i8 := 0) F rfl (by decide) dL_law_36 ?_
    refine li_astore (ls2 := [(7, .ref (g.2.2.2.2.1 (10 + 0))), (6, .ref ia), (5, .int (nI 0)), (4, .int (nI L.length)), (3, .int (nI 0)), (0, .ref (g.2.2.2.2.1 4)), (1, ml_rf g 0), (2, .int (nI t))]) F dL_law_38 (by decide) rfl ?_
    refine li_iconst (v := (nI 0)) F dL_law_40 (by decide) ?_
    refine li_istore (ls2 := [(8, .int (nI 0)), (7, .ref (g.2.2.2.2.1 (10 + 0))), (6, .ref ia), (5, .int (nI 0)), (4, .int (nI L.length)), (3, .int (nI 0)), (0, .ref (g.2.2.2.2.1 4)), (1, ml_rf g 0), (2, .int (nI t))]) F dL_law_41 (by decide) rfl ?_
    refine li_pick (ls2 := [(0, .ref (g.2.2.2.2.1 4)), (1, ml_rf g 0), (2, .int (nI t)), (3, .int (nI (sv v 0))), (4, .int (nI L.length)), (5, .int (nI 0)), (6, .ref ia), (7, .ref (g.2.2.2.2.1 (10 + 0))), (8, .int (nI 0))]) [6, 7, 8, 5, 4, 3, 2, 1, 0] rfl ?_
    refine w_a (kz := k + 2000) (nz := n + 16000) F hst hsb hLO (by omega) (by omega) (fun M1 X1 sq tq i hI h hT hA hS => ?_) 5 0 _ _ M _ _ (g.2.2.2.2.1 (40 + 0)) 0 (by decide) (by omega) (by omega) hI h (li_c (T := []) (i := 0) hsb (by decide) rfl) rfl (fun f => li_c (T := []) (i := 0) hsb (by decide) rfl)
    refine li_iconst (v := (nI 0)) F dL_law_268 (by decide) ?_
    refine li_istore (ls2 := [(8, .int (nI 0)), (0, .ref (g.2.2.2.2.1 4)), (1, ml_rf g 0), (2, .int (nI t)), (3, .int (nI (sv v 5))), (4, .int (nI L.length)), (5, .int (nI 0)), (6, .ref ia), (7, .ref sq)]) F dL_law_269 (by decide) rfl ?_
    refine li_pick (ls2 := [(0, .ref (g.2.2.2.2.1 4)), (1, ml_rf g 0), (2, .int (nI t)), (3, .int (nI (sv v 5))), (4, .int (nI L.length)), (5, .int (nI 0)), (6, .ref ia), (7, .ref sq), (8, .int (nI 0))]) [1, 2, 3, 4, 5, 6, 7, 8, 0] rfl ?_
    refine w_c (kz := k + 4000) (nz := n + 30000) F hst (by omega) (by omega) (fun M2 hI h => ?_) 4 0 _ _ M1 (by decide) (by omega) (by omega) hI h
    refine li_iconst (v := (nI 0)) F dL_law_496 (by decide) ?_
    refine li_istore (ls2 := [(8, .int (nI 0)), (0, .ref (g.2.2.2.2.1 4)), (1, ml_rf g 0), (2, .int (nI t)), (3, .int (nI (sv v 5))), (4, .int (nI L.length)), (5, .int (nI 0)), (6, .ref ia), (7, .ref sq)]) F dL_law_497 (by decide) rfl ?_
    refine li_pick (ls2 := [(0, .ref (g.2.2.2.2.1 4)), (1, ml_rf g 0), (2, .int (nI t)), (3, .int (nI (sv v 5))), (4, .int (nI L.length)), (5, .int (nI 0)), (6, .ref ia), (7, .ref sq), (8, .int (nI 0))]) [1, 2, 3, 4, 5, 6, 7, 8, 0] rfl ?_
    exact w_d (kz := k + 9000) (nz := n3) F hst hO hsb hLO (by omega) (by omega) (fun M3 X3 i3 f3 hI h hA hf hT => w_u (kz := k + 13000) (nz := N1) F hst hO (by omega) (by omega) (by omega) (fun M6 hI6 => ih (t + 1) (k + 13000) N1 M6 (by omega) (by omega) hN2 hI6) _ _ M3 X3 f3 (by omega) (by omega) hI h hA hf hT) L.length 0 _ _ M2 X1 i (fun _ => 0) (by omega) (by omega) (by omega) hI h hA (fun q hq => rfl) hT hS
set_option maxRecDepth 100000 in
set_option maxHeartbeats 8000000 in
theorem w_law (E : ml_E) (g : ml_G) (A : Nat → Prop) (Q : State → Prop) (hst : g.2.2.2.2.2.stackTraces = false) (hO : g.2.2.2.1 11 = g.2.2.2.1 9) (hsb : ml_sb g = st_sb) (F : li_F E g A cL_law RL 13 100 877187 6469907 (some .boolean)) (hLO : li_O E) (K : ∀ (k n : Nat) (ls : List (Nat × Value)) (W : va_W), k ≤ 877187 → n ≤ 6469907 → cn_J E g A 13 Q k n 1093 ls [.int 1] W) : cn_J E g A 13 Q 200 2000 8 [(1, ml_rf g 0), (0, .ref (g.2.2.2.2.1 4))] [] (ml_wm g ml_M0) := by
  rw [← List.append_nil (ml_wm g ml_M0)]
  obtain ⟨r, M1, eb, hI⟩ := k_build (g.1.2.1, fun i => if i = 5 then ml_sb g 0 else g.1.2.2 i) jI_M0
  refine li_aload_n (q := 0) F dL_law_8 rfl rfl ?_
  refine li_aload_n (q := 1) F dL_law_9 rfl rfl ?_
  refine li_callS (lv2 := 10) (mc2 := 369) (ms2 := 2214) (av := [ml_rf g 0, .ref (g.2.2.2.2.1 4)]) (st := []) (r8 := r) (M := ml_M0) (M8 := M1) (X := []) F li_noT (fun B9 => fL_build_c (g := li_g0 g B9 (g.2.2.2.2.1 10) (g.2.2.2.2.1 40) _) ml_M0 _ hst (eb)) wcL_build mlL_114 wdL_build (by decide) (by omega) (by omega) rfl stL_build rfl (Nat.le_of_ble_eq_true rfl) dL_law_10 ?_
  refine li_eq (st2 := []) rfl ?_
  refine li_iconst (v := (nI 0)) F dL_law_13 (by decide) ?_
  refine li_istore_n (ls2 := [(2, .int (nI 0)), (1, ml_rf g 0), (0, .ref (g.2.2.2.2.1 4))]) F dL_law_14 rfl (by decide) rfl ?_
  exact li_pick [2, 1, 0] rfl (w_t F hst hO hsb hLO K 4 0 _ _ M1 (by decide) (by decide) (by decide) hI)
