/-! THE BEGINNING: the construction, the memory that it leaves. -/
def li_O (E : ml_E) : Prop := match E with
  | (_, _, _, s, _, _, _, _, _) => va_AO "CanalLocks$Flight" s
theorem li_callC {E : ml_E} {g : ml_G} {A : Nat → Prop} {cc : ByteArray} {own : String} {nL lv mc ms : Nat} {ret : Option FieldType} {Q : State → Prop} {k n pc : Nat} {ls : List (Nat × Value)} {st : List Value} {y : MethodName} {yc : ByteArray} {yn lv2 mc2 ms2 z idx b : Nat} {e0 : va_E} {av : List Value} {L0 : va_W} {post : (Nat → Nat) → va_W} {stk : List Value} (F : li_F E g A cc own nL lv mc ms ret) (hO : li_O E) (hC : cn_C y yc yn lv2 mc2 ms2 g (.ref b :: av) b [(b, e0)] post) (W1 : ml_wc y yc yn none) (hlk2 : Cond.methodLink own idx y ∈ ml_all) (hwd : ml_wd y z) (hlv : lv2 < lv) (hk : k + mc2 ≤ mc) (hn2 : n + ms2 ≤ ms) (hz2 : av.length = z) (hnm : y.name = "<init>") (hins : Cond.instanceMethod y ∈ ml_all) (hstk : stk = av.reverse ++ .ref b :: st) (hroom : (st.map fun v => v.category).sum ≤ 8) (hd : decode cc pc = .ok (.invokespecial idx, 3)) (K : ∀ q : Nat → Nat, q 0 = b → cn_J E g A nL Q (k + mc2) (n + ms2) (pc + 3) ls (st) (L0 ++ post q)) : cn_J E g A nL Q (k) (n) (pc) ls (stk) (L0 ++ [(b, e0)]) := by
  obtain ⟨p, e, R, s, m, args, below, meth, c⟩ := E
  obtain ⟨⟨hx, hb, ht, ho, hm, hlk⟩, ⟨hK, hX, hz, hA, hA2⟩, ⟨hR1, hR2, hR3, hR4⟩, hret⟩ := F
  intro H locs la hP hD hS hl
  have hao : va_AO "CanalLocks$Flight" s := hO
  obtain ⟨hPc, hDc⟩ := cn_last hP hD
  have hFc : ∀ q, va_A [(b, e0)] H.size q → A q := by
    rintro q (⟨k2, e9, h3⟩ | h3)
    · exact hDc.2 k2 _ h3
    · exact hA q (Nat.le_trans hS.1 h3)
  refine va_callv (va_runI (As := av) (rest := st) ⟨hx, hb, hm, ho, ht⟩ (hC H.size) ⟨ml_cb ht W1 hlk2 hwd hR1 hR2 hlv, hnm, ht _ hins⟩ ⟨cn_blind, fun U hU hW => ⟨rfl, by rw [hU], by rw [hU]; exact hPc, va_K.moved hW.alike hK, hDc.weaken (fun _ _ _ h => hA2 _ h), fun q h9 => hz q (Nat.le_trans hS.1 h9), by rw [hU]; exact ml_X_to hW (cn_S hA2 hS) hX, va_AO.moved hW.alike hao⟩⟩ rfl hz2 hl.1 hstk (lv_room hroom) hd ⟨by omega, by omega⟩) hS (fun q _ h => hFc q h) hFc (fun q t H1 locs1 ht1 hvm hq0 hB hz1 hk1 hS1 => ?_)
  obtain ⟨hP1, hD1⟩ := hB
  rw [ht1] at hP1
  obtain ⟨hP9, hD9⟩ := cn_join hP hD hk1 hFc hP1 hD1
  exact K q hq0 H1 locs1 la hP9 hD9 hS1 hl
/-- the memory that the constructors leave -/
def ml_M0 : ml_M := fun k => if k = 0 then upd (upd (fun _ => 0) 7 (-1)) 8 (-1) else if 16 ≤ k ∧ k < 181 ∧ (k - 16) % 15 = 2 then upd (upd (upd (upd (upd (fun _ => 0) 0 300) 1 144) 2 108) 3 72) 4 60 else fun _ => 0
def st_idx (k : Nat) : Nat := if k = 0 then 0 else if k = 1 then 46 else if k = 2 then 47 else if k < 16 then k + 165 else if k < 61 then k - 15 else k - 13
def st_ad (q : Nat → Nat) : Nat → Nat := fun k => if k = 11 then q 174 else q (st_idx k)
def st_g (g : ml_G) (q : Nat → Nat) : ml_G := (g.1, g.2.1, g.2.2.1, st_ad q, g.2.2.2.2.1, g.2.2.2.2.2)
theorem st_spl {D : va_G} {cl : List vw_C} {A B : va_W} {H : Heap} (h : va_P D cl (A ++ B) H) : va_P D cl A H ∧ va_P D cl B H := ⟨fun k q hq => h k q (by rw [List.getElem?_append_left (List.getElem?_eq_some_iff.mp hq).1]; exact hq), fun k q hq => h (A.length + k) q (by rw [List.getElem?_append_right (by omega), show A.length + k - A.length = k by omega]; exact hq)⟩
set_option maxHeartbeats 4000000 in
theorem st_fl {g : ml_G} {f : Nat → Nat} {i : Nat} {H : Heap} (hi : i < 11) (had : ∀ j, j < 15 → g.2.2.2.1 (ml_fl i + j) = f j) (h : va_P g.2.1 vwCl (cn_pFlight g f) H) : ∀ o, o < 15 → va_at g.2.1 vwCl (g.2.2.2.1 (ml_fl i + o), ml_ct g (ml_fl i + o) (ml_M0 (ml_fl i + o))) H := by
  have hm : ∀ o, o < 15 → o ≠ 2 → ml_M0 (ml_fl i + o) = fun _ => 0 := by
    intro o ho h2
    unfold ml_M0 ml_fl
    rw [if_neg (by omega), if_neg (by omega)]
  have hm2 : ml_M0 (ml_fl i + 2) = upd (upd (upd (upd (upd (fun _ => 0) 0 300) 1 144) 2 108) 3 72) 4 60 := by
    unfold ml_M0 ml_fl
    rw [if_neg (by omega), if_pos ⟨by omega, by omega, by omega⟩]
  intro o ho
  rw [ml_ct_fl hi ho]
  rcases (show o = 0 ∨ o = 1 ∨ o = 2 ∨ o = 3 ∨ o = 4 ∨ o = 5 ∨ o = 6 ∨ o = 7 ∨ o = 8 ∨ o = 9 ∨ o = 10 ∨ o = 11 ∨ o = 12 ∨ o = 13 ∨ o = 14 by omega) with rfl | rfl | rfl | rfl | rfl | rfl | rfl | rfl | rfl | rfl | rfl | rfl | rfl | rfl | rfl
  · rw [hm 0 ho (by omega)]
    show va_at g.2.1 vwCl (g.2.2.2.1 (ml_fl i + 0), .inr (6, [.ref (g.2.2.2.1 (ml_fl i + 1)), .ref (g.2.2.2.1 (ml_fl i + 5)), .ref (g.2.2.2.1 (ml_fl i + 12)), .int 0])) H
    rw [had 0 ho, had 1 (by omega), had 5 (by omega), had 12 (by omega)]
    exact h 0 _ rfl
  · rw [hm 1 ho (by omega)]
    show va_at g.2.1 vwCl (g.2.2.2.1 (ml_fl i + 1), .inr (9, [.ref (g.2.2.2.1 (ml_fl i + 2)), .ref (g.2.2.2.1 (ml_fl i + 3)), .ref (g.2.2.2.1 (ml_fl i + 4)), .int 0, .int 0, .int 0, .int 0, .int 0])) H
    rw [had 1 ho, had 2 (by omega), had 3 (by omega), had 4 (by omega)]
    exact h 1 _ rfl
  · rw [hm2, had 2 ho]
    exact h 2 _ rfl
  · rw [hm 3 ho (by omega), had 3 ho]
    exact h 3 _ rfl
  · rw [hm 4 ho (by omega), had 4 ho]
    exact h 4 _ rfl
  · rw [hm 5 ho (by omega)]
    show va_at g.2.1 vwCl (g.2.2.2.1 (ml_fl i + 5), .inr (5, [.int 0, .int 0, .ref (g.2.2.2.1 (ml_fl i + 6)), .ref (g.2.2.2.1 (ml_fl i + 7)), .ref (g.2.2.2.1 (ml_fl i + 8)), .ref (g.2.2.2.1 (ml_fl i + 9)), .ref (g.2.2.2.1 (ml_fl i + 10)), .ref (g.2.2.2.1 (ml_fl i + 11))])) H
    rw [had 5 ho, had 6 (by omega), had 7 (by omega), had 8 (by omega), had 9 (by omega), had 10 (by omega), had 11 (by omega)]
    exact h 5 _ rfl
  · rw [hm 6 ho (by omega), had 6 ho]
    exact h 6 _ rfl
  · rw [hm 7 ho (by omega), had 7 ho]
    exact h 7 _ rfl
  · rw [hm 8 ho (by omega), had 8 ho]
    exact h 8 _ rfl
  · rw [hm 9 ho (by omega), had 9 ho]
    exact h 9 _ rfl
  · rw [hm 10 ho (by omega), had 10 ho]
    exact h 10 _ rfl
  · rw [hm 11 ho (by omega), had 11 ho]
    exact h 11 _ rfl
  · rw [hm 12 ho (by omega)]
    show va_at g.2.1 vwCl (g.2.2.2.1 (ml_fl i + 12), .inr (4, [.ref (g.2.2.2.1 (ml_fl i + 13)), .ref (g.2.2.2.1 (ml_fl i + 14)), .int 0, .int 0])) H
    rw [had 12 ho, had 13 (by omega), had 14 (by omega)]
    exact h 12 _ rfl
  · rw [hm 13 ho (by omega), had 13 ho]
    exact h 13 _ rfl
  · rw [hm 14 ho (by omega), had 14 ho]
    exact h 14 _ rfl
theorem st_arr8 {D : va_G} {cl : List vw_C} {a n : Nat} {cA : ClassId} {f f2 : Nat → Option Nat} {H : Heap} (hf : ∀ i, i < n → f i = f2 i) (h : va_at D cl (a, .inl (cA, n, .inr (.inr (.inr (.inr f))))) H) : va_at D cl (a, .inl (cA, n, .inr (.inr (.inr (.inr f2))))) H := by
  have h1 : H[a]? = some (arrV cA n (fun j => va_rf (f j))) := h
  have h2 : arrV cA n (fun j => va_rf (f j)) = arrV cA n (fun j => va_rf (f2 j)) := by
    unfold arrV
    congr 1
    apply Array.ext (by simp)
    intro i h8 h9
    simp at h8
    simp [hf i h8]
  exact h1.trans (congrArg some h2)
theorem st_h0 (q : Nat → Nat) : ∀ j, j < 15 → st_ad q (ml_fl 0 + j) = q (1 + j) := by
  intro j hj
  have e : st_idx (ml_fl 0 + j) = 1 + j := by
    unfold st_idx ml_fl
    rw [if_neg (by omega), if_neg (by omega), if_neg (by omega), if_neg (by omega), if_pos (by omega)]
    omega
  unfold st_ad
  rw [e]
  exact if_neg (by unfold ml_fl; omega)
theorem st_h1 (q : Nat → Nat) : ∀ j, j < 15 → st_ad q (ml_fl 1 + j) = q (16 + j) := by
  intro j hj
  have e : st_idx (ml_fl 1 + j) = 16 + j := by
    unfold st_idx ml_fl
    rw [if_neg (by omega), if_neg (by omega), if_neg (by omega), if_neg (by omega), if_pos (by omega)]
    omega
  unfold st_ad
  rw [e]
  exact if_neg (by unfold ml_fl; omega)
theorem st_h2 (q : Nat → Nat) : ∀ j, j < 15 → st_ad q (ml_fl 2 + j) = q (31 + j) := by
  intro j hj
  have e : st_idx (ml_fl 2 + j) = 31 + j := by
    unfold st_idx ml_fl
    rw [if_neg (by omega), if_neg (by omega), if_neg (by omega), if_neg (by omega), if_pos (by omega)]
    omega
  unfold st_ad
  rw [e]
  exact if_neg (by unfold ml_fl; omega)
theorem st_h3 (q : Nat → Nat) : ∀ j, j < 15 → st_ad q (ml_fl 3 + j) = q (48 + j) := by
  intro j hj
  have e : st_idx (ml_fl 3 + j) = 48 + j := by
    unfold st_idx ml_fl
    rw [if_neg (by omega), if_neg (by omega), if_neg (by omega), if_neg (by omega), if_neg (by omega)]
    omega
  unfold st_ad
  rw [e]
  exact if_neg (by unfold ml_fl; omega)
theorem st_h4 (q : Nat → Nat) : ∀ j, j < 15 → st_ad q (ml_fl 4 + j) = q (63 + j) := by
  intro j hj
  have e : st_idx (ml_fl 4 + j) = 63 + j := by
    unfold st_idx ml_fl
    rw [if_neg (by omega), if_neg (by omega), if_neg (by omega), if_neg (by omega), if_neg (by omega)]
    omega
  unfold st_ad
  rw [e]
  exact if_neg (by unfold ml_fl; omega)
theorem st_h5 (q : Nat → Nat) : ∀ j, j < 15 → st_ad q (ml_fl 5 + j) = q (78 + j) := by
  intro j hj
  have e : st_idx (ml_fl 5 + j) = 78 + j := by
    unfold st_idx ml_fl
    rw [if_neg (by omega), if_neg (by omega), if_neg (by omega), if_neg (by omega), if_neg (by omega)]
    omega
  unfold st_ad
  rw [e]
  exact if_neg (by unfold ml_fl; omega)
theorem st_h6 (q : Nat → Nat) : ∀ j, j < 15 → st_ad q (ml_fl 6 + j) = q (93 + j) := by
  intro j hj
  have e : st_idx (ml_fl 6 + j) = 93 + j := by
    unfold st_idx ml_fl
    rw [if_neg (by omega), if_neg (by omega), if_neg (by omega), if_neg (by omega), if_neg (by omega)]
    omega
  unfold st_ad
  rw [e]
  exact if_neg (by unfold ml_fl; omega)
theorem st_h7 (q : Nat → Nat) : ∀ j, j < 15 → st_ad q (ml_fl 7 + j) = q (108 + j) := by
  intro j hj
  have e : st_idx (ml_fl 7 + j) = 108 + j := by
    unfold st_idx ml_fl
    rw [if_neg (by omega), if_neg (by omega), if_neg (by omega), if_neg (by omega), if_neg (by omega)]
    omega
  unfold st_ad
  rw [e]
  exact if_neg (by unfold ml_fl; omega)
theorem st_h8 (q : Nat → Nat) : ∀ j, j < 15 → st_ad q (ml_fl 8 + j) = q (123 + j) := by
  intro j hj
  have e : st_idx (ml_fl 8 + j) = 123 + j := by
    unfold st_idx ml_fl
    rw [if_neg (by omega), if_neg (by omega), if_neg (by omega), if_neg (by omega), if_neg (by omega)]
    omega
  unfold st_ad
  rw [e]
  exact if_neg (by unfold ml_fl; omega)
theorem st_h9 (q : Nat → Nat) : ∀ j, j < 15 → st_ad q (ml_fl 9 + j) = q (138 + j) := by
  intro j hj
  have e : st_idx (ml_fl 9 + j) = 138 + j := by
    unfold st_idx ml_fl
    rw [if_neg (by omega), if_neg (by omega), if_neg (by omega), if_neg (by omega), if_neg (by omega)]
    omega
  unfold st_ad
  rw [e]
  exact if_neg (by unfold ml_fl; omega)
theorem st_h10 (q : Nat → Nat) : ∀ j, j < 15 → st_ad q (ml_fl 10 + j) = q (153 + j) := by
  intro j hj
  have e : st_idx (ml_fl 10 + j) = 153 + j := by
    unfold st_idx ml_fl
    rw [if_neg (by omega), if_neg (by omega), if_neg (by omega), if_neg (by omega), if_neg (by omega)]
    omega
  unfold st_ad
  rw [e]
  exact if_neg (by unfold ml_fl; omega)
set_option maxHeartbeats 8000000 in
set_option maxRecDepth 100000 in
theorem st_P {g : ml_G} {q : Nat → Nat} {H : Heap} (h : va_P g.2.1 vwCl (cn_pCL g q) H) : ml_P (st_g g q) ml_M0 H := by
  unfold cn_pCL cn_pHist cn_pFls at h
  obtain ⟨h, hsb⟩ := st_spl h
  obtain ⟨h, hsc⟩ := st_spl h
  obtain ⟨h, hh⟩ := st_spl h
  obtain ⟨h, f2⟩ := st_spl h
  obtain ⟨h, f1⟩ := st_spl h
  obtain ⟨hc, f0⟩ := st_spl h
  obtain ⟨hi, hh⟩ := st_spl hh
  obtain ⟨hh, f10⟩ := st_spl hh
  obtain ⟨hh, f9⟩ := st_spl hh
  obtain ⟨hh, f8⟩ := st_spl hh
  obtain ⟨hh, f7⟩ := st_spl hh
  obtain ⟨hh, f6⟩ := st_spl hh
  obtain ⟨hh, f5⟩ := st_spl hh
  obtain ⟨hh, f4⟩ := st_spl hh
  intro k c hk
  have hi9 := ml_wm_lt hk
  rw [ml_wm_ai hi9] at hk
  cases hk
  obtain ⟨hv, -⟩ := ml_pk_vp hi9
  generalize ml_pk k = k at hv ⊢
  by_cases hk16 : k < 16
  · rcases (show k = 0 ∨ k = 1 ∨ k = 2 ∨ k = 3 ∨ k = 4 ∨ k = 5 ∨ k = 6 ∨ k = 7 ∨ k = 8 ∨ k = 9 ∨ k = 10 by unfold ml_vp at hv; omega) with rfl | rfl | rfl | rfl | rfl | rfl | rfl | rfl | rfl | rfl | rfl
    · exact hc 0 _ rfl
    · exact hi 0 _ rfl
    · refine st_arr8 (fun i hi8 => ?_) (hi 1 _ rfl)
      rcases (show i = 0 ∨ i = 1 ∨ i = 2 ∨ i = 3 ∨ i = 4 ∨ i = 5 ∨ i = 6 ∨ i = 7 by omega) with rfl | rfl | rfl | rfl | rfl | rfl | rfl | rfl <;> rfl
    · exact hsc 0 _ rfl
    · exact hsc 1 _ rfl
    · exact hsc 2 _ rfl
    · exact hsc 3 _ rfl
    · exact hsc 4 _ rfl
    · exact hsc 5 _ rfl
    · exact hsb 0 _ rfl
    · exact hsb 1 _ rfl
  · obtain ⟨i, o, hi11, ho15, rfl⟩ : ∃ i o, i < 11 ∧ o < 15 ∧ k = ml_fl i + o := ⟨(k - 16) / 15, (k - 16) % 15, by unfold ml_vp at hv; omega, by omega, by unfold ml_fl; omega⟩
    rcases (show i = 0 ∨ i = 1 ∨ i = 2 ∨ i = 3 ∨ i = 4 ∨ i = 5 ∨ i = 6 ∨ i = 7 ∨ i = 8 ∨ i = 9 ∨ i = 10 by omega) with rfl | rfl | rfl | rfl | rfl | rfl | rfl | rfl | rfl | rfl | rfl
    · exact st_fl (g := st_g g q) (f := fun j => q (1 + j)) (by decide) (fun j hj => (st_h0 q j hj).trans (congrArg q (by omega))) f0 o ho15
    · exact st_fl (g := st_g g q) (f := fun j => q (16 + j)) (by decide) (fun j hj => (st_h1 q j hj).trans (congrArg q (by omega))) f1 o ho15
    · exact st_fl (g := st_g g q) (f := fun j => q (31 + j)) (by decide) (fun j hj => (st_h2 q j hj).trans (congrArg q (by omega))) f2 o ho15
    · exact st_fl (g := st_g g q) (f := fun j => q (46 + (2 + (0 + j)))) (by decide) (fun j hj => (st_h3 q j hj).trans (congrArg q (by omega))) hh o ho15
    · exact st_fl (g := st_g g q) (f := fun j => q (46 + (2 + (15 + j)))) (by decide) (fun j hj => (st_h4 q j hj).trans (congrArg q (by omega))) f4 o ho15
    · exact st_fl (g := st_g g q) (f := fun j => q (46 + (2 + (30 + j)))) (by decide) (fun j hj => (st_h5 q j hj).trans (congrArg q (by omega))) f5 o ho15
    · exact st_fl (g := st_g g q) (f := fun j => q (46 + (2 + (45 + j)))) (by decide) (fun j hj => (st_h6 q j hj).trans (congrArg q (by omega))) f6 o ho15
    · exact st_fl (g := st_g g q) (f := fun j => q (46 + (2 + (60 + j)))) (by decide) (fun j hj => (st_h7 q j hj).trans (congrArg q (by omega))) f7 o ho15
    · exact st_fl (g := st_g g q) (f := fun j => q (46 + (2 + (75 + j)))) (by decide) (fun j hj => (st_h8 q j hj).trans (congrArg q (by omega))) f8 o ho15
    · exact st_fl (g := st_g g q) (f := fun j => q (46 + (2 + (90 + j)))) (by decide) (fun j hj => (st_h9 q j hj).trans (congrArg q (by omega))) f9 o ho15
    · exact st_fl (g := st_g g q) (f := fun j => q (46 + (2 + (105 + j)))) (by decide) (fun j hj => (st_h10 q j hj).trans (congrArg q (by omega))) f10 o ho15
set_option maxHeartbeats 8000000 in
set_option maxRecDepth 100000 in
theorem st_adr (g : ml_G) (q : Nat → Nat) : (cn_pCL g q).map (fun c => c.1) = [q 0, q 1, q 2, q 3, q 4, q 5, q 6, q 7, q 8, q 9, q 10, q 11, q 12, q 13, q 14, q 15, q 16, q 17, q 18, q 19, q 20, q 21, q 22, q 23, q 24, q 25, q 26, q 27, q 28, q 29, q 30, q 31, q 32, q 33, q 34, q 35, q 36, q 37, q 38, q 39, q 40, q 41, q 42, q 43, q 44, q 45, q 46, q 47, q 48, q 49, q 50, q 51, q 52, q 53, q 54, q 55, q 56, q 57, q 58, q 59, q 60, q 61, q 62, q 63, q 64, q 65, q 66, q 67, q 68, q 69, q 70, q 71, q 72, q 73, q 74, q 75, q 76, q 77, q 78, q 79, q 80, q 81, q 82, q 83, q 84, q 85, q 86, q 87, q 88, q 89, q 90, q 91, q 92, q 93, q 94, q 95, q 96, q 97, q 98, q 99, q 100, q 101, q 102, q 103, q 104, q 105, q 106, q 107, q 108, q 109, q 110, q 111, q 112, q 113, q 114, q 115, q 116, q 117, q 118, q 119, q 120, q 121, q 122, q 123, q 124, q 125, q 126, q 127, q 128, q 129, q 130, q 131, q 132, q 133, q 134, q 135, q 136, q 137, q 138, q 139, q 140, q 141, q 142, q 143, q 144, q 145, q 146, q 147, q 148, q 149, q 150, q 151, q 152, q 153, q 154, q 155, q 156, q 157, q 158, q 159, q 160, q 161, q 162, q 163, q 164, q 165, q 166, q 167, q 168, q 169, q 170, q 171, q 172, q 173, q 174, q 175] := by rfl
set_option maxHeartbeats 8000000 in
set_option maxRecDepth 100000 in
theorem st_adr2 (q : Nat → Nat) : [q 0, q 1, q 2, q 3, q 4, q 5, q 6, q 7, q 8, q 9, q 10, q 11, q 12, q 13, q 14, q 15, q 16, q 17, q 18, q 19, q 20, q 21, q 22, q 23, q 24, q 25, q 26, q 27, q 28, q 29, q 30, q 31, q 32, q 33, q 34, q 35, q 36, q 37, q 38, q 39, q 40, q 41, q 42, q 43, q 44, q 45, q 46, q 47, q 48, q 49, q 50, q 51, q 52, q 53, q 54, q 55, q 56, q 57, q 58, q 59, q 60, q 61, q 62, q 63, q 64, q 65, q 66, q 67, q 68, q 69, q 70, q 71, q 72, q 73, q 74, q 75, q 76, q 77, q 78, q 79, q 80, q 81, q 82, q 83, q 84, q 85, q 86, q 87, q 88, q 89, q 90, q 91, q 92, q 93, q 94, q 95, q 96, q 97, q 98, q 99, q 100, q 101, q 102, q 103, q 104, q 105, q 106, q 107, q 108, q 109, q 110, q 111, q 112, q 113, q 114, q 115, q 116, q 117, q 118, q 119, q 120, q 121, q 122, q 123, q 124, q 125, q 126, q 127, q 128, q 129, q 130, q 131, q 132, q 133, q 134, q 135, q 136, q 137, q 138, q 139, q 140, q 141, q 142, q 143, q 144, q 145, q 146, q 147, q 148, q 149, q 150, q 151, q 152, q 153, q 154, q 155, q 156, q 157, q 158, q 159, q 160, q 161, q 162, q 163, q 164, q 165, q 166, q 167, q 168, q 169, q 170, q 171, q 172, q 173, q 174, q 175] = (List.range 176).map q := by rfl
theorem st_idx_lt {k : Nat} (h : ml_vp k) : st_idx k < 176 := by
  unfold ml_vp at h
  unfold st_idx
  repeat' split
  all_goals omega
theorem st_idx_inj {i j : Nat} (hi : ml_vp i) (hj : ml_vp j) (h : st_idx i = st_idx j) : i = j := by
  unfold ml_vp at hi hj
  unfold st_idx at h
  repeat' split at h
  all_goals omega
theorem st_D {A : Nat → Prop} {g : ml_G} {q : Nat → Nat} (h : va_D A (cn_pCL g q)) : va_D A (ml_wm (st_g g q) ml_M0) := by
  have at' : ∀ p, p < 176 → ∃ c : Nat × va_E, (cn_pCL g q)[p]? = some c ∧ c.1 = q p := by
    intro p hp
    have h1 : ((cn_pCL g q).map (fun c => c.1))[p]? = some (q p) := by
      rw [st_adr, st_adr2, List.getElem?_map, List.getElem?_range hp]
      rfl
    rw [List.getElem?_map] at h1
    cases hc : (cn_pCL g q)[p]? with
    | none => rw [hc] at h1; cases h1
    | some c => rw [hc] at h1; exact ⟨c, rfl, Option.some.inj h1⟩
  have key : ∀ (k : Nat) (c : Nat × va_E), (ml_wm (st_g g q) ml_M0)[k]? = some c → k < 176 ∧ c.1 = q (st_idx (ml_pk k)) := by
    intro k c hk
    have hk9 := ml_wm_lt hk
    rw [ml_wm_ai hk9] at hk
    cases hk
    refine ⟨hk9, ?_⟩
    have hv := (ml_pk_vp hk9).1
    unfold ml_vp at hv
    show (if ml_pk k = 11 then q 174 else q (st_idx (ml_pk k))) = _
    exact if_neg (by omega)
  refine ⟨fun i j x y hx hy e => ?_, fun k x hx => ?_⟩
  · obtain ⟨hi, ei⟩ := key i x hx
    obtain ⟨hj, ej⟩ := key j y hy
    obtain ⟨c1, g1, e1⟩ := at' _ (st_idx_lt (ml_pk_vp hi).1)
    obtain ⟨c2, g2, e2⟩ := at' _ (st_idx_lt (ml_pk_vp hj).1)
    have h3 := st_idx_inj (ml_pk_vp hi).1 (ml_pk_vp hj).1 (h.1 _ _ c1 c2 g1 g2 (by rw [e1, e2, ← ei, ← ej]; exact e))
    rw [← (ml_pk_vp hi).2, h3, (ml_pk_vp hj).2]
  · obtain ⟨hi, ei⟩ := key k x hx
    obtain ⟨c1, g1, e1⟩ := at' _ (st_idx_lt (ml_pk_vp hi).1)
    rw [ei, ← e1]
    exact h.2 _ c1 g1
set_option maxHeartbeats 4000000 in
set_option maxRecDepth 100000 in
/-- from the entry to the call of build -/
theorem st_build {E : ml_E} {g : ml_G} {A : Nat → Prop} {b : Nat} {mc ms : Nat} {Q : State → Prop} (hmc : 800000 ≤ mc) (hms : 6000000 ≤ ms) (F : li_F E g A cL_law RL 13 100 mc ms (some .boolean)) (hO : li_O E) (K : ∀ q : Nat → Nat, cn_J E g A 13 Q 200 2000 8 [(1, .ref (q 0)), (0, .ref b)] [] (cn_pCL g q)) : cn_J E g A 13 Q 0 0 0 [(0, .ref b)] [] [] := by
  refine li_new (ci := 10) (N := 9) (C := RX6) (T := TX6) (fs := [.null, .null, .null, .int 0, .null, .null, .null, .int 0, .int 0]) F tyX6 iaX6 tyX6_ok (ml_tb 30 (by decide +kernel) rfl) (ml_tb 31 (by decide +kernel) rfl) (ml_tb 1 (by decide +kernel) rfl) rfl (by decide) (by omega) (by omega) dL_law_0 (fun q0 => ?_)
  refine li_dup F dL_law_3 rfl ?_
  refine li_callC (st := [.ref q0]) (z := 0) (mc2 := 175) (ms2 := 1396) (lv2 := 4) (L0 := []) (post := cn_pCL g) (av := []) F hO (X6_init_k g _) ⟨ml_tb 34 (by decide +kernel) rfl, ml_tb 1 (by decide +kernel) rfl, by decide⟩ (ml_tb 32 (by decide +kernel) rfl) ⟨by decide +kernel, by decide +kernel, by decide +kernel⟩ (by decide) (by omega) (by omega) rfl rfl (ml_tb 33 (by decide +kernel) rfl) rfl (Nat.le_of_ble_eq_true rfl) dL_law_4 (fun q eq => ?_)
  subst eq
  refine li_astore_n (ls2 := [(1, .ref (q 0)), (0, .ref b)]) F dL_law_7 rfl (by decide) rfl ?_
  exact li_wid (k2 := 200) (n2 := 2000) (by decide) (by decide) (K q)
set_option maxHeartbeats 4000000 in
set_option maxRecDepth 100000 in
/-- the law comes to its end with true, where it does so from the call of build with the start memory -/
theorem st_whole {p : Program} {e : Env} {s : State} {m : MethodId} {below : List Frame} {meth : Method} {c : Code} (l : Launch) (hflags : l.flags = flags0) {b L : Nat} {xs : Nat → Int32} (C0 : lw_At p s m meth c b L xs)
    (go : ∀ (E : ml_E) (g : ml_G) (A : Nat → Prop) (Q : State → Prop), g.2.2.2.2.2.stackTraces = false → g.2.2.2.1 11 = g.2.2.2.1 9 → ml_sc g = (L, xs) → ml_sb g = st_sb → li_F E g A cL_law RL 13 100 877187 6469907 (some .boolean) → li_O E → (∀ (k n : Nat) (ls : List (Nat × Value)) (W : va_W), k ≤ 877187 → n ≤ 6469907 → cn_J E g A 13 Q k n 1093 ls [.int 1] W) → cn_J E g A 13 Q 200 2000 8 [(1, ml_rf g 0), (0, .ref (g.2.2.2.2.1 4))] [] (ml_wm g ml_M0)) : W p l e room_1 s m #[Value.ref b] below meth c s.heap [] 0 0 (lw_Z below #[Value.ref b] s) (entryFrame m ([Value.ref b] : List Value).toArray 13) := by
  obtain ⟨hx, hb, hr, hml, hown, hts, hX, hbl, hlocks, hgv⟩ := id C0
  have hst : l.stackTraces = false := by
    unfold Launch.stackTraces
    rw [hflags]
    decide
  have htb : ∀ w ∈ tables_1, w.before #[Value.ref b] s = true := fun w hw => hts w (List.mem_append_right _ hw)
  have hG : st_G b s := flat_of_before _ hgv
  have hall := st_all hts
  obtain ⟨D, cls, hK⟩ := st_K htb hall
  obtain ⟨sa, hsa, hXs⟩ := st_X (A := fun q : Nat => s.heap.size ≤ q) hX hbl hG htb (fun a h1 h2 => Nat.not_le.mpr h1 h2)
  subst hsa
  have hd0 := Drawn.sameBut.refl s.drawn lw_cs
  have hl := lv_entry ([.ref (sa 4)]) (n := 13) (Nat.le_of_ble_eq_true rfl)
  rw [lg_entry_eq]
  have hao : va_AO "CanalLocks$Flight" s := va_AO.of (htb (.arrayOver (.object "CanalLocks$Flight")) (List.mem_of_getElem? (i := 175) (by decide +kernel)))
  have FF : ∀ ad : Nat → Nat, li_F (p, e, room_1, s, m, #[Value.ref (sa 4)], below, meth, c) (((fun q : Nat => s.heap.size ≤ q), (L, xs), st_sb), D, cls, ad, sa, l) (fun q : Nat => s.heap.size ≤ q) cL_law RL 13 100 877187 6469907 (some .boolean) := fun ad => ⟨⟨hx, hb, hall, hown, hml, hlocks⟩, ⟨hK _ _ _ _, hXs _ _ _ _, fun _ h => h, fun _ h => h, fun _ h => h⟩, ⟨by decide, by decide, by decide, by decide⟩, hr⟩
  refine st_build (b := sa 4) (Q := lw_Z below #[Value.ref (sa 4)] s) (by decide) (by decide) (FF (fun _ => 0)) hao (fun q => ?_) s.heap [] _ (fun k q h => by simp at h) ⟨fun i j p q h => by simp at h, fun k q h => by simp at h⟩ va_S.rf hl
  intro H locs la hP hD hS hl
  have hP := st_P hP
  have hD := st_D hD
  refine go _ (st_g (((fun q : Nat => s.heap.size ≤ q), (L, xs), st_sb), D, cls, (fun _ => 0), sa, l) q) _ _ hst rfl rfl rfl (FF _) hao (fun k n ls Lw hk hn => ?_) H locs la hP hD hS hl
  intro H1 locs1 la1 hP1 hD1 hS1 hl1
  refine va_forget (fun q hq => hS1.2.2 q hq) ?_
  refine W.widen hk hn ?_
  exact lw_ret (d0 := s.drawn) hd0 hx hb hr hlocks dL_law_1093
