/-! A command joined; the whole script read. -/
def swC (M1 : ml_M) (v2 : Int32) : Option ml_R := (if v2 = 98 then ml_bd (fX4_readBoat M1) (fun r4 M5 => if narrow .boolean (.int r4) = .int r4 then some (.inl r4, M5) else none) else (if v2 = 100 then ml_bd (fX4_readWord 4 M1) (fun r8 M9 => ml_jn (fun (y10 : Int32) (M11 : ml_M) => if narrow .boolean (.int y10) = .int y10 then some (.inl y10, M11) else none) (fun B12 => (if r8 = 0 then B12 0 M9 else ml_bd (fX4_readFirst M9) (fun r15 M16 => (if r15 = 0 then B12 0 M16 else B12 1 M16))))) else (if v2 = 111 then ml_bd (fX4_readWord 1 M1) (fun r18 M19 => ml_jn (fun (y20 : Int32) (M21 : ml_M) => if narrow .boolean (.int y20) = .int y20 then some (.inl y20, M21) else none) (fun B22 => (if r18 = 0 then B22 0 M19 else ml_bd (fX4_readFirst M19) (fun r25 M26 => (if r25 = 0 then B22 0 M26 else B22 1 M26))))) else (if v2 = 114 then ml_bd (fX4_readWord 3 M1) (fun r28 M29 => ml_jn (fun (y30 : Int32) (M31 : ml_M) => if narrow .boolean (.int y30) = .int y30 then some (.inl y30, M31) else none) (fun B32 => (if r28 = 0 then B32 0 M29 else ml_bd (fX4_readFirst M29) (fun r35 M36 => (if r35 = 0 then B32 0 M36 else B32 1 M36))))) else (if v2 = 115 then ml_bd (fX4_readWord 2 M1) (fun r38 M39 => ml_jn (fun (y40 : Int32) (M41 : ml_M) => if narrow .boolean (.int y40) = .int y40 then some (.inl y40, M41) else none) (fun B42 => (if r38 = 0 then B42 0 M39 else ml_bd (fX4_readFirst M39) (fun r45 M46 => (if r45 = 0 then B42 0 M46 else B42 1 M46))))) else (if v2 = 118 then ml_bd (fX4_readValve M1) (fun r48 M49 => if narrow .boolean (.int r48) = .int r48 then some (.inl r48, M49) else none) else (if v2 = 119 then ml_bd (fX4_readWait M1) (fun r52 M53 => if narrow .boolean (.int r52) = .int r52 then some (.inl r52, M53) else none) else (some (.inl 0, M1)))))))))
theorem rcu {l k p : Nat} {t : Nat → Nat} {Mc : ml_M} (hT : tX l t) (h : cS l t k p Mc) (hp : p < l) (hk : k < 60) : fX4_readCommand Mc = swC (ml_w Mc 5 k (nI (t p))) (nI (t p)) := by
  have hl := hT.1
  have plt : nI p < nI l := (nI_ltI (by omega) (by omega)).mpr hp
  have okp : ml_ok (nI p) 60 := ok_nI (by omega) (by decide)
  have okk : ml_ok (nI k) 60 := ok_nI hk (by decide)
  have cp : (nI p).toNatClampNeg = p := nI_clamp (by omega)
  have ck : (nI k).toNatClampNeg = k := nI_clamp (by omega)
  have w34 : ∀ x, ml_w Mc 5 k x 3 4 = nI k := fun x => by rw [w_off (by omega)]; exact h.2.2.1
  unfold fX4_readCommand swC
  simp only [h.2.1, h.1.1, h.2.2.1, if_pos plt, if_pos okp, if_pos okk, cp, ck, h.1.2 p hp, lt_e, w34, w_at]
theorem rcx {l k p : Nat} {t : Nat → Nat} {Mc : ml_M} (hT : tX l t) (h : cS l t k p Mc) (hp : ¬ p < l) : fX4_readCommand Mc = some (.inl 0, Mc) := by
  have hl := hT.1
  have hpl := h.2.2.2
  unfold fX4_readCommand
  rw [h.2.1, h.1.1, if_neg (fun z => hp ((nI_ltI (by omega) (by omega)).mp z))]
theorem sel0 {x : Int32} (h1 : x ≠ 98) (h2 : x ≠ 118) (h3 : x ≠ 111) (h4 : x ≠ 115) (h5 : x ≠ 114) (h6 : x ≠ 100) (h7 : x ≠ 119) {A Z : Option ml_R} : (if x = 98 then A else (if x = 118 then A else (if x = 111 then A else (if x = 115 then A else (if x = 114 then A else (if x = 100 then A else (if x = 119 then A else Z))))))) = Z := by
  rw [if_neg h1, if_neg h2, if_neg h3, if_neg h4, if_neg h5, if_neg h6, if_neg h7]
theorem swx {M1 : ml_M} {x : Int32} (h1 : x ≠ 98) (h2 : x ≠ 118) (h3 : x ≠ 111) (h4 : x ≠ 115) (h5 : x ≠ 114) (h6 : x ≠ 100) (h7 : x ≠ 119) : swC M1 x = some (.inl 0, M1) := by
  unfold swC
  rw [if_neg h1, if_neg h6, if_neg h3, if_neg h5, if_neg h4, if_neg h2, if_neg h7]
theorem cmx {k p : Nat} {N : ml_M} {x : Int32} (rec : Int32 → Int32 → Int32 → ml_M → Option ml_R) (h10 : N 11 10 = nI p) (h1 : x ≠ 98) (h2 : x ≠ 118) (h3 : x ≠ 111) (h4 : x ≠ 115) (h5 : x ≠ 114) (h6 : x ≠ 100) (h7 : x ≠ 119) : fX7_command_s0 rec (nI (4 * k)) x (nI 4) N = some (.inl 0, rm N (p, false)) := by
  unfold fX7_command_s0
  rw [if_pos (show (4 : Int32) ≤ nI 4 by decide), jn_e, sel0 h1 h2 h3 h4 h5 h6 h7, lt_e, rm_f, ← h10, w_id]
theorem cS.w5 {l k p : Nat} {t : Nat → Nat} {M : ml_M} {x : Int32} (h : cS l t k p M) : cO M (ml_w M 5 k x) k p := ⟨by rw [w_off (by omega)]; exact h.2.1, fun a b x y => by rw [w_off (by omega)]⟩
/-- both read a command -/
theorem cmd {l k p : Nat} {t : Nat → Nat} {Mc Mm : ml_M} (hT : tX l t) (h : cS l t k p Mc) (hB : nB l t Mm) (hk : k < 60) (h15 : Mm 11 15 = nI k) (h10 : Mm 11 10 = nI p) : rs l t k p Mc Mm := by
  have hl := hT.1
  have hpl := h.2.2.2
  obtain ⟨N, rec, m1, m2, m3⟩ := cm_0 hT hB (by omega) h15 h10 hpl
  unfold rs
  rw [m3]
  by_cases hp : p < l
  · have h126 := (hT.2 p hp).2
    rw [rcu hT h hp hk, if_pos hp]
    have hS := h.wr (a := 5) (x := nI (t p)) (by decide)
    have hO := h.w5 (x := nI (t p))
    have ge1 : ∀ {c : Nat} {B : List Nat}, t p = c → p + 1 ≤ (wP l t (c :: B) p).1 := fun hc => by rw [wPc hp hc]; exact wP_ge _ _
    by_cases k98 : t p = 98
    · rw [k98] at hS hO ⊢
      obtain ⟨M', r1, r2, r3, r4⟩ := rb_o hT hk hS
      have le1 : (bq1 l t p).1 ≤ l := wP_le _ _ hpl
      have le5 : (bq5 l t p).1 ≤ l := go_le (go_le (go_le (go_le le1)))
      have ge5 : p + 1 ≤ (bq5 l t p).1 := Nat.le_trans (ge1 k98) (Nat.le_trans (gd_ge (fun _ => oP_ge)) (Nat.le_trans (gd_ge (fun _ => oP_ge)) (Nat.le_trans (gd_ge (fun _ => oP_ge)) (gd_ge (fun _ => oP_ge)))))
      have es : swC (ml_w Mc 5 k (nI 98)) (nI 98) = ml_bd (fX4_readBoat (ml_w Mc 5 k (nI 98))) (fun r4 M5 => if narrow .boolean (.int r4) = .int r4 then some (.inl r4, M5) else none) := rfl
      rw [es, r1, bd_e, nbb, cb_m rec hT m1.1 (by omega) m2 hp k98]
      refine ⟨M', _, (bq5 l t p).1, (bq5 l t p).2, rfl, rfl, le5, fun _ => ge5, hO.tr r2, (((m1.w (by omega)).w (by omega)).w (by omega)).w (by omega), fun o5 => ?_⟩
      obtain ⟨o4, i9⟩ := o_in (S := Wd 9) (q := bq4 l t p) o5
      obtain ⟨o3, -⟩ := o_in (S := Wd 8) (q := bq3 l t p) o4
      obtain ⟨o2, i7⟩ := o_in (S := Wd 7) (q := bq2 l t p) o3
      obtain ⟨o1, i6⟩ := o_in (S := Wd 6) (q := bq1 l t p) o2
      obtain ⟨v6, v7, v8⟩ := r4 o5
      refine Or.inl ⟨t (bq1 l t p).1, t (bq2 l t p).1 - 48, if t (bq4 l t p).1 = 100 then 1 else 0, by split <;> decide, ?_, v6, v7, v8, ?_, ?_, ?_, ?_⟩
      · rw [r3 5 k (by decide) (by decide) (by decide) (by decide), w_at]; rfl
      · rw [w_off (by omega), w_off (by omega), w_off (by omega), w_at]; rfl
      · rw [w_off (by omega), w_off (by omega), w_at]
        exact if_pos ⟨o1, i6⟩
      · rw [w_off (by omega), w_at, nvd1 o3]
      · rw [w_at]
        have e : ov9 l t (bq4 l t p) = if t (bq4 l t p).1 = 100 then 0 else 1 := if_pos ⟨o4, i9⟩
        rw [e]
        by_cases c : t (bq4 l t p).1 = 100
        · rw [if_pos c, if_pos c]; rfl
        · rw [if_neg c, if_neg c]; rfl
    by_cases k118 : t p = 118
    · rw [k118] at hS hO ⊢
      obtain ⟨M', r1, r2, r3, r4⟩ := rv_o hT hk hS
      have le1 : (vq1 l t p).1 ≤ l := wP_le _ _ hpl
      have le4 : (vq4 l t p).1 ≤ l := go_le (go_le (go_le le1))
      have ge4 : p + 1 ≤ (vq4 l t p).1 := Nat.le_trans (ge1 k118) (Nat.le_trans (gd_ge (fun _ => oP_ge)) (Nat.le_trans (gd_ge (fun _ => oP_ge)) (gd_ge (fun _ => oP_ge))))
      have es : swC (ml_w Mc 5 k (nI 118)) (nI 118) = ml_bd (fX4_readValve (ml_w Mc 5 k (nI 118))) (fun r48 M49 => if narrow .boolean (.int r48) = .int r48 then some (.inl r48, M49) else none) := rfl
      rw [es, r1, bd_e, nbb, cv_m rec hT m1.1 (by omega) m2 hp k118]
      refine ⟨M', _, (vq4 l t p).1, (vq4 l t p).2, rfl, rfl, le4, fun _ => ge4, hO.tr r2, ((m1.w (by omega)).w (by omega)).w (by omega), fun o4 => ?_⟩
      obtain ⟨o3, -⟩ := o_in (S := Wd 7) (q := vq3 l t p) o4
      obtain ⟨o2, -⟩ := o_in (S := Wd 8) (q := vq2 l t p) o3
      obtain ⟨v6, v7⟩ := r4 o4
      refine Or.inr (Or.inl ⟨?_, ?_, ?_, ?_⟩)
      · rw [r3 5 k (by decide) (by decide) (by decide) (by decide), w_at]; rfl
      · rw [w_off (by omega), w_off (by omega), w_at]; rfl
      · rw [w_off (by omega), w_at, nvd1 o2, v6]
      · rw [w_at, nvd1 o4, v7]
    by_cases k119 : t p = 119
    · rw [k119] at hS hO ⊢
      obtain ⟨M', r1, r2, r3, r4⟩ := rt_o hT hk hS
      have le1 : (wq1 l t p).1 ≤ l := wP_le _ _ hpl
      have g1 : p + 1 ≤ (wq1 l t p).1 := ge1 k119
      have both : (wq3 l t p).1 ≤ l ∧ p + 1 ≤ (wq3 l t p).1 := by
        unfold wq3
        split
        · unfold wq2
          split
          · rename_i c
            split
            · rename_i c2
              have := dn_le (l := l) (t := t) 3 ((wq1 l t p).1 + 1, 0) c.1
              exact ⟨this.1, Nat.le_trans (Nat.le_trans g1 (Nat.le_succ _)) this.2⟩
            · exact ⟨c.1, Nat.le_trans g1 (Nat.le_succ _)⟩
          · exact ⟨le1, g1⟩
        · exact ⟨le1, g1⟩
      have es : swC (ml_w Mc 5 k (nI 119)) (nI 119) = ml_bd (fX4_readWait (ml_w Mc 5 k (nI 119))) (fun r52 M53 => if narrow .boolean (.int r52) = .int r52 then some (.inl r52, M53) else none) := rfl
      rw [es, r1, bd_e, nbb, cw_m rec hT m1.1 (by omega) m2 hp k119]
      refine ⟨M', _, (wq3 l t p).1, (wq3 l t p).2, rfl, rfl, both.1, fun _ => both.2, hO.tr r2, (m1.w (by omega)).w (by omega), fun o3 => ?_⟩
      have ev : wV l t p = wv3 l t p := by
        unfold wq3 at o3
        by_cases o1 : (wq1 l t p).2 = true
        · rw [if_pos o1] at o3
          unfold wV wv3
          by_cases c : (wq1 l t p).1 < l ∧ t (wq1 l t p).1 ∈ Wd 8
          · rw [if_pos ⟨o1, c⟩, if_pos c]
            unfold wq2 at o3
            rw [if_pos c] at o3
            by_cases c2 : (wq1 l t p).1 + 1 < l ∧ t ((wq1 l t p).1 + 1) ∈ Wd 7
            · exact if_pos ⟨rfl, c2⟩
            · rw [if_neg c2] at o3
              cases o3
          · rw [if_neg (fun z => c z.2), if_neg c]
        · rw [if_neg o1] at o3
          exact absurd o3 o1
      refine Or.inr (Or.inr ⟨119, by omega, ?_, ?_, ?_⟩)
      · rw [r3 5 k (by decide) (by decide) (by decide) (by decide), w_at]
      · rw [w_off (by omega), w_at]
      · rw [w_at, ev, r4 o3]
    -- one number
    have single : ∀ (kd q : Nat) (qw : Nat × Bool), t p = kd → (kd = 111 ∨ kd = 115 ∨ kd = 114 ∨ kd = 100) → q < 12 → (∀ M1, swC M1 (nI kd) = ml_bd (fX4_readWord q M1) (fun r18 M19 => ml_jn (fun (y20 : Int32) (M21 : ml_M) => if narrow .boolean (.int y20) = .int y20 then some ((Sum.inl y20, M21) : ml_R) else none) (fun B22 => (if r18 = 0 then B22 0 M19 else ml_bd (fX4_readFirst M19) (fun r25 M26 => (if r25 = 0 then B22 0 M26 else B22 1 M26)))))) → qw.1 ≤ l → fX7_word (nI kd) (ml_w N 11 10 (N 11 10 + 1)) = some (.inl 0, rm N qw) → sq1 l t q p = gd (oP l t [32]) qw → p + 1 ≤ (sq1 l t q p).1 → ∃ (Mc' B : ml_M) (p' : Nat) (ok : Bool), swC (ml_w Mc 5 k (nI kd)) (nI kd) = some (.inl (b2 ok), Mc') ∧ fX7_command_s0 rec (nI (4 * k)) (nI kd) (nI 4) N = some (.inl 0, rm B (p', ok)) ∧ p' ≤ l ∧ (ok = true → p + 1 ≤ p') ∧ cO Mc Mc' k p' ∧ mO l t Mm B k ∧ (ok = true → cR Mc' B k) := by
      intro kd q qw hc hkd hq es qwl g0 b1 hge
      obtain ⟨M', r1, r2, r3, r4⟩ := rs_o hq hT hk (h.wr (a := 5) (x := nI kd) (by decide))
      have le1 : (sq1 l t q p).1 ≤ l := wP_le _ _ hpl
      rw [es, r1, cs_m rec hkd hT m1.1 (by omega) qwl g0 b1]
      refine ⟨M', _, (sq2 l t q p).1, (sq2 l t q p).2, rfl, rfl, go_le le1, fun _ => Nat.le_trans hge (gd_ge (fun _ => oP_ge)), (h.w5 (x := nI kd)).tr r2, (m1.w (by omega)).w (by omega), fun o2 => ?_⟩
      refine Or.inr (Or.inr ⟨kd, by omega, ?_, ?_, ?_⟩)
      · rw [r3 5 k (by decide) (by decide) (by decide) (by decide), w_at]
      · rw [w_off (by omega), w_at]
      · rw [w_at, nvd1 o2, r4 o2]
    have hp1 : (p + 1, true).1 ≤ l := hp
    have e10 : ml_w N 11 10 (N 11 10 + 1) = rm N (p + 1, true) := by rw [m2, nI_1]; rfl
    by_cases k111 : t p = 111
    · rw [k111]
      refine single 111 1 (gd (oP l t [110]) (gd (oP l t [101]) (gd (oP l t [112]) (p + 1, true)))) k111 (by omega) (by decide) (fun _ => rfl) (go_le (go_le (go_le hp1))) ?_ ?_ (ge1 k111)
      · have el : fX7_letters 112 101 110 (rm N (p + 1, true)) = _ := le_m (a := 112) (b := 101) (c := 110) hT m1.1 hp1 (by decide) (by decide) (by decide)
        have ew : ∀ M, fX7_word (nI 111) M = ml_bd (fX7_letters 112 101 110 M) (fun r M6 => some (.inl 0, M6)) := fun _ => rfl
        rw [e10, ew, el, bd_e]
      · unfold sq1
        show wP l t (111 :: [112, 101, 110, 32]) p = _
        rw [wPc hp k111, w4]
    by_cases k115 : t p = 115
    · rw [k115]
      refine single 115 2 (gd (oP l t [116]) (gd (oP l t [117]) (gd (oP l t [104]) (p + 1, true)))) k115 (by omega) (by decide) (fun _ => rfl) (go_le (go_le (go_le hp1))) ?_ ?_ (ge1 k115)
      · have el : fX7_letters 104 117 116 (rm N (p + 1, true)) = _ := le_m (a := 104) (b := 117) (c := 116) hT m1.1 hp1 (by decide) (by decide) (by decide)
        have ew : ∀ M, fX7_word (nI 115) M = ml_bd (fX7_letters 104 117 116 M) (fun r M6 => some (.inl 0, M6)) := fun _ => rfl
        rw [e10, ew, el, bd_e]
      · unfold sq1
        show wP l t (115 :: [104, 117, 116, 32]) p = _
        rw [wPc hp k115, w4]
    by_cases k114 : t p = 114
    · rw [k114]
      refine single 114 3 (gd (oP l t [110]) (gd (oP l t [105]) (gd (oP l t [97]) (p + 1, true)))) k114 (by omega) (by decide) (fun _ => rfl) (go_le (go_le (go_le hp1))) ?_ ?_ (ge1 k114)
      · have el : fX7_letters 97 105 110 (rm N (p + 1, true)) = _ := le_m (a := 97) (b := 105) (c := 110) hT m1.1 hp1 (by decide) (by decide) (by decide)
        have ew : ∀ M, fX7_word (nI 114) M = ml_bd (fX7_letters 97 105 110 M) (fun r M6 => some (.inl 0, M6)) := fun _ => rfl
        rw [e10, ew, el, bd_e]
      · unfold sq1
        show wP l t (114 :: [97, 105, 110, 32]) p = _
        rw [wPc hp k114, w4]
    by_cases k100 : t p = 100
    · rw [k100]
      refine single 100 4 (gd (oP l t [110]) (gd (oP l t [105]) (gd (oP l t [97]) (gd (oP l t [114]) (p + 1, true))))) k100 (by omega) (by decide) (fun _ => rfl) (go_le (go_le (go_le (go_le hp1)))) ?_ ?_ (ge1 k100)
      · have el : fX7_letters 114 97 105 (rm N (p + 1, true)) = _ := le_m (a := 114) (b := 97) (c := 105) hT m1.1 hp1 (by decide) (by decide) (by decide)
        have en : fX7_needs 110 (rm N (gd (oP l t [105]) (gd (oP l t [97]) (gd (oP l t [114]) (p + 1, true))))) = _ := ne (c := 110) hT m1.1 (go_le (go_le (go_le hp1))) (by decide)
        have ew : ∀ M, fX7_word (nI 100) M = ml_bd (fX7_letters 114 97 105 M) (fun r M9 => ml_bd (fX7_needs 110 M9) (fun r10 M11 => some (.inl 0, M11))) := fun _ => rfl
        rw [e10, ew, el, bd_e, en, bd_e]
      · unfold sq1
        show wP l t (100 :: [114, 97, 105, 110, 32]) p = _
        rw [wPc hp k100, w5]
    have nk : ∀ c, c < 128 → t p ≠ c → nI (t p) ≠ nI c := fun c hc hn z => hn ((nI_eq (by omega) (by omega)).mp z)
    rw [swx (nk 98 (by decide) k98) (nk 118 (by decide) k118) (nk 111 (by decide) k111) (nk 115 (by decide) k115) (nk 114 (by decide) k114) (nk 100 (by decide) k100) (nk 119 (by decide) k119), cmx rec m2 (nk 98 (by decide) k98) (nk 118 (by decide) k118) (nk 111 (by decide) k111) (nk 115 (by decide) k115) (nk 114 (by decide) k114) (nk 100 (by decide) k100) (nk 119 (by decide) k119)]
    exact ⟨_, N, p, false, rfl, rfl, hpl, fun z => (by cases z), hO, m1, fun z => (by cases z)⟩
  · rw [rcx hT h hp, if_neg hp, cmx rec m2 (by decide) (by decide) (by decide) (by decide) (by decide) (by decide) (by decide)]
    exact ⟨Mc, N, p, false, rfl, rfl, hpl, fun z => (by cases z), ⟨h.2.1, fun _ _ _ _ => rfl⟩, m1, fun z => (by cases z)⟩
