/-! The reference reads a command. -/
def nB (l : Nat) (t : Nat → Nat) (N : ml_M) : Prop := mX l t N ∧ N 11 11 = -1
theorem nB.w {l j : Nat} {t : Nat → Nat} {N : ml_M} {x : Int32} (h : nB l t N) : nB l t (ml_w N 15 j x) := ⟨h.1.w (by decide) (by omega), by rw [w_off (by omega)]; exact h.2⟩
theorem ne {l c : Nat} {t : Nat → Nat} {N : ml_M} {q : Nat × Bool} (hT : tX l t) (h : nB l t N) (hq : q.1 ≤ l) (hc : c < 128) : fX7_needs (nI c) (rm N q) = some (.inl 0, rm N (gd (oP l t [c]) q)) := ne_m hT h.1 h.2 hq hc
theorem go_le {l : Nat} {t : Nat → Nat} {S : List Nat} {q : Nat × Bool} (hq : q.1 ≤ l) : (gd (oP l t S) q).1 ≤ l := gd_le (fun _ h => oP_le h) hq
theorem le_m {l a b c : Nat} {t : Nat → Nat} {N : ml_M} {q : Nat × Bool} (hT : tX l t) (h : nB l t N) (hq : q.1 ≤ l) (ha : a < 128) (hb : b < 128) (hc : c < 128) : fX7_letters (nI a) (nI b) (nI c) (rm N q) = some (.inl 0, rm N (gd (oP l t [c]) (gd (oP l t [b]) (gd (oP l t [a]) q)))) := by
  unfold fX7_letters
  rw [ne hT h hq ha, bd_e, ne hT h (go_le hq) hb, bd_e, ne hT h (go_le (go_le hq)) hc, bd_e]
theorem wP1 {l c p : Nat} {t : Nat → Nat} : wP l t [c] p = oP l t [c] p := by
  show gd (wP l t []) (oP l t [c] p) = oP l t [c] p
  rcases oP l t [c] p with ⟨a, o⟩
  cases o <;> rfl
theorem wPs {l c p : Nat} {t : Nat → Nat} {A : List Nat} : wP l t (A ++ [c]) p = gd (oP l t [c]) (wP l t A p) := by
  rw [wP_app]
  unfold gd
  split
  · exact wP1
  · rfl
theorem w3 {l a b c p : Nat} {t : Nat → Nat} : wP l t [a, b, c] p = gd (oP l t [c]) (gd (oP l t [b]) (gd (oP l t [a]) (p, true))) := by
  show wP l t ([a, b] ++ [c]) p = _
  rw [wPs]
  show gd _ (wP l t ([a] ++ [b]) p) = _
  rw [wPs, wP1]
  rfl
theorem w4 {l a b c d p : Nat} {t : Nat → Nat} : wP l t [a, b, c, d] p = gd (oP l t [d]) (gd (oP l t [c]) (gd (oP l t [b]) (gd (oP l t [a]) (p, true)))) := by
  show wP l t ([a, b, c] ++ [d]) p = _
  rw [wPs, w3]
theorem w5 {l a b c d e p : Nat} {t : Nat → Nat} : wP l t [a, b, c, d, e] p = gd (oP l t [e]) (gd (oP l t [d]) (gd (oP l t [c]) (gd (oP l t [b]) (gd (oP l t [a]) (p, true))))) := by
  show wP l t ([a, b, c, d] ++ [e]) p = _
  rw [wPs, w4]
theorem wPc {l c p : Nat} {t : Nat → Nat} {B : List Nat} (hp : p < l) (hc : t p = c) : wP l t (c :: B) p = wP l t B (p + 1) := by
  show gd (wP l t B) (oP l t [c] p) = _
  rw [oP_t ⟨hp, by rw [hc]; exact List.mem_singleton.mpr rfl⟩]
  rfl
def nqd (l : Nat) (t : Nat → Nat) (d : Nat) (q : Nat × Bool) : Nat × Bool := if q.2 = true then (if q.1 < l ∧ t q.1 ∈ Wd 7 then ((dn l t d (q.1, 0)).1, true) else (q.1, false)) else q
def nvd (l : Nat) (t : Nat → Nat) (d : Nat) (q : Nat × Bool) : Nat := if q.2 = true ∧ (q.1 < l ∧ t q.1 ∈ Wd 7) then (dn l t d (q.1, 0)).2 else 0
theorem nm_m {l d : Nat} {t : Nat → Nat} {N : ml_M} {q : Nat × Bool} (hd : d ≤ 3) (hT : tX l t) (h : nB l t N) (hq : q.1 ≤ l) : fX7_number (nI d) (rm N q) = some (.inl (nI (nvd l t d q)), rm N (nqd l t d q)) := by
  have hl := hT.1
  unfold fX7_number
  rw [rm_11 h.2]
  by_cases o : q.2 = true
  · rw [if_pos o, if_pos (show (-1 : Int32) < 0 by decide), sg_p hT (rm_X h.1) rm_10 hq, bd_e, in_d hT, bd_e]
    by_cases c : q.1 < l ∧ t q.1 ∈ Wd 7
    · have e1 : nqd l t d q = ((dn l t d (q.1, 0)).1, true) := by unfold nqd; rw [if_pos o, if_pos c]
      have e2 : nvd l t d q = (dn l t d (q.1, 0)).2 := if_pos ⟨o, c⟩
      rw [if_pos c, if_1, e1, e2]
      have er : rm N q = rm N (q.1, true) := by unfold rm; rw [if_pos o]; rfl
      rw [er]
      exact nu_l hT h.1 (nI d) d hd d 0 ml_fuel (q.1, 0) (by omega) (by unfold ml_fuel; omega) hq
    · have e1 : nqd l t d q = (q.1, false) := by unfold nqd; rw [if_pos o, if_neg c]
      have e2 : nvd l t d q = 0 := if_neg (fun z => c z.2)
      rw [if_neg c, if_0, e1, e2, rm_10, lt_e, rm_er o]
      rfl
  · have e1 : nqd l t d q = q := if_neg o
    have e2 : nvd l t d q = 0 := if_neg (fun z => o z.1)
    rw [if_neg o, if_neg (n_neg1 (by omega)), e1, e2]
    rfl
theorem nqd1 {l : Nat} {t : Nat → Nat} {q : Nat × Bool} : nqd l t 1 q = gd (oP l t (Wd 7)) q := by
  unfold nqd gd oP
  by_cases o : q.2 = true
  · rw [if_pos o, if_pos o]
    by_cases c : q.1 < l ∧ t q.1 ∈ Wd 7
    · rw [if_pos c, if_pos c]
      show ((if q.1 < l ∧ t q.1 ∈ Wd 7 then _ else _ : Nat × Nat).1, true) = _
      rw [if_pos c]
      rfl
    · rw [if_neg c, if_neg c]
  · rw [if_neg o, if_neg o]
theorem nvd1 {l : Nat} {t : Nat → Nat} {q : Nat × Bool} (h : (gd (oP l t (Wd 7)) q).2 = true) : nvd l t 1 q = t q.1 - 48 := by
  unfold gd oP at h
  unfold nvd
  by_cases o : q.2 = true
  · rw [if_pos o] at h
    by_cases c : q.1 < l ∧ t q.1 ∈ Wd 7
    · rw [if_pos ⟨o, c⟩]
      show (if q.1 < l ∧ t q.1 ∈ Wd 7 then _ else _ : Nat × Nat).2 = _
      rw [if_pos c]
      show 10 * 0 + (t q.1 - 48) = _
      omega
    · rw [if_neg c] at h
      cases h
  · rw [if_neg o] at h
    exact absurd h o
def ov6 (l : Nat) (t : Nat → Nat) (q : Nat × Bool) : Int32 := if q.2 = true ∧ (q.1 < l ∧ t q.1 ∈ Wd 6) then cn (nI (t q.1)) else 0
def ov9 (l : Nat) (t : Nat → Nat) (q : Nat × Bool) : Int32 := if q.2 = true ∧ (q.1 < l ∧ t q.1 ∈ Wd 9) then (if t q.1 = 100 then 0 else 1) else 0
theorem m6 (c : Nat) : c ∈ Wd 6 ↔ c = 114 ∨ c = 103 ∨ c = 98 := by simp [Wd]
theorem m9 (c : Nat) : c ∈ Wd 9 ↔ c = 100 ∨ c = 117 := by simp [Wd]
theorem om6 {l : Nat} {t : Nat → Nat} {N : ml_M} {q : Nat × Bool} (hT : tX l t) (h : nB l t N) (hq : q.1 ≤ l) : fX7_oneOf 114 103 98 (rm N q) = some (.inl (ov6 l t q), rm N (gd (oP l t (Wd 6)) q)) := by
  have hl := hT.1
  unfold fX7_oneOf
  rw [rm_11 h.2]
  by_cases o : q.2 = true
  · rw [if_pos o, if_pos (show (-1 : Int32) < 0 by decide), sg_p hT (rm_X h.1) rm_10 hq, bd_e, jn_e, gq o]
    by_cases c1 : q.1 < l
    · have h126 := (hT.2 _ c1).2
      rw [if_pos c1]
      have q3 : rm N q 11 10 + 1 = nI (q.1 + 1) := by rw [rm_10, nI_1]
      by_cases d1 : t q.1 = 114
      · have c : q.1 < l ∧ t q.1 ∈ Wd 6 := ⟨c1, (m6 _).mpr (Or.inl d1)⟩
        have e2 : ov6 l t q = 0 := by unfold ov6; rw [if_pos ⟨o, c⟩, d1]; rfl
        rw [oP_t c, e2, if_pos (show nI (t q.1) = 114 from congrArg nI d1)]
        dsimp only
        rw [if_pos (by decide), q3, lt_e, rm_go o]
      · have n1 : ¬ nI (t q.1) = 114 := fun z => d1 ((nI_eq (b := 114) (by omega) (by decide)).mp z)
        rw [if_neg n1]
        by_cases d2 : t q.1 = 103
        · have c : q.1 < l ∧ t q.1 ∈ Wd 6 := ⟨c1, (m6 _).mpr (Or.inr (Or.inl d2))⟩
          have e2 : ov6 l t q = 1 := by unfold ov6; rw [if_pos ⟨o, c⟩, d2]; rfl
          rw [oP_t c, e2, if_pos (show nI (t q.1) = 103 from congrArg nI d2)]
          dsimp only
          rw [if_pos (by decide), q3, lt_e, rm_go o]
        · have n2 : ¬ nI (t q.1) = 103 := fun z => d2 ((nI_eq (b := 103) (by omega) (by decide)).mp z)
          rw [if_neg n2, if_neg (by decide)]
          by_cases d3 : t q.1 = 98
          · have c : q.1 < l ∧ t q.1 ∈ Wd 6 := ⟨c1, (m6 _).mpr (Or.inr (Or.inr d3))⟩
            have e2 : ov6 l t q = 2 := by unfold ov6; rw [if_pos ⟨o, c⟩, d3]; rfl
            rw [oP_t c, e2, if_pos (show nI (t q.1) = 98 from congrArg nI d3)]
            dsimp only
            rw [if_pos (by decide), q3, lt_e, rm_go o]
          · have n3 : ¬ nI (t q.1) = 98 := fun z => d3 ((nI_eq (b := 98) (by omega) (by decide)).mp z)
            have c : ¬ (q.1 < l ∧ t q.1 ∈ Wd 6) := fun z => by rcases (m6 _).mp z.2 with z | z | z; exact d1 z; exact d2 z; exact d3 z
            have e2 : ov6 l t q = 0 := if_neg (fun z => c z.2)
            rw [oP_f c, e2, if_neg n3]
            dsimp only
            rw [if_neg (by decide), rm_10, lt_e, rm_er o]
    · have c : ¬ (q.1 < l ∧ t q.1 ∈ Wd 6) := fun z => c1 z.1
      have e2 : ov6 l t q = 0 := if_neg (fun z => c z.2)
      rw [if_neg c1, oP_f c, e2, if_neg (by decide), if_neg (by decide), if_neg (by decide), if_neg (by decide)]
      dsimp only
      rw [if_neg (by decide), rm_10, lt_e, rm_er o]
  · have e2 : ov6 l t q = 0 := if_neg (fun z => o z.1)
    rw [if_neg o, if_neg (n_neg1 (by omega)), gn o, e2]
theorem om9 {l : Nat} {t : Nat → Nat} {N : ml_M} {q : Nat × Bool} (hT : tX l t) (h : nB l t N) (hq : q.1 ≤ l) : fX7_oneOf 100 117 0 (rm N q) = some (.inl (ov9 l t q), rm N (gd (oP l t (Wd 9)) q)) := by
  have hl := hT.1
  unfold fX7_oneOf
  rw [rm_11 h.2]
  by_cases o : q.2 = true
  · rw [if_pos o, if_pos (show (-1 : Int32) < 0 by decide), sg_p hT (rm_X h.1) rm_10 hq, bd_e, jn_e, gq o]
    by_cases c1 : q.1 < l
    · have h126 := (hT.2 _ c1).2
      rw [if_pos c1]
      have q3 : rm N q 11 10 + 1 = nI (q.1 + 1) := by rw [rm_10, nI_1]
      by_cases d1 : t q.1 = 100
      · have c : q.1 < l ∧ t q.1 ∈ Wd 9 := ⟨c1, (m9 _).mpr (Or.inl d1)⟩
        have e2 : ov9 l t q = 0 := by unfold ov9; rw [if_pos ⟨o, c⟩, if_pos d1]
        rw [oP_t c, e2, if_pos (show nI (t q.1) = 100 from congrArg nI d1)]
        dsimp only
        rw [if_pos (by decide), q3, lt_e, rm_go o]
      · have n1 : ¬ nI (t q.1) = 100 := fun z => d1 ((nI_eq (b := 100) (by omega) (by decide)).mp z)
        rw [if_neg n1]
        by_cases d2 : t q.1 = 117
        · have c : q.1 < l ∧ t q.1 ∈ Wd 9 := ⟨c1, (m9 _).mpr (Or.inr d2)⟩
          have e2 : ov9 l t q = 1 := by unfold ov9; rw [if_pos ⟨o, c⟩, if_neg d1]
          rw [oP_t c, e2, if_pos (show nI (t q.1) = 117 from congrArg nI d2)]
          dsimp only
          rw [if_pos (by decide), q3, lt_e, rm_go o]
        · have n2 : ¬ nI (t q.1) = 117 := fun z => d2 ((nI_eq (b := 117) (by omega) (by decide)).mp z)
          have c : ¬ (q.1 < l ∧ t q.1 ∈ Wd 9) := fun z => by rcases (m9 _).mp z.2 with z | z; exact d1 z; exact d2 z
          have e2 : ov9 l t q = 0 := if_neg (fun z => c z.2)
          rw [oP_f c, e2, if_neg n2, if_pos (by decide)]
          dsimp only
          rw [if_neg (by decide), rm_10, lt_e, rm_er o]
    · have c : ¬ (q.1 < l ∧ t q.1 ∈ Wd 9) := fun z => c1 z.1
      have e2 : ov9 l t q = 0 := if_neg (fun z => c z.2)
      rw [if_neg c1, oP_f c, e2, if_neg (by decide), if_neg (by decide), if_pos (by decide)]
      dsimp only
      rw [if_neg (by decide), rm_10, lt_e, rm_er o]
  · have e2 : ov9 l t q = 0 := if_neg (fun z => o z.1)
    rw [if_neg o, if_neg (n_neg1 (by omega)), gn o, e2]
/-- the row of a command, and where it ends -/
theorem x1s {k : Nat} (hk : k ≤ 60) : (ml_ok (nI (4 * k)) 244 ∧ (nI (4 * k)).toNatClampNeg = 4 * k) ∧ (nI (4 * k) + 1 = nI (4 * k + 1) ∧ ml_ok (nI (4 * k + 1)) 244 ∧ (nI (4 * k + 1)).toNatClampNeg = 4 * k + 1) ∧ (nI (4 * k) + 2 = nI (4 * k + 2) ∧ ml_ok (nI (4 * k + 2)) 244 ∧ (nI (4 * k + 2)).toNatClampNeg = 4 * k + 2) ∧ (nI (4 * k) + 3 = nI (4 * k + 3) ∧ ml_ok (nI (4 * k + 3)) 244 ∧ (nI (4 * k + 3)).toNatClampNeg = 4 * k + 3) :=
  ⟨⟨ok_nI (by omega) (by decide), nI_clamp (by omega)⟩, ⟨nI_add _ 1, ok_nI (by omega) (by decide), nI_clamp (by omega)⟩, ⟨nI_add _ 2, ok_nI (by omega) (by decide), nI_clamp (by omega)⟩, ⟨nI_add _ 3, ok_nI (by omega) (by decide), nI_clamp (by omega)⟩⟩
/-- the command boat -/
theorem cb_m {l k p : Nat} {t : Nat → Nat} {N : ml_M} (rec : Int32 → Int32 → Int32 → ml_M → Option ml_R) (hT : tX l t) (h : nB l t N) (hk : k ≤ 60) (h10 : N 11 10 = nI p) (hp : p < l) (hc : t p = 98) : fX7_command_s0 rec (nI (4 * k)) (nI 98) (nI 4) N = some (.inl 0, rm (ml_w (ml_w (ml_w (ml_w N 15 (4 * k) (nI 98)) 15 (4 * k + 1) (ov6 l t (bq1 l t p))) 15 (4 * k + 2) (nI (nvd l t 1 (bq2 l t p)))) 15 (4 * k + 3) (1 - ov9 l t (bq4 l t p))) (bq5 l t p)) := by
  obtain ⟨⟨k0, c0⟩, ⟨e1, k1, c1⟩, ⟨e2, k2, c2⟩, ⟨e3, k3, c3⟩⟩ := x1s hk
  have hp1 : (p + 1, true).1 ≤ l := hp
  have b1 : bq1 l t p = gd (oP l t [32]) (gd (oP l t [116]) (gd (oP l t [97]) (gd (oP l t [111]) (p + 1, true)))) := by
    unfold bq1
    show wP l t (98 :: [111, 97, 116, 32]) p = _
    rw [wPc hp hc, w4]
  have g0 : fX7_word (nI 98) (ml_w N 11 10 (N 11 10 + 1)) = some (.inl 0, rm N (gd (oP l t [116]) (gd (oP l t [97]) (gd (oP l t [111]) (p + 1, true))))) := by
    have e : ml_w N 11 10 (N 11 10 + 1) = rm N (p + 1, true) := by rw [h10, nI_1]; rfl
    have el : fX7_letters 111 97 116 (rm N (p + 1, true)) = _ := le_m (a := 111) (b := 97) (c := 116) hT h hp1 (by decide) (by decide) (by decide)
    unfold fX7_word
    rw [jn_e, if_pos (show nI 98 = 98 from rfl), e, el, bd_e]
  have q1 : (gd (oP l t [116]) (gd (oP l t [97]) (gd (oP l t [111]) (p + 1, true)))).1 ≤ l := go_le (go_le (go_le hp1))
  have q2 : (bq1 l t p).1 ≤ l := by rw [b1]; exact go_le q1
  have q3 : (bq2 l t p).1 ≤ l := go_le q2
  have q4 : (bq3 l t p).1 ≤ l := go_le q3
  have q5 : (bq4 l t p).1 ≤ l := go_le q4
  have s1 : fX7_needs 32 (rm (ml_w N 15 (4 * k) (nI 98)) (gd (oP l t [116]) (gd (oP l t [97]) (gd (oP l t [111]) (p + 1, true))))) = some (.inl 0, rm (ml_w N 15 (4 * k) (nI 98)) (bq1 l t p)) := by
    rw [b1]
    exact ne (c := 32) hT h.w q1 (by decide)
  have s2 := om6 (N := ml_w N 15 (4 * k) (nI 98)) hT h.w q2
  have s3 : fX7_number 1 (rm (ml_w (ml_w N 15 (4 * k) (nI 98)) 15 (4 * k + 1) (ov6 l t (bq1 l t p))) (bq2 l t p)) = some (.inl (nI (nvd l t 1 (bq2 l t p))), rm (ml_w (ml_w N 15 (4 * k) (nI 98)) 15 (4 * k + 1) (ov6 l t (bq1 l t p))) (bq3 l t p)) := by
    have e := nm_m (d := 1) (by decide) hT (h.w (j := 4 * k) (x := nI 98) |>.w (j := 4 * k + 1) (x := ov6 l t (bq1 l t p))) q3
    rw [nqd1] at e
    exact e
  have s4 : fX7_needs 32 (rm (ml_w (ml_w (ml_w N 15 (4 * k) (nI 98)) 15 (4 * k + 1) (ov6 l t (bq1 l t p))) 15 (4 * k + 2) (nI (nvd l t 1 (bq2 l t p)))) (bq3 l t p)) = some (.inl 0, rm (ml_w (ml_w (ml_w N 15 (4 * k) (nI 98)) 15 (4 * k + 1) (ov6 l t (bq1 l t p))) 15 (4 * k + 2) (nI (nvd l t 1 (bq2 l t p)))) (bq4 l t p)) := ne (c := 32) hT (h.w.w.w) q4 (by decide)
  have s5 := om9 (N := ml_w (ml_w (ml_w N 15 (4 * k) (nI 98)) 15 (4 * k + 1) (ov6 l t (bq1 l t p))) 15 (4 * k + 2) (nI (nvd l t 1 (bq2 l t p)))) hT (h.w.w.w) q5
  unfold fX7_command_s0
  rw [if_pos (show (4 : Int32) ≤ nI 4 by decide), jn_e, if_pos (show nI 98 = 98 from rfl)]
  dsimp only
  rw [lt_e, g0, bd_e, if_pos k0, c0, rm_w (by decide), lt_e, jn_e, if_pos (show nI 98 = 98 from rfl), s1, bd_e, s2, bd_e, e1, if_pos k1, c1, rm_w (by decide), lt_e]
  show ml_bd (fX7_number 1 (rm _ (bq2 l t p))) _ = _
  rw [s3, bd_e, e2, if_pos k2, c2, rm_w (by decide), lt_e, s4, bd_e, s5, bd_e, e3, if_pos k3, c3, rm_w (by decide), lt_e]
  rfl
