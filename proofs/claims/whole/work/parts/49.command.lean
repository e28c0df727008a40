/-! A command, read by both. -/
theorem beh {l d : Nat} {t : Nat → Nat} {N : ml_M} {q : Nat × Bool} (hd : d ≤ 3) (hT : tX l t) (h : nB l t N) (hq : q.1 ≤ l) : fX7_behind (nI d) (rm N q) = some (.inl (nI (nvd l t d (gd (oP l t [32]) q))), rm N (nqd l t d (gd (oP l t [32]) q))) := by
  have e : fX7_needs 32 (rm N q) = some (.inl 0, rm N (gd (oP l t [32]) q)) := ne (c := 32) hT h hq (by decide)
  unfold fX7_behind
  rw [e, bd_e, nm_m hd hT h (go_le hq), bd_e]
theorem sel {kd : Nat} (h : kd = 98 ∨ kd = 118 ∨ kd = 111 ∨ kd = 115 ∨ kd = 114 ∨ kd = 100 ∨ kd = 119) {A Z : Option ml_R} : (if nI kd = 98 then A else (if nI kd = 118 then A else (if nI kd = 111 then A else (if nI kd = 115 then A else (if nI kd = 114 then A else (if nI kd = 100 then A else (if nI kd = 119 then A else Z))))))) = A := by
  rcases h with rfl | rfl | rfl | rfl | rfl | rfl | rfl <;> rfl
/-- the command valve -/
theorem cv_m {l k p : Nat} {t : Nat → Nat} {N : ml_M} (rec : Int32 → Int32 → Int32 → ml_M → Option ml_R) (hT : tX l t) (h : nB l t N) (hk : k ≤ 60) (h10 : N 11 10 = nI p) (hp : p < l) (hc : t p = 118) : fX7_command_s0 rec (nI (4 * k)) (nI 118) (nI 4) N = some (.inl 0, rm (ml_w (ml_w (ml_w N 15 (4 * k) (nI 118)) 15 (4 * k + 1) (nI (nvd l t 1 (vq1 l t p)))) 15 (4 * k + 2) (nI (nvd l t 1 (vq3 l t p)))) (vq4 l t p)) := by
  obtain ⟨⟨k0, c0⟩, ⟨e1, k1, c1⟩, ⟨e2, k2, c2⟩, ⟨e3, k3, c3⟩⟩ := x1s hk
  have hp1 : (p + 1, true).1 ≤ l := hp
  obtain ⟨qw, hqw⟩ : ∃ z, z = gd (oP l t [101]) (gd (oP l t [118]) (gd (oP l t [108]) (gd (oP l t [97]) (p + 1, true)))) := ⟨_, rfl⟩
  have b1 : vq1 l t p = gd (oP l t [32]) qw := by
    unfold vq1
    show wP l t (118 :: [97, 108, 118, 101, 32]) p = _
    rw [wPc hp hc, w5, hqw]
  have qwl : qw.1 ≤ l := by rw [hqw]; exact go_le (go_le (go_le (go_le hp1)))
  have g0 : fX7_word (nI 118) (ml_w N 11 10 (N 11 10 + 1)) = some (.inl 0, rm N qw) := by
    have e : ml_w N 11 10 (N 11 10 + 1) = rm N (p + 1, true) := by rw [h10, nI_1]; rfl
    have el : fX7_letters 97 108 118 (rm N (p + 1, true)) = _ := le_m (a := 97) (b := 108) (c := 118) hT h hp1 (by decide) (by decide) (by decide)
    have en : fX7_needs 101 (rm N (gd (oP l t [118]) (gd (oP l t [108]) (gd (oP l t [97]) (p + 1, true))))) = some (.inl 0, rm N qw) := by
      rw [hqw]
      exact ne (c := 101) hT h (go_le (go_le (go_le hp1))) (by decide)
    have ew : fX7_word (nI 118) (ml_w N 11 10 (N 11 10 + 1)) = ml_bd (fX7_letters 97 108 118 (ml_w N 11 10 (N 11 10 + 1))) (fun r22 M23 => ml_bd (fX7_needs 101 M23) (fun r24 M25 => some (.inl 0, M25))) := rfl
    rw [ew, e, el, bd_e, en, bd_e]
  have q2 : (vq1 l t p).1 ≤ l := by rw [b1]; exact go_le qwl
  have q3 : (vq2 l t p).1 ≤ l := go_le q2
  have s1 : fX7_behind 1 (rm (ml_w N 15 (4 * k) (nI 118)) qw) = some (.inl (nI (nvd l t 1 (vq1 l t p))), rm (ml_w N 15 (4 * k) (nI 118)) (vq2 l t p)) := by
    have e := beh (d := 1) (N := ml_w N 15 (4 * k) (nI 118)) (by decide) hT h.w qwl
    rw [nqd1, ← b1] at e
    exact e
  have s2 : fX7_behind 1 (rm (ml_w (ml_w N 15 (4 * k) (nI 118)) 15 (4 * k + 1) (nI (nvd l t 1 (vq1 l t p)))) (vq2 l t p)) = some (.inl (nI (nvd l t 1 (vq3 l t p))), rm (ml_w (ml_w N 15 (4 * k) (nI 118)) 15 (4 * k + 1) (nI (nvd l t 1 (vq1 l t p)))) (vq4 l t p)) := by
    have e := beh (d := 1) (N := ml_w (ml_w N 15 (4 * k) (nI 118)) 15 (4 * k + 1) (nI (nvd l t 1 (vq1 l t p)))) (by decide) hT h.w.w q3
    rw [nqd1] at e
    exact e
  unfold fX7_command_s0
  rw [if_pos (show (4 : Int32) ≤ nI 4 by decide), jn_e, sel (Or.inr (Or.inl rfl)), lt_e, g0, bd_e, if_pos k0, c0, rm_w (by decide), lt_e, jn_e, if_neg (show ¬ nI 118 = 98 by decide), if_pos (show nI 118 = 118 from rfl), s1, bd_e, e1, if_pos k1, c1, rm_w (by decide), lt_e, s2, bd_e, e2, if_pos k2, c2, rm_w (by decide), lt_e]
/-- open, shut, rain, drain -/
theorem cs_m {l k p kd q : Nat} {t : Nat → Nat} {N : ml_M} {qw : Nat × Bool} (rec : Int32 → Int32 → Int32 → ml_M → Option ml_R) (hkd : kd = 111 ∨ kd = 115 ∨ kd = 114 ∨ kd = 100) (hT : tX l t) (h : nB l t N) (hk : k ≤ 60) (qwl : qw.1 ≤ l) (g0 : fX7_word (nI kd) (ml_w N 11 10 (N 11 10 + 1)) = some (.inl 0, rm N qw)) (b1 : sq1 l t q p = gd (oP l t [32]) qw) : fX7_command_s0 rec (nI (4 * k)) (nI kd) (nI 4) N = some (.inl 0, rm (ml_w (ml_w N 15 (4 * k) (nI kd)) 15 (4 * k + 1) (nI (nvd l t 1 (sq1 l t q p)))) (sq2 l t q p)) := by
  obtain ⟨⟨k0, c0⟩, ⟨e1, k1, c1⟩, ⟨e2, k2, c2⟩, ⟨e3, k3, c3⟩⟩ := x1s hk
  have s1 : fX7_behind 1 (rm (ml_w N 15 (4 * k) (nI kd)) qw) = some (.inl (nI (nvd l t 1 (sq1 l t q p))), rm (ml_w N 15 (4 * k) (nI kd)) (sq2 l t q p)) := by
    have e := beh (d := 1) (N := ml_w N 15 (4 * k) (nI kd)) (by decide) hT h.w qwl
    rw [nqd1, ← b1] at e
    exact e
  have n98 : ¬ nI kd = 98 := by rcases hkd with rfl | rfl | rfl | rfl <;> decide
  have n118 : ¬ nI kd = 118 := by rcases hkd with rfl | rfl | rfl | rfl <;> decide
  have n119 : ¬ nI kd = 119 := by rcases hkd with rfl | rfl | rfl | rfl <;> decide
  unfold fX7_command_s0
  rw [if_pos (show (4 : Int32) ≤ nI 4 by decide), jn_e, sel (by omega), lt_e, g0, bd_e, if_pos k0, c0, rm_w (by decide), lt_e, jn_e, if_neg n98, if_neg n118, if_neg n119, s1, bd_e, e1, if_pos k1, c1, rm_w (by decide), lt_e]
/-- the command wait -/
def wV (l : Nat) (t : Nat → Nat) (p : Nat) : Nat := if (wq1 l t p).2 = true ∧ ((wq1 l t p).1 < l ∧ t (wq1 l t p).1 ∈ Wd 8) then nvd l t 3 ((wq1 l t p).1 + 1, true) else 1
theorem m8 (c : Nat) : c ∈ Wd 8 ↔ c = 32 := by simp [Wd]
theorem cw_m {l k p : Nat} {t : Nat → Nat} {N : ml_M} (rec : Int32 → Int32 → Int32 → ml_M → Option ml_R) (hT : tX l t) (h : nB l t N) (hk : k ≤ 60) (h10 : N 11 10 = nI p) (hp : p < l) (hc : t p = 119) : fX7_command_s0 rec (nI (4 * k)) (nI 119) (nI 4) N = some (.inl 0, rm (ml_w (ml_w N 15 (4 * k) (nI 119)) 15 (4 * k + 1) (nI (wV l t p))) (wq3 l t p)) := by
  have hl := hT.1
  obtain ⟨⟨k0, c0⟩, ⟨e1, k1, c1⟩, ⟨e2, k2, c2⟩, ⟨e3, k3, c3⟩⟩ := x1s hk
  have hp1 : (p + 1, true).1 ≤ l := hp
  have b1 : wq1 l t p = gd (oP l t [116]) (gd (oP l t [105]) (gd (oP l t [97]) (p + 1, true))) := by
    unfold wq1
    show wP l t (119 :: [97, 105, 116]) p = _
    rw [wPc hp hc, w3]
  have g0 : fX7_word (nI 119) (ml_w N 11 10 (N 11 10 + 1)) = some (.inl 0, rm N (wq1 l t p)) := by
    have e : ml_w N 11 10 (N 11 10 + 1) = rm N (p + 1, true) := by rw [h10, nI_1]; rfl
    have el : fX7_letters 97 105 116 (rm N (p + 1, true)) = _ := le_m (a := 97) (b := 105) (c := 116) hT h hp1 (by decide) (by decide) (by decide)
    have ew : fX7_word (nI 119) (ml_w N 11 10 (N 11 10 + 1)) = ml_bd (fX7_letters 97 105 116 (ml_w N 11 10 (N 11 10 + 1))) (fun r26 M27 => some (.inl 0, M27)) := rfl
    rw [ew, e, el, bd_e, b1]
  have qwl : (wq1 l t p).1 ≤ l := by rw [b1]; exact go_le (go_le (go_le hp1))
  obtain ⟨N1, hN1⟩ : ∃ z, z = ml_w N 15 (4 * k) (nI 119) := ⟨_, rfl⟩
  have hb : nB l t N1 := by rw [hN1]; exact h.w
  unfold fX7_command_s0
  rw [if_pos (show (4 : Int32) ≤ nI 4 by decide), jn_e, sel (by omega), lt_e, g0, bd_e, if_pos k0, c0, rm_w (by decide), ← hN1, lt_e, jn_e, if_neg (show ¬ nI 119 = 98 by decide), if_neg (show ¬ nI 119 = 118 by decide), if_pos (show nI 119 = 119 from rfl), jn_e, rm_11 hb.2]
  have fin : ∀ (v : Nat) (q : Nat × Bool), (if ml_ok (nI (4 * k) + 1) 244 then ml_lt (ml_w (rm N1 q) 15 (nI (4 * k) + 1).toNatClampNeg (nI v)) (fun M36 => some ((Sum.inl 0, M36) : ml_R)) else none) = some (.inl 0, rm (ml_w N1 15 (4 * k + 1) (nI v)) q) := fun v q => by
    rw [e1, if_pos k1, c1, rm_w (by decide), lt_e]
  by_cases o1 : (wq1 l t p).2 = true
  · have e3 : wq3 l t p = wq2 l t p := if_pos o1
    rw [if_pos o1, if_neg (show ¬ (0 : Int32) ≤ -1 by decide), sg_p hT (rm_X hb.1) rm_10 qwl, bd_e]
    by_cases c : (wq1 l t p).1 < l ∧ t (wq1 l t p).1 ∈ Wd 8
    · have t32 := (m8 _).mp c.2
      have eg : gd (oP l t [32]) (wq1 l t p) = ((wq1 l t p).1 + 1, true) := by
        rw [gq o1, oP_t ⟨c.1, by rw [t32]; exact List.mem_singleton.mpr rfl⟩]
      have es : fX7_behind 3 (rm N1 (wq1 l t p)) = some (.inl (nI (nvd l t 3 ((wq1 l t p).1 + 1, true))), rm N1 (nqd l t 3 ((wq1 l t p).1 + 1, true))) := by
        have e := beh (d := 3) (by decide) hT hb qwl
        rw [eg] at e
        exact e
      have e2 : wq2 l t p = nqd l t 3 ((wq1 l t p).1 + 1, true) := by
        unfold wq2 nqd
        rw [if_pos c, if_pos rfl]
      have ev : wV l t p = nvd l t 3 ((wq1 l t p).1 + 1, true) := if_pos ⟨o1, c⟩
      rw [if_pos c.1, if_pos (show nI (t (wq1 l t p).1) = 32 from congrArg nI t32), es, bd_e, e3, e2, ev]
      exact fin _ _
    · have e2 : wq2 l t p = wq1 l t p := if_neg c
      have ev : wV l t p = 1 := if_neg (fun z => c z.2)
      have nr : ¬ (if (wq1 l t p).1 < l then nI (t (wq1 l t p).1) else -1) = 32 := by
        by_cases c1 : (wq1 l t p).1 < l
        · have h126 := (hT.2 _ c1).2
          rw [if_pos c1]
          exact fun z => c ⟨c1, (m8 _).mpr ((nI_eq (b := 32) (by omega) (by decide)).mp z)⟩
        · rw [if_neg c1]
          decide
      rw [if_neg nr, e3, e2, ev]
      exact fin 1 _
  · have e3 : wq3 l t p = wq1 l t p := if_neg o1
    have ev : wV l t p = 1 := if_neg (fun z => o1 z.1)
    rw [if_neg o1, if_pos (nI_pos' (by omega)), e3, ev]
    exact fin 1 _
/-- four zeros first -/
def Z4 (M : ml_M) (k : Nat) : ml_M := ml_w (ml_w (ml_w (ml_w M 15 (4 * k) 0) 15 (4 * k + 1) 0) 15 (4 * k + 2) 0) 15 (4 * k + 3) 0
theorem z4_l {k n : Nat} (hk : k ≤ 60) (x2 : Int32) (M : ml_M) : fX7_command_l (n + 5) (nI (4 * k)) x2 0 M = fX7_command_s0 (fX7_command_l n) (nI (4 * k)) x2 (nI 4) (Z4 M k) := by
  have st : ∀ (j m : Nat) (N : ml_M), j < 4 → fX7_command_l (m + 1) (nI (4 * k)) x2 (nI j) N = fX7_command_l m (nI (4 * k)) x2 (nI (j + 1)) (ml_w N 15 (4 * k + j) 0) := by
    intro j m N hj
    show fX7_command_s0 (fX7_command_l m) (nI (4 * k)) x2 (nI j) N = _
    unfold fX7_command_s0
    rw [if_neg (show ¬ (4 : Int32) ≤ nI j from fun z => by have := (nI_leI (a := 4) (by decide) (by omega)).mp z; omega), nI_add, if_pos (ok_nI (by omega) (by decide)), nI_clamp (by omega), lt_e, nI_1]
  exact (st 0 (n + 4) M (by decide)).trans ((st 1 (n + 3) _ (by decide)).trans ((st 2 (n + 2) _ (by decide)).trans (st 3 (n + 1) _ (by decide))))
def mO (l : Nat) (t : Nat → Nat) (Mm B : ml_M) (k : Nat) : Prop := nB l t B ∧ B 11 15 = nI (k + 1) ∧ ∀ a b, ¬ (a = 11 ∧ b = 15) → ¬ (a = 15 ∧ 4 * k ≤ b ∧ b < 4 * k + 4) → B a b = Mm a b
theorem mO.w {l k j : Nat} {t : Nat → Nat} {Mm B : ml_M} {x : Int32} (h : mO l t Mm B k) (hj : 4 * k ≤ j ∧ j < 4 * k + 4) : mO l t Mm (ml_w B 15 j x) k := ⟨h.1.w, by rw [w_off (by omega)]; exact h.2.1, fun a b x y => by rw [w_off (by omega)]; exact h.2.2 a b x y⟩
theorem cm_0 {l k p : Nat} {t : Nat → Nat} {Mm : ml_M} (hT : tX l t) (h : nB l t Mm) (hk : k ≤ 60) (h15 : Mm 11 15 = nI k) (h10 : Mm 11 10 = nI p) (hp : p ≤ l) : ∃ N rec, mO l t Mm N k ∧ N 11 10 = nI p ∧ fX7_command Mm = fX7_command_s0 rec (nI (4 * k)) (if p < l then nI (t p) else -1) (nI 4) N := by
  obtain ⟨zf, hzf⟩ : ∃ z, ml_fuel = z + 5 := ⟨ml_fuel - 5, by unfold ml_fuel; omega⟩
  have b0 : mO l t Mm (ml_w Mm 11 15 (nI (k + 1))) k := ⟨⟨h.1.w (by decide) (by decide), by rw [w_off (by omega)]; exact h.2⟩, w_at, fun a b x y => by rw [w_off x]⟩
  have e4 : (4 : Int32) * nI k = nI (4 * k) := pk_mul 4 k
  refine ⟨Z4 (ml_w Mm 11 15 (nI (k + 1))) k, fX7_command_l zf, (((b0.w (by omega)).w (by omega)).w (by omega)).w (by omega), ?_, ?_⟩
  · unfold Z4
    rw [w_off (by omega), w_off (by omega), w_off (by omega), w_off (by omega), w_off (by omega)]
    exact h10
  · unfold fX7_command
    rw [h15, e4, lt_e, nI_1, lt_e, sg_p hT b0.1.1 (by rw [w_off (by omega)]; exact h10) hp, bd_e, hzf, z4_l hk]
theorem dn_le {l : Nat} {t : Nat → Nat} : ∀ (r : Nat) (s : Nat × Nat), s.1 ≤ l → (dn l t r s).1 ≤ l ∧ s.1 ≤ (dn l t r s).1 := by
  intro r
  induction r with
  | zero => intro s h; exact ⟨h, Nat.le_refl _⟩
  | succ r ih =>
    intro s h
    by_cases c : s.1 < l ∧ t s.1 ∈ Wd 7
    · have e : dn l t (r + 1) s = dn l t r (s.1 + 1, 10 * s.2 + (t s.1 - 48)) := if_pos c
      rw [e]
      have := ih (s.1 + 1, 10 * s.2 + (t s.1 - 48)) c.1
      exact ⟨this.1, Nat.le_trans (Nat.le_succ _) this.2⟩
    · have e : dn l t (r + 1) s = s := if_neg c
      rw [e]
      exact ⟨h, Nat.le_refl _⟩
/-- a command that both have read alike -/
def cR (Mc B : ml_M) (k : Nat) : Prop := (∃ c s w, w ≤ 1 ∧ Mc 5 k = 98 ∧ Mc 6 k = nI c ∧ Mc 7 k = nI s ∧ Mc 8 k = nI w ∧ B 15 (4 * k) = 98 ∧ B 15 (4 * k + 1) = cn (nI c) ∧ B 15 (4 * k + 2) = nI s ∧ B 15 (4 * k + 3) = nI w) ∨ (Mc 5 k = 118 ∧ B 15 (4 * k) = 118 ∧ B 15 (4 * k + 1) = Mc 6 k ∧ B 15 (4 * k + 2) = Mc 7 k) ∨ ∃ kd, (kd = 111 ∨ kd = 115 ∨ kd = 114 ∨ kd = 100 ∨ kd = 119) ∧ Mc 5 k = nI kd ∧ B 15 (4 * k) = nI kd ∧ B 15 (4 * k + 1) = Mc 6 k
theorem nbb {α : Type} {o : Bool} {a b : α} : (if narrow .boolean (.int (b2 o)) = .int (b2 o) then a else b) = a := by
  cases o
  · exact nbi0
  · exact nbi1
theorem o_in {l : Nat} {t : Nat → Nat} {S : List Nat} {q : Nat × Bool} (h : (gd (oP l t S) q).2 = true) : q.2 = true ∧ (q.1 < l ∧ t q.1 ∈ S) := by
  unfold gd at h
  by_cases o : q.2 = true
  · rw [if_pos o] at h
    refine ⟨o, Classical.byContradiction (fun z => ?_)⟩
    rw [oP_f z] at h
    cases h
  · rw [if_neg o] at h
    exact absurd h o
def rs (l : Nat) (t : Nat → Nat) (k p : Nat) (Mc Mm : ml_M) : Prop := ∃ (Mc' B : ml_M) (p' : Nat) (ok : Bool), fX4_readCommand Mc = some (.inl (b2 ok), Mc') ∧ fX7_command Mm = some (.inl 0, rm B (p', ok)) ∧ p' ≤ l ∧ (ok = true → p + 1 ≤ p') ∧ cO Mc Mc' k p' ∧ mO l t Mm B k ∧ (ok = true → cR Mc' B k)
