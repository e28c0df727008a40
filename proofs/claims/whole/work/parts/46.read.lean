/-! Reading a script, in pure words, and the two readers. -/
/-- one sign of S at p -/
def oP (l : Nat) (t : Nat → Nat) (S : List Nat) (p : Nat) : Nat × Bool := if p < l ∧ t p ∈ S then (p + 1, true) else (p, false)
def gd (f : Nat → Nat × Bool) (q : Nat × Bool) : Nat × Bool := if q.2 then f q.1 else q
def wP (l : Nat) (t : Nat → Nat) : List Nat → Nat → Nat × Bool
  | [], p => (p, true)
  | c :: B, p => gd (wP l t B) (oP l t [c] p)
theorem gd_t {f : Nat → Nat × Bool} {p : Nat} : gd f (p, true) = f p := rfl
theorem gd_f {f : Nat → Nat × Bool} {p : Nat} : gd f (p, false) = (p, false) := rfl
theorem oP_t {l : Nat} {t : Nat → Nat} {S : List Nat} {p : Nat} (h : p < l ∧ t p ∈ S) : oP l t S p = (p + 1, true) := if_pos h
theorem oP_f {l : Nat} {t : Nat → Nat} {S : List Nat} {p : Nat} (h : ¬ (p < l ∧ t p ∈ S)) : oP l t S p = (p, false) := if_neg h
theorem oP_le {l : Nat} {t : Nat → Nat} {S : List Nat} {p : Nat} (h : p ≤ l) : (oP l t S p).1 ≤ l := by
  by_cases c : p < l ∧ t p ∈ S
  · rw [oP_t c]; exact c.1
  · rw [oP_f c]; exact h
theorem gd_le {l : Nat} {f : Nat → Nat × Bool} {q : Nat × Bool} (hf : ∀ p, p ≤ l → (f p).1 ≤ l) (h : q.1 ≤ l) : (gd f q).1 ≤ l := by
  unfold gd
  split
  · exact hf _ h
  · exact h
theorem wP_le {l : Nat} {t : Nat → Nat} : ∀ (B : List Nat) (p : Nat), p ≤ l → (wP l t B p).1 ≤ l := by
  intro B
  induction B with
  | nil => intro p h; exact h
  | cons c B ih => intro p h; exact gd_le ih (oP_le h)
theorem oP_ge {l : Nat} {t : Nat → Nat} {S : List Nat} {p : Nat} : p ≤ (oP l t S p).1 := by
  unfold oP
  split
  · exact Nat.le_succ p
  · exact Nat.le_refl p
theorem gd_ge {f : Nat → Nat × Bool} {q : Nat × Bool} (hf : ∀ p, p ≤ (f p).1) : q.1 ≤ (gd f q).1 := by
  unfold gd
  split
  · exact hf _
  · exact Nat.le_refl _
theorem wP_ge {l : Nat} {t : Nat → Nat} : ∀ (B : List Nat) (p : Nat), p ≤ (wP l t B p).1 := by
  intro B
  induction B with
  | nil => intro p; exact Nat.le_refl p
  | cons c B ih => intro p; exact Nat.le_trans oP_ge (gd_ge ih)
theorem wP_app {l : Nat} {t : Nat → Nat} : ∀ (A B : List Nat) (p : Nat), wP l t (A ++ B) p = gd (wP l t B) (wP l t A p) := by
  intro A
  induction A with
  | nil => intro B p; rfl
  | cons c A ih =>
    intro B p
    show gd (wP l t (A ++ B)) (oP l t [c] p) = gd (wP l t B) (gd (wP l t A) (oP l t [c] p))
    unfold gd
    by_cases h : (oP l t [c] p).2 = true
    · rw [if_pos h, if_pos h]
      exact ih B _
    · rw [if_neg h, if_neg h, if_neg h]
theorem gd_gd {f g : Nat → Nat × Bool} {q : Nat × Bool} : gd f (gd g q) = gd (fun p => gd f (g p)) q := by
  unfold gd
  by_cases h : q.2 = true
  · rw [if_pos h, if_pos h]
  · rw [if_neg h, if_neg h, if_neg h]
/-- the buffer's text, on the class's side and on the reference's -/
def cX (l : Nat) (t : Nat → Nat) (M : ml_M) : Prop := M 3 1 = nI l ∧ ∀ j, j < l → M 4 j = nI (t j)
def mX (l : Nat) (t : Nat → Nat) (M : ml_M) : Prop := M 11 9 = nI l ∧ ∀ j, j < l → M 14 j = nI (t j)
def tX (l : Nat) (t : Nat → Nat) : Prop := l ≤ 60 ∧ ∀ j, j < l → 32 ≤ t j ∧ t j ≤ 126
theorem cX.w {l : Nat} {t : Nat → Nat} {M : ml_M} {a j : Nat} {x : Int32} (h : cX l t M) (ha : a ≠ 4) (hb : ¬ (a = 3 ∧ j = 1)) : cX l t (ml_w M a j x) := ⟨by rw [w_off (by omega)]; exact h.1, fun q hq => by rw [ml_w_ne (Ne.symm ha)]; exact h.2 q hq⟩
theorem mX.w {l : Nat} {t : Nat → Nat} {M : ml_M} {a j : Nat} {x : Int32} (h : mX l t M) (ha : a ≠ 14) (hb : ¬ (a = 11 ∧ j = 9)) : mX l t (ml_w M a j x) := ⟨by rw [w_off (by omega)]; exact h.1, fun q hq => by rw [ml_w_ne (Ne.symm ha)]; exact h.2 q hq⟩
/-- the words -/
def Wd (q : Nat) : List Nat := match q with
  | 0 => [59]
  | 1 => [111, 112, 101, 110, 32]
  | 2 => [115, 104, 117, 116, 32]
  | 3 => [114, 97, 105, 110, 32]
  | 4 => [100, 114, 97, 105, 110, 32]
  | 5 => [98, 111, 97, 116, 32]
  | 6 => [114, 103, 98]
  | 7 => [48, 49, 50, 51, 52, 53, 54, 55, 56, 57]
  | 8 => [32]
  | 9 => [100, 117]
  | 10 => [118, 97, 108, 118, 101, 32]
  | _ => [119, 97, 105, 116]
theorem Wd_len : ∀ q < 12, ml_tl q = (Wd q).length ∧ (Wd q).length < 20 := by decide +kernel
theorem Wd_at : ∀ q < 12, ∀ j < 10, j < (Wd q).length → ml_tb2 q j = nI ((Wd q).getD j 0) ∧ (Wd q).getD j 0 < 128 := by decide +kernel
theorem Wd_10 : ∀ q < 12, (Wd q).length ≤ 10 := by decide +kernel
theorem ush0 (x : Int32) : x >>> ((0 : Int32) &&& 31) = x := by
  rw [show (0 : Int32) &&& 31 = 0 by decide]
  exact Int32.shiftRight_zero
theorem ln_c {q : Nat} (M : ml_M) : fJ0_length_8abf5 q M = some (.inl (nI (ml_tl q)), M) := by
  unfold fJ0_length_8abf5 fJ0_coder_7d493
  rw [bd_e, ush0]
theorem ca_c {q j : Nat} (hq : q < 12) (hj : j < (Wd q).length) (M : ml_M) : fJ0_charAt_5068e q (nI j) M = some (.inl (nI ((Wd q).getD j 0)), M) := by
  have h10 := Wd_10 q hq
  obtain ⟨e, he⟩ := Wd_at q hq j (by omega) hj
  obtain ⟨el, -⟩ := Wd_len q hq
  have nlt : ¬ nI j < 0 := nI_pos (by omega)
  have hlt : nI j < nI (Wd q).length := (nI_ltI (by omega) (by omega)).mpr hj
  have ok : ml_ok (nI j) (Wd q).length := ok_nI hj (by omega)
  have cj : (nI j).toNatClampNeg = j := nI_clamp (by omega)
  unfold fJ0_charAt_5068e fJ0_isLatin1_aae02 fJ1_charAt_3b067 fJ0_checkIndex_df160 fJ3_checkIndex_8e157
  rw [bd_e, if_1, el, if_neg nlt, if_pos hlt, bd_e, bd_e, if_pos ok, cj, e, ch_b _ he, if_pos (ch_n _ he), bd_e, if_pos (ch_n _ he)]
def b2 (o : Bool) : Int32 := if o then 1 else 0
/-- the class reads a word -/
theorem rw_l {q l : Nat} {t : Nat → Nat} (hq : q < 12) (hl : l ≤ 60) : ∀ (B A : List Nat) (p n : Nat) (M : ml_M), Wd q = A ++ B → B.length < n → cX l t M → M 3 2 = nI p → p ≤ l → (∀ j, j < l → t j < 128) → fX4_readWord_l q n (nI A.length) M = some (.inl (b2 (wP l t B p).2), ml_w M 3 2 (nI (wP l t B p).1)) := by
  intro B
  induction B with
  | nil =>
    intro A p n M hA hn hX hp hpl ht
    obtain ⟨n, rfl⟩ : ∃ z, n = z + 1 := ⟨n - 1, by simp at hn; omega⟩
    obtain ⟨el, e20⟩ := Wd_len q hq
    rw [List.append_nil] at hA
    show fX4_readWord_s0 q (fX4_readWord_l q n) (nI A.length) M = some (.inl 1, ml_w M 3 2 (nI p))
    unfold fX4_readWord_s0
    rw [ln_c, bd_e, el, hA, if_pos (Int32.le_refl _), ← hp, w_id]
  | cons c B ih =>
    intro A p n M hA hn hX hp hpl ht
    obtain ⟨n, rfl⟩ : ∃ z, n = z + 1 := ⟨n - 1, by simp at hn; omega⟩
    obtain ⟨el, e20⟩ := Wd_len q hq
    have hlen : (Wd q).length = A.length + (B.length + 1) := by rw [hA]; simp
    have hA2 : Wd q = (A ++ [c]) ++ B := by rw [hA]; simp
    have hcd : (Wd q).getD A.length 0 = c := by rw [hA]; simp
    have e9 : nI A.length + 1 = nI (A ++ [c]).length := by rw [nI_1]; simp
    show fX4_readWord_s0 q (fX4_readWord_l q n) (nI A.length) M = some (.inl (b2 (gd (wP l t B) (oP l t [c] p)).2), ml_w M 3 2 (nI (gd (wP l t B) (oP l t [c] p)).1))
    unfold fX4_readWord_s0
    rw [ln_c, bd_e, el, if_neg (fun z => by have := (nI_leI (by omega) (by omega)).mp z; omega), hX.1, hp]
    by_cases c1 : p < l
    · rw [if_neg (fun z => by have := (nI_leI (by omega) (by omega)).mp z; omega), if_pos (ok_nI (show p < 60 by omega) (by decide)), ca_c hq (by omega), bd_e, hcd, nI_clamp (by omega), hX.2 p c1]
      have hc128 : c < 128 := by
        obtain ⟨-, he⟩ := Wd_at q hq A.length (by have := Wd_10 q hq; omega) (by omega)
        omega
      by_cases c2 : t p = c
      · rw [oP_t ⟨c1, by rw [c2]; exact List.mem_singleton.mpr rfl⟩, gd_t, if_pos (congrArg nI c2), hp, nI_1, lt_e, e9]
        have e := ih (A ++ [c]) (p + 1) n (ml_w M 3 2 (nI (p + 1))) hA2 (by simp at hn; omega) (hX.w (by decide) (by decide)) w_at (by omega) ht
        rw [e, w_w]
      · rw [oP_f (fun z => c2 (List.mem_singleton.mp z.2)), gd_f, if_neg (fun z => c2 ((nI_eq (by have := ht p c1; omega) (by omega)).mp z)), ← hp, w_id]
        rfl
    · rw [if_pos ((nI_leI (by omega) (by omega)).mpr (by omega)), oP_f (fun z => c1 z.1), gd_f, ← hp, w_id]
      rfl
theorem rw_c {q l p : Nat} {t : Nat → Nat} {M : ml_M} (hq : q < 12) (hT : tX l t) (hX : cX l t M) (hp : M 3 2 = nI p) (hpl : p ≤ l) : fX4_readWord q M = some (.inl (b2 (wP l t (Wd q) p).2), ml_w M 3 2 (nI (wP l t (Wd q) p).1)) :=
  rw_l hq hT.1 (Wd q) [] p ml_fuel M rfl (by have := (Wd_len q hq).2; unfold ml_fuel; omega) hX hp hpl (fun j hj => by have := (hT.2 j hj).2; omega)
theorem i8_n : ∀ k < 128, (nI k).toInt8.toInt32 = nI k := by decide +kernel
/-- the place of a sign in a word -/
theorem ix_l {q c : Nat} (hq : q < 12) (hc : c < 128) (a1 a2 a3 y1 y2 : Int32) (M : ml_M) : ∀ (B A : List Nat) (n : Nat), Wd q = A ++ B → B.length < n → ∃ r, fJ1_indexOfChar_4cfef_l q a1 a2 a3 n y1 y2 (nI (Wd q).length) (nI c) (nI A.length) M = some (.inl r, M) ∧ (0 ≤ r ↔ c ∈ B) := by
  intro B
  induction B with
  | nil =>
    intro A n hA hn
    obtain ⟨n, rfl⟩ : ∃ z, n = z + 1 := ⟨n - 1, by simp at hn; omega⟩
    rw [List.append_nil] at hA
    refine ⟨-1, ?_, fun z => absurd z (by decide), fun z => by cases z⟩
    show fJ1_indexOfChar_4cfef_s0 q a1 a2 a3 (fJ1_indexOfChar_4cfef_l q a1 a2 a3 n) y1 y2 (nI (Wd q).length) (nI c) (nI A.length) M = _
    unfold fJ1_indexOfChar_4cfef_s0
    rw [hA, if_pos (Int32.le_refl _)]
  | cons x B ih =>
    intro A n hA hn
    obtain ⟨n, rfl⟩ : ∃ z, n = z + 1 := ⟨n - 1, by simp at hn; omega⟩
    obtain ⟨el, e20⟩ := Wd_len q hq
    have h10 := Wd_10 q hq
    have hlen : (Wd q).length = A.length + (B.length + 1) := by rw [hA]; simp
    have hA2 : Wd q = (A ++ [x]) ++ B := by rw [hA]; simp
    have hcd : (Wd q).getD A.length 0 = x := by rw [hA]; simp
    have e9 : nI A.length + 1 = nI (A ++ [x]).length := by rw [nI_1]; simp
    obtain ⟨e, he⟩ := Wd_at q hq A.length (by omega) (by omega)
    rw [hcd] at e he
    obtain ⟨r, h1, h2⟩ := ih (A ++ [x]) n hA2 (by simp at hn; omega)
    have ok : ml_ok (nI A.length) (ml_tl q) := by rw [el]; exact ok_nI (by omega) (by omega)
    have cj : (nI A.length).toNatClampNeg = A.length := nI_clamp (by omega)
    by_cases cx : x = c
    · refine ⟨nI A.length, ?_, fun _ => by rw [cx]; exact List.mem_cons_self, fun _ => nI_pos' (by omega)⟩
      show fJ1_indexOfChar_4cfef_s0 q a1 a2 a3 (fJ1_indexOfChar_4cfef_l q a1 a2 a3 n) y1 y2 (nI (Wd q).length) (nI c) (nI A.length) M = _
      unfold fJ1_indexOfChar_4cfef_s0
      rw [if_neg (fun z => by have := (nI_leI (by omega) (by omega)).mp z; omega), if_pos ok, cj, e, if_pos (congrArg nI cx)]
    · refine ⟨r, ?_, fun z => List.mem_cons_of_mem _ (h2.mp z), fun z => h2.mpr ((List.mem_cons.mp z).resolve_left (fun z => cx z.symm))⟩
      rw [← h1, ← e9]
      show fJ1_indexOfChar_4cfef_s0 q a1 a2 a3 (fJ1_indexOfChar_4cfef_l q a1 a2 a3 n) y1 y2 (nI (Wd q).length) (nI c) (nI A.length) M = _
      unfold fJ1_indexOfChar_4cfef_s0
      rw [if_neg (fun z => by have := (nI_leI (by omega) (by omega)).mp z; omega), if_pos ok, cj, e, if_neg (fun z => cx ((nI_eq (by omega) (by omega)).mp z))]
theorem ix_c {q c : Nat} (hq : q < 12) (hc : c < 128) (M : ml_M) : ∃ r, fJ0_indexOf_0f7a4 q (nI c) M = some (.inl r, M) ∧ (0 ≤ r ↔ c ∈ Wd q) := by
  obtain ⟨el, e20⟩ := Wd_len q hq
  have h0 : 0 < (Wd q).length := by
    have : ∀ q < 12, 0 < (Wd q).length := by decide +kernel
    exact this q hq
  obtain ⟨r, h1, h2⟩ := ix_l hq hc (nI c) 0 (nI (Wd q).length) (nI c) 0 M (Wd q) [] ml_fuel rfl (by unfold ml_fuel; omega)
  refine ⟨r, ?_, h2⟩
  have e1 : fJ1_canEncode_9a6ad (nI c) M = some (.inl 1, M) := by
    unfold fJ1_canEncode_9a6ad
    rw [jn_e, if_neg (nI_pos (by omega)), if_neg (show ¬ (255 : Int32) < nI c from fun z => by have := (nI_ltI (a := 255) (by decide) (by omega)).mp z; omega)]
    exact nbi1
  have e2 : fJ1_indexOfChar_4cfef q (nI c) 0 (nI (Wd q).length) M = some (.inl r, M) := by
    unfold fJ1_indexOfChar_4cfef
    rw [lt_e, i8_n c hc]
    exact h1
  unfold fJ0_indexOf_0f7a4 fJ0_indexOf_7cf53 fJ0_isLatin1_aae02 fJ1_indexOf_4cfef
  rw [bd_e, if_1, ln_c, bd_e, e1, bd_e, if_1, lt_e, if_neg (show ¬ (0 : Int32) < 0 by decide), lt_e, el, if_neg (show ¬ nI (Wd q).length < nI (Wd q).length from fun z => by have := (nI_ltI (by omega) (by omega)).mp z; omega), if_pos (show (0 : Int32) < nI (Wd q).length from (nI_ltI (a := 0) (by decide) (by omega)).mpr h0), e2, bd_e, bd_e, bd_e]
theorem ft_n : ∀ k < 128, fits .char (.int (nI k)) = true := by decide +kernel
/-- the class reads one sign of a word -/
theorem ro_c {q l p : Nat} {t : Nat → Nat} {M : ml_M} (hq : q < 12) (hT : tX l t) (hX : cX l t M) (hp : M 3 2 = nI p) (hpl : p ≤ l) : fX4_readOneOf q M = some (.inl (b2 (oP l t (Wd q) p).2), if (oP l t (Wd q) p).2 then ml_w (ml_w M 3 3 (nI (t p))) 3 2 (nI (p + 1)) else M) := by
  have hl := hT.1
  unfold fX4_readOneOf
  rw [hX.1, hp]
  by_cases c1 : p < l
  · have h126 := (hT.2 p c1).2
    have ok : ml_ok (nI p) 60 := ok_nI (by omega) (by decide)
    have cp : (nI p).toNatClampNeg = p := nI_clamp (by omega)
    obtain ⟨r, i1, i2⟩ := ix_c (q := q) (c := t p) hq (by omega) M
    rw [if_neg (fun z => by have := (nI_leI (by omega) (by omega)).mp z; omega), if_pos ok, cp, hX.2 p c1, i1, bd_e]
    by_cases c2 : t p ∈ Wd q
    · rw [oP_t ⟨c1, c2⟩, if_pos (i2.mpr c2), hp, if_pos ok, cp, hX.2 p c1, if_pos ⟨ch_n _ (by omega), ft_n _ (by omega)⟩, lt_e, w_un (show 2 ≠ 3 by decide), hp, nI_1, lt_e]
      rfl
    · rw [oP_f (fun z => c2 z.2), if_neg (fun z => c2 (i2.mp z))]
      rfl
  · rw [if_pos ((nI_leI (by omega) (by omega)).mpr (by omega)), oP_f (fun z => c1 z.1)]
    rfl
/-- the reference's memory while it reads -/
def rm (N : ml_M) (q : Nat × Bool) : ml_M := if q.2 then ml_w N 11 10 (nI q.1) else ml_w (ml_w N 11 10 (nI q.1)) 11 11 (nI q.1)
theorem rm_t {N : ml_M} {p : Nat} : rm N (p, true) = ml_w N 11 10 (nI p) := rfl
theorem rm_f {N : ml_M} {p : Nat} : rm N (p, false) = ml_w (ml_w N 11 10 (nI p)) 11 11 (nI p) := rfl
theorem sg_p {l p : Nat} {t : Nat → Nat} {N : ml_M} (hT : tX l t) (hX : mX l t N) (h10 : N 11 10 = nI p) (hpl : p ≤ l) : fX7_sign N = some (.inl (if p < l then nI (t p) else -1), N) := by
  have hl := hT.1
  unfold fX7_sign
  rw [jn_e, hX.1, h10]
  by_cases c : p < l
  · rw [if_pos c, if_neg (fun z => by have := (nI_leI (by omega) (by omega)).mp z; omega), if_pos (ok_nI (by omega) (by decide)), nI_clamp (by omega), hX.2 p c]
  · rw [if_neg c, if_pos ((nI_leI (by omega) (by omega)).mpr (by omega))]
theorem rm_X {l : Nat} {t : Nat → Nat} {N : ml_M} {q : Nat × Bool} (h : mX l t N) : mX l t (rm N q) := by
  unfold rm
  split
  · exact h.w (by decide) (by decide)
  · exact (h.w (by decide) (by decide)).w (by decide) (by decide)
theorem rm_10 {N : ml_M} {q : Nat × Bool} : rm N q 11 10 = nI q.1 := by
  unfold rm
  split
  · rw [w_at]
  · rw [w_un (by decide), w_at]
theorem rm_11 {N : ml_M} {q : Nat × Bool} (h : N 11 11 = -1) : rm N q 11 11 = if q.2 then -1 else nI q.1 := by
  unfold rm
  split
  · rw [w_un (by decide)]; exact h
  · rw [w_at]
theorem rm_o {N : ml_M} {q : Nat × Bool} {a b : Nat} (h : ¬ (a = 11 ∧ (b = 10 ∨ b = 11))) : rm N q a b = N a b := by
  unfold rm
  split
  · rw [w_off (by omega)]
  · rw [w_off (by omega), w_off (by omega)]
theorem w_com {N : ml_M} {a j b k : Nat} {x y : Int32} (h : a ≠ b ∨ j ≠ k) : ml_w (ml_w N a j x) b k y = ml_w (ml_w N b k y) a j x := by
  funext p q
  by_cases h1 : p = a ∧ q = j
  · rw [h1.1, h1.2, w_at, w_off (by omega), w_at]
  · rw [w_off (a := a) h1]
    by_cases h2 : p = b ∧ q = k
    · rw [h2.1, h2.2, w_at, w_at]
    · rw [w_off h2, w_off h2, w_off h1]
theorem rm_w {N : ml_M} {q : Nat × Bool} {a j : Nat} {x : Int32} (h : a ≠ 11) : ml_w (rm N q) a j x = rm (ml_w N a j x) q := by
  unfold rm
  split
  · rw [w_com (Or.inl (by omega))]
  · rw [w_com (Or.inl (by omega)), w_com (b := a) (Or.inl (by omega))]
theorem rm_go {N : ml_M} {q : Nat × Bool} {p : Nat} (h : q.2 = true) : ml_w (rm N q) 11 10 (nI p) = rm N (p, true) := by
  unfold rm
  rw [if_pos h, w_w]
  rfl
theorem rm_er {N : ml_M} {q : Nat × Bool} (h : q.2 = true) : ml_w (rm N q) 11 11 (nI q.1) = rm N (q.1, false) := by
  unfold rm
  rw [if_pos h]
  rfl
theorem n_neg1 {p : Nat} (h : p ≤ 1000) : ¬ nI p < 0 := nI_pos (by omega)
/-- the reference needs one letter -/
theorem ne_m {l c : Nat} {t : Nat → Nat} {N : ml_M} {q : Nat × Bool} (hT : tX l t) (hX : mX l t N) (h11 : N 11 11 = -1) (hq : q.1 ≤ l) (hc : c < 128) : fX7_needs (nI c) (rm N q) = some (.inl 0, rm N (gd (oP l t [c]) q)) := by
  have hl := hT.1
  unfold fX7_needs
  rw [rm_11 h11]
  by_cases h : q.2 = true
  · have eg : gd (oP l t [c]) q = oP l t [c] q.1 := by unfold gd; rw [if_pos h]
    rw [if_pos h, if_pos (show (-1 : Int32) < 0 by decide), sg_p hT (rm_X hX) rm_10 hq, bd_e, eg]
    by_cases c1 : q.1 < l
    · have h126 := (hT.2 _ c1).2
      by_cases c2 : t q.1 = c
      · rw [if_pos c1, if_pos (congrArg nI c2), oP_t ⟨c1, by rw [c2]; exact List.mem_singleton.mpr rfl⟩, rm_10, nI_1, lt_e, rm_go h]
      · rw [if_pos c1, if_neg (fun z => c2 ((nI_eq (by omega) (by omega)).mp z)), oP_f (fun z => c2 (List.mem_singleton.mp z.2)), rm_10, lt_e, rm_er h]
    · have n1 : ¬ (-1 : Int32) = nI c := fun z => nI_pos (show c < 2 ^ 31 by omega) (by rw [← z]; decide)
      rw [if_neg c1, if_neg n1, oP_f (fun z => c1 z.1), rm_10, lt_e, rm_er h]
  · have eg : gd (oP l t [c]) q = q := by unfold gd; rw [if_neg h]
    rw [if_neg h, if_neg (n_neg1 (by omega)), eg]
/-- a digit, or 0 -/
def dg (l : Nat) (t : Nat → Nat) (q : Nat × Bool) : Nat := if q.2 = true ∧ (q.1 < l ∧ t q.1 ∈ Wd 7) then t q.1 - 48 else 0
theorem dg_mem (c : Nat) : c ∈ Wd 7 ↔ 48 ≤ c ∧ c ≤ 57 := by
  constructor
  · intro h
    simp [Wd] at h
    omega
  · intro h
    simp [Wd]
    omega
theorem in_d {l p : Nat} {t : Nat → Nat} (hT : tX l t) (N : ml_M) : fX7_in (if p < l then nI (t p) else -1) 48 57 N = some (.inl (if p < l ∧ t p ∈ Wd 7 then 1 else 0), N) := by
  rw [in_m]
  by_cases c1 : p < l
  · have h126 := (hT.2 p c1).2
    rw [if_pos c1]
    by_cases c2 : t p ∈ Wd 7
    · obtain ⟨a, b⟩ := (dg_mem _).mp c2
      have k1 : p < l ∧ t p ∈ Wd 7 := ⟨c1, c2⟩
      have k2 : ¬ nI (t p) < (48 : Int32) := fun z => by have := (nI_ltI (b := 48) (by omega) (by decide)).mp z; omega
      have k3 : ¬ (57 : Int32) < nI (t p) := fun z => by have := (nI_ltI (a := 57) (by decide) (by omega)).mp z; omega
      rw [if_pos k1, if_neg k2, if_neg k3]
    · have k1 : ¬ (p < l ∧ t p ∈ Wd 7) := fun z => c2 z.2
      rw [if_neg k1]
      by_cases c3 : t p < 48
      · have k2 : nI (t p) < (48 : Int32) := (nI_ltI (b := 48) (by omega) (by decide)).mpr c3
        rw [if_pos k2]
      · have c4 : 57 < t p := by
          rcases Nat.lt_or_ge 57 (t p) with z | z
          · exact z
          · exact absurd ((dg_mem _).mpr ⟨by omega, z⟩) c2
        have k2 : ¬ nI (t p) < (48 : Int32) := fun z => c3 ((nI_ltI (b := 48) (by omega) (by decide)).mp z)
        have k3 : (57 : Int32) < nI (t p) := (nI_ltI (a := 57) (by decide) (by omega)).mpr c4
        rw [if_neg k2, if_pos k3]
  · have k1 : ¬ (p < l ∧ t p ∈ Wd 7) := fun z => c1 z.1
    rw [if_neg c1, if_neg k1, if_pos (by decide)]
/-- one digit more, if there is one -/
def d1 (l : Nat) (t : Nat → Nat) (s : Nat × Nat) : Nat × Nat := if s.1 < l ∧ t s.1 ∈ Wd 7 then (s.1 + 1, 10 * s.2 + (t s.1 - 48)) else s
/-- the loop of a number: from k on -/
def dn (l : Nat) (t : Nat → Nat) : Nat → Nat × Nat → Nat × Nat
  | 0, s => s
  | k + 1, s => if s.1 < l ∧ t s.1 ∈ Wd 7 then dn l t k (s.1 + 1, 10 * s.2 + (t s.1 - 48)) else s
theorem nu_l {l : Nat} {t : Nat → Nat} {N : ml_M} (hT : tX l t) (hX : mX l t N) (a0 : Int32) (d : Nat) (hd : d ≤ 3) : ∀ (r k n : Nat) (s : Nat × Nat), k + r = d → r < n → s.1 ≤ l → fX7_number_l a0 n (nI d) (nI s.2) (nI k) (rm N (s.1, true)) = some (.inl (nI (dn l t r s).2), rm N ((dn l t r s).1, true)) := by
  intro r
  induction r with
  | zero =>
    intro k n s hk hn hs
    obtain ⟨n, rfl⟩ : ∃ z, n = z + 1 := ⟨n - 1, by omega⟩
    have e : k = d := by omega
    subst e
    show fX7_number_s0 a0 (fX7_number_l a0 n) (nI k) (nI s.2) (nI k) (rm N (s.1, true)) = _
    unfold fX7_number_s0
    rw [jn_e, if_pos (Int32.le_refl _)]
    rfl
  | succ r ih =>
    intro k n s hk hn hs
    obtain ⟨n, rfl⟩ : ∃ z, n = z + 1 := ⟨n - 1, by omega⟩
    show fX7_number_s0 a0 (fX7_number_l a0 n) (nI d) (nI s.2) (nI k) (rm N (s.1, true)) = _
    unfold fX7_number_s0
    rw [jn_e, if_neg (fun z => by have := (nI_leI (by omega) (by omega)).mp z; omega), sg_p hT (rm_X hX) rm_10 hs, bd_e, in_d hT, bd_e]
    by_cases c : s.1 < l ∧ t s.1 ∈ Wd 7
    · have ed : dn l t (r + 1) s = dn l t r (s.1 + 1, 10 * s.2 + (t s.1 - 48)) := by
        show (if s.1 < l ∧ t s.1 ∈ Wd 7 then _ else _) = _
        rw [if_pos c]
      obtain ⟨a, b⟩ := (dg_mem _).mp c.2
      have ev : ((10 : Int32) * nI s.2 + nI (t s.1)) - 48 = nI (10 * s.2 + (t s.1 - 48)) := by
        have e1 : (10 : Int32) * nI s.2 = nI (10 * s.2) := pk_mul 10 s.2
        have e2 : nI (10 * s.2 + t s.1) - 48 = nI (10 * s.2 + t s.1 - 48) := pk_sub (b := 48) (by omega)
        rw [e1, nI_add, e2]
        exact congrArg nI (by omega)
      rw [if_pos c, if_1, sg_p hT (rm_X hX) rm_10 hs, bd_e, if_pos c.1, lt_e, ev, rm_10, nI_1, lt_e, rm_go rfl, nI_1, ed]
      exact ih (k + 1) n (s.1 + 1, 10 * s.2 + (t s.1 - 48)) (by omega) (by omega) c.1
    · have ed : dn l t (r + 1) s = s := by
        show (if s.1 < l ∧ t s.1 ∈ Wd 7 then _ else _) = _
        rw [if_neg c]
      rw [if_neg c, if_0, ed]
