theorem ml_lcmp0 {E : ml_E} {g : ml_G} {cc : ByteArray} {own : String} {nL lv mc ms : Nat} {ret : Option FieldType} {tb : List ExceptionTableEntry} {Q : State → Prop} {k n pc : Nat} {ls : List (Nat × Value)} {st : List Value} {M : ml_M} {x y : Int64} (F : ml_F E g cc own nL lv mc ms ret tb) (hd : decode cc pc = .ok (.lcmp, 1)) (hxy : x = y) (K : ml_J E g nL Q k n (pc + 1) ls (.int 0 :: st) M) : ml_J E g nL Q k n (pc) ls (.long y :: .long x :: st) M := by
  obtain ⟨p, e, R, s, m, args, below, meth, c⟩ := E
  obtain ⟨⟨hx, hb, ht, ho, hm, hlk⟩, ⟨hK, ⟨M0, hD0⟩, hX, hz, htr⟩, ⟨hR1, hR2, hR3, hR4⟩, hret, htb⟩ := F
  have hD : va_D (ml_A g) (ml_wm g M) := ml_D_any hD0
  intro H locs la hP hS hl
  subst hxy
  refine W.lcmp hx hb hd ?_
  rw [show lg_cmp x x = 0 by simp [lg_cmp]]
  exact K H locs la hP hS hl
theorem ml_dcmp {E : ml_E} {g : ml_G} {cc : ByteArray} {own : String} {nL lv mc ms : Nat} {ret : Option FieldType} {tb : List ExceptionTableEntry} {Q : State → Prop} {k n pc : Nat} {ls : List (Nat × Value)} {st : List Value} {M : ml_M} {x y : UInt64} {op : CmpOp} (F : ml_F E g cc own nL lv mc ms ret tb) (hd : decode cc pc = .ok (.dcmp op, 1)) (K : ml_J E g nL Q k n (pc + 1) ls (.int (Op.cmpValue (FP.dcmp x y) op) :: st) M) : ml_J E g nL Q k n (pc) ls (.double y :: .double x :: st) M := by
  obtain ⟨p, e, R, s, m, args, below, meth, c⟩ := E
  obtain ⟨⟨hx, hb, ht, ho, hm, hlk⟩, ⟨hK, ⟨M0, hD0⟩, hX, hz, htr⟩, ⟨hR1, hR2, hR3, hR4⟩, hret, htb⟩ := F
  have hD : va_D (ml_A g) (ml_wm g M) := ml_D_any hD0
  intro H locs la hP hS hl
  exact lv_dcmp hx hb hd (K H locs la hP hS hl)
theorem ml_lald {E : ml_E} {g : ml_G} {cc : ByteArray} {own : String} {nL lv mc ms : Nat} {ret : Option FieldType} {tb : List ExceptionTableEntry} {Q : State → Prop} {k n pc : Nat} {ls : List (Nat × Value)} {st : List Value} {M : ml_M}  (F : ml_F E g cc own nL lv mc ms ret tb) (hd : decode cc pc = .ok (.laload, 1)) (K : ml_J E g nL Q k n (pc + 1) ls (.long (M 181 0).toInt64 :: st) M) : ml_J E g nL Q k n (pc) ls (.int 0 :: ml_rf g 181 :: st) M := by
  obtain ⟨p, e, R, s, m, args, below, meth, c⟩ := E
  obtain ⟨⟨hx, hb, ht, ho, hm, hlk⟩, ⟨hK, ⟨M0, hD0⟩, hX, hz, htr⟩, ⟨hR1, hR2, hR3, hR4⟩, hret, htb⟩ := F
  have hD : va_D (ml_A g) (ml_wm g M) := ml_D_any hD0
  intro H locs la hP hS hl
  exact va_lald (D := g.2.1) (cl := vwCl) (tys := ml_ty g) (f := fun j => (M 181 j).toInt64) (n := 1) hx hb hK hP 181 5 (by rw [ml_wm_at (by decide)]; rfl) rfl (ml_ok_in ⟨by decide, by decide⟩) hd (K H locs la hP hS hl)
theorem ml_updL {g : ml_G} (m : Nat → Int32) (x : Int32) : ((.inl (g.2.2.1 5, 1, .inr (.inl (vp_updL (fun j => (m j).toInt64) (Int32.toNatClampNeg 0) x.toInt64)))) : va_E) = ml_ct g 181 (upd m 0 x) := by
  have h : vp_updL (fun j => (m j).toInt64) (Int32.toNatClampNeg 0) x.toInt64 = fun j => (upd m 0 x j).toInt64 := by
    funext j
    have h0 : Int32.toNatClampNeg 0 = 0 := by decide
    unfold vp_updL upd
    rw [h0]
    by_cases h : j = 0
    · rw [if_pos h, if_pos h]
    · rw [if_neg h, if_neg h]
  rw [h]
  rfl
theorem ml_last {E : ml_E} {g : ml_G} {cc : ByteArray} {own : String} {nL lv mc ms : Nat} {ret : Option FieldType} {tb : List ExceptionTableEntry} {Q : State → Prop} {k n pc : Nat} {ls : List (Nat × Value)} {st : List Value} {M : ml_M} {x : Int32} {v : Int64} (F : ml_F E g cc own nL lv mc ms ret tb) (hv : v = x.toInt64) (hd : decode cc pc = .ok (.lastore, 1)) (K : ml_J E g nL Q k n (pc + 1) ls (st) (ml_w M 181 0 x)) : ml_J E g nL Q k n (pc) ls (.long v :: .int 0 :: ml_rf g 181 :: st) M := by
  obtain ⟨p, e, R, s, m, args, below, meth, c⟩ := E
  obtain ⟨⟨hx, hb, ht, ho, hm, hlk⟩, ⟨hK, ⟨M0, hD0⟩, hX, hz, htr⟩, ⟨hR1, hR2, hR3, hR4⟩, hret, htb⟩ := F
  have hD : va_D (ml_A g) (ml_wm g M) := ml_D_any hD0
  intro H locs la hP hS hl
  subst hv
  refine va_last (D := g.2.1) (cl := vwCl) (tys := ml_ty g) (f := fun j => (M 181 j).toInt64) (n := 1) hx hb hK hP hD hS 181 5 (by rw [ml_wm_at (by decide)]; rfl) rfl (ml_ok_in ⟨by decide, by decide⟩) hd (fun H1 locs1 hP1 hD1 hS1 => ?_)
  rw [ml_wm_set (j := 0) (x := x) (ml_updL _ _)] at hP1
  exact K H1 locs1 la hP1 hS1 hl
theorem ml_dald {E : ml_E} {g : ml_G} {cc : ByteArray} {own : String} {nL lv mc ms : Nat} {ret : Option FieldType} {tb : List ExceptionTableEntry} {Q : State → Prop} {k n pc : Nat} {ls : List (Nat × Value)} {st : List Value} {M : ml_M}  (F : ml_F E g cc own nL lv mc ms ret tb) (hd : decode cc pc = .ok (.daload, 1)) (K : ml_J E g nL Q k n (pc + 1) ls (.double (FP.ddiv (FP.i2d (M 182 0)) (FP.i2d (M 182 1))) :: st) M) : ml_J E g nL Q k n (pc) ls (.int 0 :: ml_rf g 182 :: st) M := by
  obtain ⟨p, e, R, s, m, args, below, meth, c⟩ := E
  obtain ⟨⟨hx, hb, ht, ho, hm, hlk⟩, ⟨hK, ⟨M0, hD0⟩, hX, hz, htr⟩, ⟨hR1, hR2, hR3, hR4⟩, hret, htb⟩ := F
  have hD : va_D (ml_A g) (ml_wm g M) := ml_D_any hD0
  intro H locs la hP hS hl
  exact va_dald (D := g.2.1) (cl := vwCl) (tys := ml_ty g) (f := fun _ => FP.ddiv (FP.i2d (M 182 0)) (FP.i2d (M 182 1))) (n := 1) hx hb hK hP 182 6 (by rw [ml_wm_at (by decide)]; rfl) rfl (ml_ok_in ⟨by decide, by decide⟩) hd (K H locs la hP hS hl)
theorem ml_P182 {g : ml_G} {M : ml_M} {H : Heap} {a b : Int32} {f : Nat → UInt64} (hf : f 0 = FP.ddiv (FP.i2d a) (FP.i2d b)) (h : va_P g.2.1 vwCl ((ml_wm g M).set 182 (g.2.2.2.1 182, .inl (g.2.2.1 6, 1, .inr (.inr (.inr (.inl f)))))) H) : ml_P g (ml_w (ml_w M 182 0 a) 182 1 b) H := by
  intro k q hq
  have hk : k < 183 := by
    have := (List.getElem?_eq_some_iff.mp hq).1
    simpa [ml_wm] using this
  rw [ml_wm_at hk] at hq
  cases hq
  by_cases h9 : k = 182
  · subst h9
    have h1 := h 182 _ (List.getElem?_set_self (by simp [ml_wm]))
    have h2 : H[g.2.2.2.1 182]? = some (arrV (g.2.2.1 6) 1 (fun j => .double (f j))) := h1
    have h3 : arrV (g.2.2.1 6) 1 (fun j => Value.double (f j)) = arrV (g.2.2.1 6) 1 (fun _ => Value.double (FP.ddiv (FP.i2d (ml_w (ml_w M 182 0 a) 182 1 b 182 0)) (FP.i2d (ml_w (ml_w M 182 0 a) 182 1 b 182 1)))) := by
      have e0 : ml_w (ml_w M 182 0 a) 182 1 b 182 0 = a := rfl
      have e1 : ml_w (ml_w M 182 0 a) 182 1 b 182 1 = b := rfl
      rw [e0, e1, ← hf]
      unfold arrV
      congr 1
    exact h2.trans (congrArg some h3)
  · have e : ml_w (ml_w M 182 0 a) 182 1 b k = M k := by rw [ml_w_ne h9, ml_w_ne h9]
    rw [e]
    exact h k _ (by rw [List.getElem?_set_ne (Ne.symm h9), ml_wm_at hk])
theorem ml_dast {E : ml_E} {g : ml_G} {cc : ByteArray} {own : String} {nL lv mc ms : Nat} {ret : Option FieldType} {tb : List ExceptionTableEntry} {Q : State → Prop} {k n pc : Nat} {ls : List (Nat × Value)} {st : List Value} {M : ml_M} {a b : Int32} {v : UInt64} (F : ml_F E g cc own nL lv mc ms ret tb) (hv : v = FP.ddiv (FP.i2d a) (FP.i2d b)) (hd : decode cc pc = .ok (.dastore, 1)) (K : ml_J E g nL Q k n (pc + 1) ls (st) (ml_w (ml_w M 182 0 a) 182 1 b)) : ml_J E g nL Q k n (pc) ls (.double v :: .int 0 :: ml_rf g 182 :: st) M := by
  obtain ⟨p, e, R, s, m, args, below, meth, c⟩ := E
  obtain ⟨⟨hx, hb, ht, ho, hm, hlk⟩, ⟨hK, ⟨M0, hD0⟩, hX, hz, htr⟩, ⟨hR1, hR2, hR3, hR4⟩, hret, htb⟩ := F
  have hD : va_D (ml_A g) (ml_wm g M) := ml_D_any hD0
  intro H locs la hP hS hl
  subst hv
  refine va_dast (D := g.2.1) (cl := vwCl) (tys := ml_ty g) (f := fun _ => FP.ddiv (FP.i2d (M 182 0)) (FP.i2d (M 182 1))) (n := 1) hx hb hK hP hD hS 182 6 (by rw [ml_wm_at (by decide)]; rfl) rfl (ml_ok_in ⟨by decide, by decide⟩) hd (fun H1 locs1 hP1 hD1 hS1 => ?_)
  exact K H1 locs1 la (ml_P182 rfl hP1) hS1 hl
theorem ml_f2d {E : ml_E} {g : ml_G} {cc : ByteArray} {own : String} {nL lv mc ms : Nat} {ret : Option FieldType} {tb : List ExceptionTableEntry} {Q : State → Prop} {k n pc : Nat} {ls : List (Nat × Value)} {st : List Value} {M : ml_M} {x : UInt32} (F : ml_F E g cc own nL lv mc ms ret tb) (hd : decode cc pc = .ok (.f2d, 1)) (hne : vf_n64 (FP.f2d x)) (K : ml_J E g nL Q k n (pc + 1) ls (.double (FP.f2d x) :: st) M) : ml_J E g nL Q k n (pc) ls (.float x :: st) M := by
  obtain ⟨p, e, R, s, m, args, below, meth, c⟩ := E
  obtain ⟨⟨hx, hb, ht, ho, hm, hlk⟩, ⟨hK, ⟨M0, hD0⟩, hX, hz, htr⟩, ⟨hR1, hR2, hR3, hR4⟩, hret, htb⟩ := F
  have hD : va_D (ml_A g) (ml_wm g M) := ml_D_any hD0
  intro H locs la hP hS hl
  exact lv_f2d hx hb hd hne (K H locs la hP hS hl)
theorem ml_dstore {E : ml_E} {g : ml_G} {cc : ByteArray} {own : String} {nL lv mc ms : Nat} {ret : Option FieldType} {tb : List ExceptionTableEntry} {Q : State → Prop} {k n pc : Nat} {ls : List (Nat × Value)} {st : List Value} {M : ml_M} {i : Nat} {x : UInt64} {ls2 : List (Nat × Value)} (F : ml_F E g cc own nL lv mc ms ret tb) (hd : decode cc pc = .ok (.dstore i, 2)) (hn : i + 1 < nL) (hq : (i, Value.double x) :: ls.filter (fun q => !(q.1 == i) && (!(q.1 == i + 1) && !(q.1 + 1 == i && q.2.category == 2))) = ls2) (K : ml_J E g nL Q k n (pc + 2) ls2 (st) M) : ml_J E g nL Q k n (pc) ls (.double x :: st) M := by
  obtain ⟨p, e, R, s, m, args, below, meth, c⟩ := E
  obtain ⟨⟨hx, hb, ht, ho, hm, hlk⟩, ⟨hK, ⟨M0, hD0⟩, hX, hz, htr⟩, ⟨hR1, hR2, hR3, hR4⟩, hret, htb⟩ := F
  have hD : va_D (ml_A g) (ml_wm g M) := ml_D_any hD0
  intro H locs la hP hS hl
  exact lv_dstore hx hb hd hl hn hq (fun la2 hl2 => K H locs la2 hP hS hl2)
/-- the script lies ahead of our cells -/
def ml_S (E : ml_E) (g : ml_G) (b L : Nat) (xs : Nat → Int32) : Prop := match E with
  | (_, _, _, s, _, _, _, _, _) => va_X b L xs s s.heap ∧ b < s.heap.size ∧ b < g.1
theorem ml_slen {E : ml_E} {g : ml_G} {cc : ByteArray} {own : String} {nL lv mc ms : Nat} {ret : Option FieldType} {tb : List ExceptionTableEntry} {Q : State → Prop} {k n pc : Nat} {ls : List (Nat × Value)} {st : List Value} {M : ml_M} {b L : Nat} {xs : Nat → Int32} (F : ml_F E g cc own nL lv mc ms ret tb) (S : ml_S E g b L xs) (hd : decode cc pc = .ok (.arraylength, 1)) (K : ml_J E g nL Q k n (pc + 1) ls (.int (Int32.ofNat L) :: st) M) : ml_J E g nL Q k n (pc) ls (.ref b :: st) M := by
  obtain ⟨p, e, R, s, m, args, below, meth, c⟩ := E
  obtain ⟨⟨hx, hb, ht, ho, hm, hlk⟩, ⟨hK, ⟨M0, hD0⟩, hX, hz, htr⟩, ⟨hR1, hR2, hR3, hR4⟩, hret, htb⟩ := F
  have hD : va_D (ml_A g) (ml_wm g M) := ml_D_any hD0
  intro H locs la hP hS hl
  exact va_slen (A := ml_A g) hx hb S.1 S.2.1 (fun h => Nat.not_le.mpr S.2.2 h) hS hd (K H locs la hP hS hl)
theorem ml_scld {E : ml_E} {g : ml_G} {cc : ByteArray} {own : String} {nL lv mc ms : Nat} {ret : Option FieldType} {tb : List ExceptionTableEntry} {Q : State → Prop} {k n pc : Nat} {ls : List (Nat × Value)} {st : List Value} {M : ml_M} {b L j : Nat} {xs : Nat → Int32} {i x : Int32} (F : ml_F E g cc own nL lv mc ms ret tb) (S : ml_S E g b L xs) (hi : ¬ i < 0) (hj : i.toNatClampNeg = j) (hjL : j < L) (hxv : xs j = x) (hd : decode cc pc = .ok (.iaload, 1)) (K : ml_J E g nL Q k n (pc + 1) ls (.int x :: st) M) : ml_J E g nL Q k n (pc) ls (.int i :: .ref b :: st) M := by
  obtain ⟨p, e, R, s, m, args, below, meth, c⟩ := E
  obtain ⟨⟨hx, hb, ht, ho, hm, hlk⟩, ⟨hK, ⟨M0, hD0⟩, hX, hz, htr⟩, ⟨hR1, hR2, hR3, hR4⟩, hret, htb⟩ := F
  have hD : va_D (ml_A g) (ml_wm g M) := ml_D_any hD0
  intro H locs la hP hS hl
  subst hxv
  subst hj
  exact va_sld (A := ml_A g) hx hb S.1 S.2.1 (fun h => Nat.not_le.mpr S.2.2 h) hS (ml_ok_in ⟨hi, hjL⟩) hd (K H locs la hP hS hl)
theorem ml_goQ {p : Program} {l : Launch} {e : Env} {R : Room} {s : State} {m : MethodId} {args : Array Value} {below : List Frame} {meth : Method} {c : Code} {H : Heap} {locs : List Loc} {k n mc2 ms2 : Nat} {pc : Nat} {la : Array Slot} {st stk : List Value} {g : ml_G} {vl2 : Int32 → ml_M → Option Value} {r8 : Int32} {M8 : ml_M} {a : Array Value} {Q : State → Prop}
    (hr : vx_Run p l e R s m args below meth c H locs k n mc2 ms2 (F0 m pc la stk) st (ml_Q g vl2 (.inl r8, M8) a) (ml_XC g (.inl r8, M8)) (ml_A g)) (hS : va_S (ml_A g) s.heap H locs)
    (kk : ∀ (H1 : Heap) (locs1 : List Loc), ml_P g M8 H1 → va_S (ml_A g) s.heap H1 locs1 → W p l e R s m args below meth c H1 locs1 (k + mc2) (n + ms2) Q (F0 m (pc + 3) la ((vl2 r8 M8).toList ++ st))) :
    W p l e R s m args below meth c H locs k n Q (F0 m pc la stk) := by
  intro T hT X
  rcases hr T hT X with ⟨v, st₀, t, T', L, h0, X', hL, e1, e2, ⟨r9, hv1, hv2, hH, hF⟩, st9⟩ | ⟨q, st₀, t, T', L, E9, ce, h0, X', hL, e1, e2, ⟨e9, hv1, hv2, hH, hF⟩, hce, hcv, hcl, st9⟩
  · cases hv1
    cases hv2
    obtain ⟨k1, k2, k3⟩ := vx_keep h0 e1 hS (fun q _ h => h) (fun q h => h) hL hF
    obtain ⟨t2, a1, b1⟩ := kk T'.heap (locs ++ L) (by rw [e1]; exact hH) k3 T' rfl X'
    exact ⟨t2, st9 t2 a1, b1⟩
  · cases hv1
theorem ml_callVQ {E : ml_E} {g : ml_G} {cc : ByteArray} {own : String} {nL lv mc ms : Nat} {ret : Option FieldType} {tb : List ExceptionTableEntry} {Q : State → Prop} {k n pc : Nat} {ls : List (Nat × Value)} {st : List Value} {M : ml_M} {y : MethodName} {yc : ByteArray} {yn : Nat} {yr : Option FieldType} {lv2 mc2 ms2 z idx : Nat} {vl2 : Int32 → ml_M → Option Value} {av : List Value} {stk : List Value} {r8 : Int32} {M8 : ml_M} {kb ci : Nat} {fs : (Nat → Int32) → List Value} {T : u_T} {N : Nat} (F : ml_F E g cc own nL lv mc ms ret tb) (O : ml_O g kb ci fs) (hc : vwCl[ci]? = some (y.cls, T, N)) (hC : ml_C y yc yn yr lv2 mc2 ms2 g vl2 (ml_rf g kb :: av) M (.inl r8, M8)) (W1 : ml_wc y yc yn yr) (hlk2 : Cond.methodLink own idx y ∈ ml_all) (hwd : ml_wd y z) (hlv : lv2 < lv) (hk : k + mc2 ≤ mc) (hn2 : n + ms2 ≤ ms) (hz2 : av.length = z) (hsel : Cond.selects y.cls y y ∈ ml_all) (hins : Cond.instanceMethod y ∈ ml_all) (hstk : stk = av.reverse ++ ml_rf g kb :: st) (hroom : (st.map fun v => v.category).sum ≤ 8) (hd : decode cc pc = .ok (.invokevirtual idx, 3)) (K : ml_J E g nL Q (k + mc2) (n + ms2) (pc + 3) ls ((vl2 r8 M8).toList ++ st) M8) : ml_J E g nL Q k n (pc) ls (stk) M := by
  obtain ⟨p, e, R, s, m, args, below, meth, c⟩ := E
  obtain ⟨⟨hx, hb, ht, ho, hm, hlk⟩, ⟨hK, ⟨M0, hD0⟩, hX, hz, htr⟩, ⟨hR1, hR2, hR3, hR4⟩, hret, htb⟩ := F
  have hD : va_D (ml_A g) (ml_wm g M) := ml_D_any hD0
  intro H locs la hP hS hl
  exact ml_goQ (vx_runV (As := av) (rest := st) (C := y.cls) ⟨hx, hb, hm, ho, ht⟩ hC ⟨ml_cb ht W1 hlk2 hwd hR1 hR2 hlv, ht _ hins, ht _ hsel⟩ ⟨ml_H_blind, va_recv (D := g.2.1) (cl := vwCl) (tys := ml_ty g) hK hP hc (q0 := kb) (by rw [ml_wm_at O.1, O.2]), fun U hU hW => ⟨rfl, ml_H_to hW hU hP hS hK hD0 hX hz⟩⟩ rfl hz2 hl.1 hstk (lv_room hroom) hd ⟨by omega, by omega⟩) hS (fun H1 locs1 hP1 hS1 => K H1 locs1 la hP1 hS1 hl)
def ml_wsW (y : MethodName) (cc : ByteArray) (n : Nat) (ret : Option FieldType) (hh : List (Nat × Nat × Nat × Nat)) : List Cond := Cond.codeWith y cc n ret hh :: ml_all
/-- a contract of a method with a table of its own -/
def ml_CW (y : MethodName) (cc : ByteArray) (maxL : Nat) (ret : Option FieldType) (hh : List (Nat × Nat × Nat × Nat)) (lv mc ms : Nat) (g : ml_G) (vl : Int32 → ml_M → Option Value) (av : List Value) (M : ml_M) (res : ml_R) : Prop :=
  vx_Met g.2.2.2.2.2 y (ml_wsW y cc maxL ret hh) (ml_rm lv mc ms) (va_Pc av (ml_H g M)) (ml_Q g vl res) (ml_XC g res) mc ms (ml_A g)
def ml_wcW (y : MethodName) (yc : ByteArray) (yn : Nat) (yr : Option FieldType) (hh : List (Nat × Nat × Nat × Nat)) : Prop := Cond.codeWith y yc yn yr hh ∈ ml_all ∧ Cond.initialized y.cls ∈ ml_all ∧ yn ≤ 40
theorem ml_ofW {y : MethodName} {cc : ByteArray} {maxL : Nat} {ret : Option FieldType} {hh : List (Nat × Nat × Nat × Nat)} {lv mc ms : Nat} {g : ml_G} {vl : Int32 → ml_M → Option Value} {av : List Value} {M : ml_M} {res : ml_R} (ls : List (Nat × Value)) (hst : g.2.2.2.2.2.stackTraces = false) (hy : plainName y.cls = true) (hn : (lg_sl av).length ≤ maxL) (hls : lv_args 0 av = ls)
    (body : ∀ E : ml_E, ml_F E g cc y.cls maxL lv mc ms ret (tableOf hh) → ml_J E g maxL (ml_Z E g vl res mc ms) 0 0 0 ls [] M) : ml_CW y cc maxL ret hh lv mc ms g vl av M res := by
  subst hls
  refine vx_ofWH (cc := cc) (maxL := maxL) (ret := ret) (hh := hh) hy rfl ?_
  intro p e s m args below meth c s₁ B hml hv
  obtain ⟨rfl, hz, hP, hK, hD, hX⟩ := hv
  have hts := atoms_spec (ws := ml_wsW y cc maxL ret hh) B.pre
  have htb2 : c.exceptionTable.toList = tableOf hh := vx_table (x := y) B (hts _ List.mem_cons_self)
  rw [lg_entry_eq]
  exact body (p, e, (headSpec (ml_wsW y cc maxL ret hh) (ml_rm lv mc ms)).room, s, m, av.toArray, below, meth, c) ⟨⟨B.exec, B.bytes, fun w hw => hts w (List.mem_cons_of_mem _ hw), findClass_of_methodNamed B.named, hml, B.notSynchronized⟩, ⟨hK, ⟨M, hD⟩, hX, hz, hst⟩, ⟨Nat.le_refl _, Nat.le_refl _, Nat.le_refl _, Nat.le_refl _⟩, B.returns, htb2⟩ s.heap [] _ hP va_S.rf (lv_entry av hn)
/-- the handler of the exception e9 at pc -/
def ml_hd (own : String) (tb : List ExceptionTableEntry) (pc e9 h9 : Nat) : Prop := ∃ (pre : List ExceptionTableEntry) (x : ExceptionTableEntry) (suf : List ExceptionTableEntry), tb = pre ++ x :: suf ∧ (∀ z ∈ pre, covers z pc = false ∨ (z.catchType ≠ 0 ∧ ∃ nm : String, Cond.classLink own z.catchType nm ∈ ml_all ∧ (ml_ex e9, nm) ∈ ml_nc)) ∧ covers x pc = true ∧ x.catchType ≠ 0 ∧ Cond.classLink own x.catchType (ml_ex e9) ∈ ml_all ∧ Cond.castable (ml_ex e9) (ml_ex e9) ∈ ml_nest ∧ x.handlerPc = h9
theorem ml_callVC {E : ml_E} {g : ml_G} {cc : ByteArray} {own : String} {nL lv mc ms : Nat} {ret : Option FieldType} {tb : List ExceptionTableEntry} {Q : State → Prop} {k n pc : Nat} {ls : List (Nat × Value)} {st : List Value} {M : ml_M} {y : MethodName} {yc : ByteArray} {yn : Nat} {yr : Option FieldType} {lv2 mc2 ms2 z idx : Nat} {vl2 : Int32 → ml_M → Option Value} {av : List Value} {stk : List Value} {rs : ml_R} {kb ci : Nat} {fs : (Nat → Int32) → List Value} {T : u_T} {N : Nat} (F : ml_F E g cc own nL lv mc ms ret tb) (O : ml_O g kb ci fs) (hc : vwCl[ci]? = some (y.cls, T, N)) (hC : ml_C y yc yn yr lv2 mc2 ms2 g vl2 (ml_rf g kb :: av) M rs) (W1 : ml_wc y yc yn yr) (hlk2 : Cond.methodLink own idx y ∈ ml_all) (hwd : ml_wd y z) (hlv : lv2 < lv) (hk : k + mc2 ≤ mc) (hn2 : n + ms2 ≤ ms) (hz2 : av.length = z) (hsel : Cond.selects y.cls y y ∈ ml_all) (hins : Cond.instanceMethod y ∈ ml_all) (hstk : stk = av.reverse ++ ml_rf g kb :: st) (hroom : (st.map fun v => v.category).sum ≤ 8) (hd : decode cc pc = .ok (.invokevirtual idx, 3)) (K : ∀ r9, rs.1 = .inl r9 → ml_J E g nL Q (k + mc2) (n + ms2) (pc + 3) ls ((vl2 r9 rs.2).toList ++ st) rs.2) (KX : ∀ e9, rs.1 = .inr e9 → ∃ h9, ml_hd own tb pc e9 h9 ∧ ∀ q : Nat, ml_J E g nL Q (k + mc2) (n + ms2) (h9) ls (.ref q :: []) rs.2) : ml_J E g nL Q k n (pc) ls (stk) M := by
  obtain ⟨p, e, R, s, m, args, below, meth, c⟩ := E
  obtain ⟨⟨hx, hb, ht, ho, hm, hlk⟩, ⟨hK, ⟨M0, hD0⟩, hX, hz, htr⟩, ⟨hR1, hR2, hR3, hR4⟩, hret, htb⟩ := F
  have hD : va_D (ml_A g) (ml_wm g M) := ml_D_any hD0
  intro H locs la hP hS hl
  have hr := vx_runV (As := av) (rest := st) (C := y.cls) (Ts := ml_all) (e := e) (R := R) (below := below) (meth := meth) (locs := locs) (cells := k) (slots := n) ⟨hx, hb, hm, ho, ht⟩ hC ⟨ml_cb ht W1 hlk2 hwd hR1 hR2 hlv, ht _ hins, ht _ hsel⟩ ⟨ml_H_blind, va_recv (D := g.2.1) (cl := vwCl) (tys := ml_ty g) hK hP hc (q0 := kb) (by rw [ml_wm_at O.1, O.2]), fun U hU hW => ⟨rfl, ml_H_to hW hU hP hS hK hD0 hX hz⟩⟩ (g := F0 m pc la stk) rfl hz2 hl.1 hstk (lv_room hroom) hd ⟨by omega, by omega⟩
  intro T hT X
  rcases hr T hT X with ⟨v, st₀, t, T', L, h0, X', hL, e1, e2, ⟨r9, hv1, hv2, hH, hF⟩, st9⟩ | ⟨q, st₀, t, T', L, E9, ce, h0, X', hL, e1, e2, ⟨e9, hv1, hv2, hH, hF⟩, hce, hcv, hcl, st9⟩
  · cases hv2
    obtain ⟨k1, k2, k3⟩ := vx_keep h0 e1 hS (fun q _ h => h) (fun q h => h) hL hF
    obtain ⟨t2, a1, b1⟩ := K r9 hv1 T'.heap (locs ++ L) la (by rw [e1]; exact hH) k3 hl T' rfl X'
    exact ⟨t2, st9 t2 a1, b1⟩
  · obtain ⟨k1, k2, k3⟩ := vx_keep h0 e1 hS (fun q _ h => h) (fun q h => h) hL hF
    obtain ⟨h9, ⟨pre, x, suf, hsp, hpass, hcov, hct, hlk9, hcast, hh9⟩, KX⟩ := KX e9 hv1
    subst hv2
    subst hh9
    obtain ⟨t2, a1, b1⟩ := vx_catch (E := ml_ex e9) (ce := ce) (q := q) (pc := pc) (ls := la) (rest := st) (H := T'.heap) (locs := locs ++ L) ho pre x suf (htb.trans hsp) (fun z hz9 => (hpass z hz9).imp id (fun w => ⟨w.1, w.2.elim fun nm9 w2 => ⟨nm9, ht _ w2.1, hX.1.2.2.2.2.2.2.2.1 _ w2.2⟩⟩)) hcov hct (ht _ hlk9) (va_Nw.use rfl (hX.2.1 _ hcast)) (by rw [e1]; exact hce) hcv hcl (KX q T'.heap (locs ++ L) la (by rw [e1]; exact hH) k3 hl) T' rfl X'
    exact ⟨t2, st9.trans a1, b1⟩
theorem ml_callSQ {E : ml_E} {g : ml_G} {cc : ByteArray} {own : String} {nL lv mc ms : Nat} {ret : Option FieldType} {tb : List ExceptionTableEntry} {Q : State → Prop} {k n pc : Nat} {ls : List (Nat × Value)} {st : List Value} {M : ml_M} {y : MethodName} {yc : ByteArray} {yn : Nat} {yr : Option FieldType} {lv2 mc2 ms2 z idx : Nat} {vl2 : Int32 → ml_M → Option Value} {av : List Value} {stk : List Value} {r8 : Int32} {M8 : ml_M} {hh : List (Nat × Nat × Nat × Nat)} (F : ml_F E g cc own nL lv mc ms ret tb) (hC : ml_CW y yc yn yr hh lv2 mc2 ms2 g vl2 av M (.inl r8, M8)) (W1 : ml_wcW y yc yn yr hh) (hlk2 : Cond.methodLink own idx y ∈ ml_all) (hwd : ml_wd y z) (hlv : lv2 < lv) (hk : k + mc2 ≤ mc) (hn2 : n + ms2 ≤ ms) (hz2 : av.length = z) (hstt : Cond.static y ∈ ml_all) (hstk : stk = av.reverse ++ st) (hroom : (st.map fun v => v.category).sum ≤ 8) (hd : decode cc pc = .ok (.invokestatic idx, 3)) (K : ml_J E g nL Q (k + mc2) (n + ms2) (pc + 3) ls ((vl2 r8 M8).toList ++ st) M8) : ml_J E g nL Q k n (pc) ls (stk) M := by
  obtain ⟨p, e, R, s, m, args, below, meth, c⟩ := E
  obtain ⟨⟨hx, hb, ht, ho, hm, hlk⟩, ⟨hK, ⟨M0, hD0⟩, hX, hz, htr⟩, ⟨hR1, hR2, hR3, hR4⟩, hret, htb⟩ := F
  have hD : va_D (ml_A g) (ml_wm g M) := ml_D_any hD0
  intro H locs la hP hS hl
  have h4 := W1.2.2
  have hG : GoodIn ml_all (va_wsS own idx y (ml_wsW y yc yn yr hh)) := ml_goods (fun w hw => by
    rcases List.mem_append.mp hw with hw | hw
    · simp only [List.mem_cons, List.mem_nil_iff, or_false] at hw
      rcases hw with rfl | rfl | rfl
      · exact hlk2
      · exact hstt
      · exact W1.2.1
    · exact (List.mem_cons.mp hw).elim (fun e => e ▸ W1.1) id)
  exact ml_goQ (vx_runSX (As := av) (rest := st) (hh := hh) ⟨hx, hb, hm, ho, ht⟩ hC (vx_cwSW z ht hG rfl rfl rfl ⟨hwd.1, hwd.2.1, hwd.2.2⟩ ⟨by show 40 + lv2 + 1 ≤ _; omega, by show 8 + (yn + 11) + (800 + 64 * lv2) ≤ _; omega⟩) ⟨ml_H_blind, fun U hU hW => ⟨rfl, ml_H_to hW hU hP hS hK hD0 hX hz⟩⟩ rfl hz2 hl.1 hstk (lv_room hroom) hd ⟨by omega, by omega⟩) hS (fun H1 locs1 hP1 hS1 => K H1 locs1 la hP1 hS1 hl)
theorem ml_wid {E : ml_E} {g : ml_G} {nL : Nat} {Q : State → Prop} {k n k2 n2 pc : Nat} {ls : List (Nat × Value)} {st : List Value} {M : ml_M} (hk : k ≤ k2) (hn : n ≤ n2) (K : ml_J E g nL Q k2 n2 pc ls st M) : ml_J E g nL Q k n pc ls st M := by
  obtain ⟨p, e, R, s, m, args, below, meth, c⟩ := E
  exact fun H locs la hP hS hl => W.widen hk hn (K H locs la hP hS hl)
