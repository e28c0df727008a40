abbrev ml_Y : Type := (Nat × (Nat → Int32)) × (Nat → List Int32)
theorem ml_xlen {E : ml_E} {g : ml_G} {cc : ByteArray} {own : String} {nL lv mc ms : Nat} {ret : Option FieldType} {tb : List ExceptionTableEntry} {Q : State → Prop} {k n pc : Nat} {ls : List (Nat × Value)} {st : List Value} {M : ml_M}  (F : ml_F E g cc own nL lv mc ms ret tb) (hd : decode cc pc = .ok (.arraylength, 1)) (K : ml_J E g nL Q k n (pc + 1) ls (.int (nI (ml_sc g).1) :: st) M) : ml_J E g nL Q k n (pc) ls (.ref (g.2.2.2.2.1 4) :: st) M := by
  obtain ⟨p, e, R, s, m, args, below, meth, c⟩ := E
  obtain ⟨⟨hx, hb, ht, ho, hm, hlk⟩, ⟨hK, ⟨M0, hD0⟩, hX, hz, htr⟩, ⟨hR1, hR2, hR3, hR4⟩, hret, htb⟩ := F
  have hD : va_D (ml_A g) (ml_wm g M) := ml_D_any hD0
  intro H locs la hP hS hl
  exact va_tlen hx hb hX.1.2.2.2.2.2.2.2.2.1 hS rfl hd (K H locs la hP hS hl)
theorem ml_xld {E : ml_E} {g : ml_G} {cc : ByteArray} {own : String} {nL lv mc ms : Nat} {ret : Option FieldType} {tb : List ExceptionTableEntry} {Q : State → Prop} {k n pc : Nat} {ls : List (Nat × Value)} {st : List Value} {M : ml_M} {i : Int32} {α : Type} {A : Option α} {r : α} {dec : Decidable (ml_ok i (ml_sc g).1)} (F : ml_F E g cc own nL lv mc ms ret tb) (h : (@ite _ (ml_ok i (ml_sc g).1) dec A none) = some r) (hd : decode cc pc = .ok (.iaload, 1)) (K : A = some r → ml_J E g nL Q k n (pc + 1) ls (.int ((ml_sc g).2 i.toNatClampNeg) :: st) M) : ml_J E g nL Q k n (pc) ls (.int i :: .ref (g.2.2.2.2.1 4) :: st) M := by
  obtain ⟨p, e, R, s, m, args, below, meth, c⟩ := E
  obtain ⟨⟨hx, hb, ht, ho, hm, hlk⟩, ⟨hK, ⟨M0, hD0⟩, hX, hz, htr⟩, ⟨hR1, hR2, hR3, hR4⟩, hret, htb⟩ := F
  have hD : va_D (ml_A g) (ml_wm g M) := ml_D_any hD0
  intro H locs la hP hS hl
  have hq := ml_if h
  exact va_ti hx hb hX.1.2.2.2.2.2.2.2.2.1 hS (ml_ok_in hq.1) rfl hd (K hq.2 H locs la hP hS hl)
theorem ml_nn {E : ml_E} {g : ml_G} {cc : ByteArray} {own : String} {nL lv mc ms : Nat} {ret : Option FieldType} {tb : List ExceptionTableEntry} {Q : State → Prop} {k n pc : Nat} {ls : List (Nat × Value)} {st : List Value} {M : ml_M} {x : Nat} {off : Int} {tgt : Nat} (F : ml_F E g cc own nL lv mc ms ret tb) (hd : decode cc pc = .ok (.ifnonnull off, 3)) (hg : (pc : Int) + off = (tgt : Int)) (K : ml_J E g nL Q k n (tgt) ls (st) M) : ml_J E g nL Q k n (pc) ls (.ref x :: st) M := by
  obtain ⟨p, e, R, s, m, args, below, meth, c⟩ := E
  obtain ⟨⟨hx, hb, ht, ho, hm, hlk⟩, ⟨hK, ⟨M0, hD0⟩, hX, hz, htr⟩, ⟨hR1, hR2, hR3, hR4⟩, hret, htb⟩ := F
  have hD : va_D (ml_A g) (ml_wm g M) := ml_D_any hD0
  intro H locs la hP hS hl
  exact lv_ifnonnull hx hb hd hg (K H locs la hP hS hl)
abbrev ml_okc (sp dp n : Int32) (len : Nat) : Prop := ¬ sp < 0 ∧ ¬ dp < 0 ∧ ¬ n < 0 ∧ sp.toNatClampNeg + n.toNatClampNeg ≤ len ∧ dp.toNatClampNeg + n.toNatClampNeg ≤ 16
/-- bytes are copied into the builder's -/
def ml_cp (M : ml_M) (f : Nat → Int32) (sp dp n : Int32) : ml_M := fun a => if a = 10 then va_cpy f (M 10) sp.toNatClampNeg dp.toNatClampNeg n.toNatClampNeg else M a
theorem ml_wm_cp {g : ml_G} {M : ml_M} {f : Nat → Int32} {sp dp n : Int32} : (ml_wm g M).set (ml_ix 10) (g.2.2.2.1 10, .inl (g.2.2.1 4, 16, .inl (va_cpy f (M 10) sp.toNatClampNeg dp.toNatClampNeg n.toNatClampNeg))) = ml_wm g (ml_cp M f sp dp n) := by
  apply List.ext_getElem?
  intro i
  rw [List.getElem?_set]
  by_cases hi : i < 176
  · by_cases h : ml_ix 10 = i
    · subst h
      rw [if_pos rfl, if_pos (by rw [ml_wm_len]; exact hi), ml_wm_at (by decide)]
      rfl
    · rw [if_neg h, ml_wm_ai hi, ml_wm_ai hi]
      have hne : ml_pk i ≠ 10 := fun e => h (by rw [← e]; exact (ml_pk_vp hi).2)
      unfold ml_cp
      rw [if_neg hne]
  · have h2 : ml_ix 10 ≠ i := fun e => hi (by rw [← e]; exact (ml_pk_ix (by decide)).2)
    rw [if_neg h2]
    simp [ml_wm, hi]
theorem ml_copy {E : ml_E} {g : ml_G} {cc : ByteArray} {own : String} {nL lv mc ms : Nat} {ret : Option FieldType} {tb : List ExceptionTableEntry} {Q : State → Prop} {k n pc : Nat} {ls : List (Nat × Value)} {st : List Value} {M : ml_M} {idx q8 : Nat} {sp dp n9 : Int32} {α : Type} {A : Option α} {r : α} {dec : Decidable (ml_okc sp dp n9 (ml_sb g q8).length)} (F : ml_F E g cc own nL lv mc ms ret tb) (hq8 : q8 < 7) (h : (@ite _ (ml_okc sp dp n9 (ml_sb g q8).length) dec A none) = some r) (hlk2 : Cond.methodLink own idx arraycopyName ∈ ml_all) (hnt : Cond.native arraycopyName ∈ ml_all) (hstt : Cond.static arraycopyName ∈ ml_all) (hin9 : Cond.initialized "java/lang/System" ∈ ml_all) (hd : decode cc pc = .ok (.invokestatic idx, 3)) (hroom : (st.map fun v => v.category).sum ≤ 8) (K : A = some r → ml_J E g nL Q k n (pc + 3) ls (st) (ml_cp M (fun j => (ml_sb g q8).getD j 0) sp dp n9)) : ml_J E g nL Q k n (pc) ls (.int n9 :: .int dp :: ml_rf g 10 :: .int sp :: .ref (g.2.2.2.2.1 (40 + q8)) :: st) M := by
  obtain ⟨p, e, R, s, m, args, below, meth, c⟩ := E
  obtain ⟨⟨hx, hb, ht, ho, hm, hlk⟩, ⟨hK, ⟨M0, hD0⟩, hX, hz, htr⟩, ⟨hR1, hR2, hR3, hR4⟩, hret, htb⟩ := F
  have hD : va_D (ml_A g) (ml_wm g M) := ml_D_any hD0
  intro H locs la hP hS hl
  have hq := ml_if h
  refine vk_copyt (D := g.2.1) (cl := vwCl) (tys := ml_ty g) (f := fun j => (ml_sb g q8).getD j 0) (g := M 10) (n1 := 16) hx hb (hm.trans hl.1.symm) ho (ht _ hlk2) (ht _ hnt) (ht _ hstt) (ht _ hin9) hK hP hD hS (hX.1.2.2.2.2.2.2.1 q8 hq8).1.2.2.2 (ml_ix 10) 4 (by rw [ml_wm_at (by decide)]; rfl) rfl hq.1.1 hq.1.2.1 hq.1.2.2.1 hq.1.2.2.2.1 hq.1.2.2.2.2 (fun i _ => (hX.1.2.2.2.2.2.2.1 q8 hq8).2 _) (by omega) (by
    have h5 : nativeFrameWords "java/lang/System" "arraycopy" 5 ≤ 100 := by decide
    omega) hd (fun H1 locs1 hP1 hD1 hS1 => ?_)
  rw [ml_wm_cp] at hP1
  exact K hq.2 H1 locs1 la hP1 hS1 hl
theorem ml_goQ {p : Program} {l : Launch} {e : Env} {R : Room} {s : State} {m : MethodId} {args : Array Value} {below : List Frame} {meth : Method} {c : Code} {H : Heap} {locs : List Loc} {k n mc2 ms2 : Nat} {pc : Nat} {la : Array Slot} {st stk : List Value} {g : ml_G} {vl2 : Int32 → ml_M → Option Value} {r8 : Int32} {M8 : ml_M} {a : Array Value} {Q : State → Prop}
    (hr : vx_Run p l e R s m args below meth c H locs k n mc2 ms2 (F0 m pc la stk) st (ml_Q g vl2 (.inl r8, M8) a) (ml_XC g (.inl r8, M8)) (ml_A g)) (hS : va_S (ml_A g) s.heap H locs)
    (kk : ∀ (H1 : Heap) (locs1 : List Loc), ml_P g M8 H1 → va_S (ml_A g) s.heap H1 locs1 → W p l e R s m args below meth c H1 locs1 (k + mc2) (n + ms2) Q (F0 m (pc + 3) la ((vl2 r8 M8).toList ++ st))) :
    W p l e R s m args below meth c H locs k n Q (F0 m pc la stk) := by
  intro T hT X
  rcases hr T hT X with ⟨v, st₀, t, T', L, h0, X', hL, e1, e2, ⟨r9, hv1, hv2, hH, hF⟩, st9⟩ | ⟨q, st₀, t, T', L, E9, ce, h0, X', hL, e1, e2, ⟨e9, hv1, hv2, hH, hF⟩, hce, hcv, hcl, st9⟩
  · cases hv1
    cases hv2
    obtain ⟨k1, k2, k3⟩ := vx_keep h0 e1 hS (fun q _ h => h) (fun q h => h) hL hF
    obtain ⟨t2, a1, b1⟩ := kk T'.heap (locs ++ L) (by rw [e1]; exact hH) k3 T' rfl X'
    exact ⟨t2, st9 t2 a1, b1⟩
  · cases hv1
def ml_wsW (y : MethodName) (cc : ByteArray) (n : Nat) (ret : Option FieldType) (hh : List (Nat × Nat × Nat × Nat)) : List Cond := Cond.codeWith y cc n ret hh :: ml_all
def ml_CW (y : MethodName) (cc : ByteArray) (maxL : Nat) (ret : Option FieldType) (hh : List (Nat × Nat × Nat × Nat)) (lv mc ms : Nat) (g : ml_G) (vl : Int32 → ml_M → Option Value) (av : List Value) (M : ml_M) (res : ml_R) : Prop :=
  vx_Met g.2.2.2.2.2 y (ml_wsW y cc maxL ret hh) (ml_rm lv mc ms) (va_Pc av (ml_H g M)) (ml_Q g vl res) (ml_XC g res) mc ms (ml_A g)
def ml_wcW (y : MethodName) (yc : ByteArray) (yn : Nat) (yr : Option FieldType) (hh : List (Nat × Nat × Nat × Nat)) : Prop := Cond.codeWith y yc yn yr hh ∈ ml_all ∧ Cond.initialized y.cls ∈ ml_all ∧ yn ≤ 40
theorem ml_ofW {y : MethodName} {cc : ByteArray} {maxL : Nat} {ret : Option FieldType} {hh : List (Nat × Nat × Nat × Nat)} {lv mc ms : Nat} {g : ml_G} {vl : Int32 → ml_M → Option Value} {av : List Value} {M : ml_M} {res : ml_R} (ls : List (Nat × Value)) (hst : g.2.2.2.2.2.stackTraces = false) (hy : plainName y.cls = true) (hn : (lg_sl av).length ≤ maxL) (hls : lv_args 0 av = ls)
    (body : ∀ E : ml_E, ml_F E g cc y.cls maxL lv mc ms ret (tableOf hh) → ml_J E g maxL (ml_Z E g vl res mc ms) 0 0 0 ls [] M) : ml_CW y cc maxL ret hh lv mc ms g vl av M res := by
  subst hls
  refine vx_ofWH (cc := cc) (maxL := maxL) (ret := ret) (hh := hh) hy rfl ?_
  intro p e s m args below meth c s₁ B hml hv
  obtain ⟨rfl, hz, hP, hK, hD, hX⟩ := hv
  have hts := atoms_spec (ws := ml_wsW y cc maxL ret hh) B.pre
  have htb2 : c.exceptionTable.toList = tableOf hh := vx_table (x := y) B (hts _ List.mem_cons_self)
  rw [lg_entry_eq]
  exact body (p, e, (headSpec (ml_wsW y cc maxL ret hh) (ml_rm lv mc ms)).room, s, m, av.toArray, below, meth, c) ⟨⟨B.exec, B.bytes, fun w hw => hts w (List.mem_cons_of_mem _ hw), findClass_of_methodNamed B.named, hml, B.notSynchronized⟩, ⟨hK, ⟨M, hD⟩, hX, hz, hst⟩, ⟨Nat.le_refl _, Nat.le_refl _, Nat.le_refl _, Nat.le_refl _⟩, B.returns, htb2⟩ s.heap [] _ hP va_S.rf (lv_entry av hn)
def ml_hd (own : String) (tb : List ExceptionTableEntry) (pc e9 h9 : Nat) : Prop := ∃ (pre : List ExceptionTableEntry) (x : ExceptionTableEntry) (suf : List ExceptionTableEntry), tb = pre ++ x :: suf ∧ (∀ z ∈ pre, covers z pc = false ∨ (z.catchType ≠ 0 ∧ ∃ nm : String, Cond.classLink own z.catchType nm ∈ ml_all ∧ (ml_ex e9, nm) ∈ ml_nc)) ∧ covers x pc = true ∧ x.catchType ≠ 0 ∧ Cond.classLink own x.catchType (ml_ex e9) ∈ ml_all ∧ Cond.castable (ml_ex e9) (ml_ex e9) ∈ ml_nest ∧ x.handlerPc = h9
theorem ml_callVC {E : ml_E} {g : ml_G} {cc : ByteArray} {own : String} {nL lv mc ms : Nat} {ret : Option FieldType} {tb : List ExceptionTableEntry} {Q : State → Prop} {k n pc : Nat} {ls : List (Nat × Value)} {st : List Value} {M : ml_M} {y : MethodName} {yc : ByteArray} {yn : Nat} {yr : Option FieldType} {lv2 mc2 ms2 z idx : Nat} {vl2 : Int32 → ml_M → Option Value} {av : List Value} {stk : List Value} {rs : ml_R} {kb ci : Nat} {fs : (Nat → Int32) → List Value} {T : u_T} {N : Nat} (F : ml_F E g cc own nL lv mc ms ret tb) (O : ml_O g kb ci fs) (hc : vwCl[ci]? = some (y.cls, T, N)) (hC : ml_C y yc yn yr lv2 mc2 ms2 g vl2 (ml_rf g kb :: av) M rs) (W1 : ml_wc y yc yn yr) (hlk2 : Cond.methodLink own idx y ∈ ml_all) (hwd : ml_wd y z) (hlv : lv2 < lv) (hk : k + mc2 ≤ mc) (hn2 : n + ms2 ≤ ms) (hz2 : av.length = z) (hsel : Cond.selects y.cls y y ∈ ml_all) (hins : Cond.instanceMethod y ∈ ml_all) (hstk : stk = av.reverse ++ ml_rf g kb :: st) (hroom : (st.map fun v => v.category).sum ≤ 8) (hd : decode cc pc = .ok (.invokevirtual idx, 3)) (K : ∀ r9, rs.1 = .inl r9 → ml_J E g nL Q (k + mc2) (n + ms2) (pc + 3) ls ((vl2 r9 rs.2).toList ++ st) rs.2) (KX : ∀ e9, rs.1 = .inr e9 → ∃ h9, ml_hd own tb pc e9 h9 ∧ ∀ q : Nat, ml_J E g nL Q (k + mc2) (n + ms2) (h9) ls (.ref q :: []) rs.2) : ml_J E g nL Q k n (pc) ls (stk) M := by
  obtain ⟨p, e, R, s, m, args, below, meth, c⟩ := E
  obtain ⟨⟨hx, hb, ht, ho, hm, hlk⟩, ⟨hK, ⟨M0, hD0⟩, hX, hz, htr⟩, ⟨hR1, hR2, hR3, hR4⟩, hret, htb⟩ := F
  have hD : va_D (ml_A g) (ml_wm g M) := ml_D_any hD0
  intro H locs la hP hS hl
  have hr := vx_runV (As := av) (rest := st) (C := y.cls) (Ts := ml_all) (e := e) (R := R) (below := below) (meth := meth) (locs := locs) (cells := k) (slots := n) ⟨hx, hb, hm, ho, ht⟩ hC ⟨ml_cb ht W1 hlk2 hwd hR1 hR2 hlv, ht _ hins, ht _ hsel⟩ ⟨ml_H_blind, va_recv (D := g.2.1) (cl := vwCl) (tys := ml_ty g) hK hP hc (q0 := ml_ix kb) (by rw [ml_wm_at O.1, O.2]), fun U hU hW => ⟨rfl, ml_H_to hW hU hP hS hK hD0 hX hz⟩⟩ (g := F0 m pc la stk) rfl hz2 hl.1 hstk (lv_room hroom) hd ⟨by omega, by omega⟩
  intro T hT X
  rcases hr T hT X with ⟨v, st₀, t, T', L, h0, X', hL, e1, e2, ⟨r9, hv1, hv2, hH, hF⟩, st9⟩ | ⟨q, st₀, t, T', L, E9, ce, h0, X', hL, e1, e2, ⟨e9, hv1, hv2, hH, hF⟩, hce, hcv, hcl, st9⟩
  · cases hv2
    obtain ⟨k1, k2, k3⟩ := vx_keep h0 e1 hS (fun q _ h => h) (fun q h => h) hL hF
    obtain ⟨t2, a1, b1⟩ := K r9 hv1 T'.heap (locs ++ L) la (by rw [e1]; exact hH) k3 hl T' rfl X'
    exact ⟨t2, st9 t2 a1, b1⟩
  · obtain ⟨k1, k2, k3⟩ := vx_keep h0 e1 hS (fun q _ h => h) (fun q h => h) hL hF
    obtain ⟨h9, ⟨pre, x, suf, hsp, hpass, hcov, hct, hlk9, hcast, hh9⟩, KX⟩ := KX e9 hv1
    subst hv2
    subst hh9
    obtain ⟨t2, a1, b1⟩ := vx_catch (E := ml_ex e9) (ce := ce) (q := q) (pc := pc) (ls := la) (rest := st) (H := T'.heap) (locs := locs ++ L) ho pre x suf (htb.trans hsp) (fun z hz9 => (hpass z hz9).imp id (fun w => ⟨w.1, w.2.elim fun nm9 w2 => ⟨nm9, ht _ w2.1, hX.1.2.2.2.2.2.2.2.1 _ w2.2⟩⟩)) hcov hct (ht _ hlk9) (va_Nw.use rfl (hX.2.1 _ hcast)) (by rw [e1]; exact hce) hcv hcl (KX q T'.heap (locs ++ L) la (by rw [e1]; exact hH) k3 hl) T' rfl X'
    exact ⟨t2, st9.trans a1, b1⟩
theorem ml_wid {E : ml_E} {g : ml_G} {nL : Nat} {Q : State → Prop} {k n k2 n2 pc : Nat} {ls : List (Nat × Value)} {st : List Value} {M : ml_M} (hk : k ≤ k2) (hn : n ≤ n2) (K : ml_J E g nL Q k2 n2 pc ls st M) : ml_J E g nL Q k n pc ls st M := by
  obtain ⟨p, e, R, s, m, args, below, meth, c⟩ := E
  exact fun H locs la hP hS hl => W.widen hk hn (K H locs la hP hS hl)

theorem ml_callSW {E : ml_E} {g : ml_G} {cc : ByteArray} {own : String} {nL lv mc ms : Nat} {ret : Option FieldType} {k n pc : Nat} {ls : List (Nat × Value)} {st : List Value} {M : ml_M} {vl : Int32 → ml_M → Option Value} {res : ml_R} {y : MethodName} {yc : ByteArray} {yn : Nat} {yr : Option FieldType} {lv2 mc2 ms2 z idx : Nat} {vl2 : Int32 → ml_M → Option Value} {av : List Value} {x : Option ml_R} {B : Int32 → ml_M → Option ml_R} {stk : List Value} {hh : List (Nat × Nat × Nat × Nat)} (F : ml_F E g cc own nL lv mc ms ret []) (h : ml_bd x B = some res) (hC : ∀ rs, x = some rs → ml_CW y yc yn yr hh lv2 mc2 ms2 g vl2 av M rs) (W1 : ml_wcW y yc yn yr hh) (hlk2 : Cond.methodLink own idx y ∈ ml_all) (hwd : ml_wd y z) (hlv : lv2 < lv) (hk : k + mc2 ≤ mc) (hn2 : n + ms2 ≤ ms) (hz2 : av.length = z) (hstt : Cond.static y ∈ ml_all) (hstk : stk = av.reverse ++ st) (hroom : (st.map fun v => v.category).sum ≤ 8) (hd : decode cc pc = .ok (.invokestatic idx, 3)) (K : ∀ (r9 : Int32) (M9 : ml_M), B r9 M9 = some res → ml_J E g nL (ml_Z E g vl res mc ms) (k + mc2) (n + ms2) (pc + 3) ls ((vl2 r9 M9).toList ++ st) M9) : ml_J E g nL (ml_Z E g vl res mc ms) k n (pc) ls (stk) M := by
  obtain ⟨p, e, R, s, m, args, below, meth, c⟩ := E
  obtain ⟨⟨hx, hb, ht, ho, hm, hlk⟩, ⟨hK, ⟨M0, hD0⟩, hX, hz, htr⟩, ⟨hR1, hR2, hR3, hR4⟩, hret, htb⟩ := F
  have hD : va_D (ml_A g) (ml_wm g M) := ml_D_any hD0
  intro H locs la hP hS hl
  obtain ⟨rs, hx1, hx2, hx3⟩ := ml_bd_k h
  have h4 := W1.2.2
  have hG : GoodIn ml_all (va_wsS own idx y (ml_wsW y yc yn yr hh)) := ml_goods (fun w hw => by
    rcases List.mem_append.mp hw with hw | hw
    · simp only [List.mem_cons, List.mem_nil_iff, or_false] at hw
      rcases hw with rfl | rfl | rfl
      · exact hlk2
      · exact hstt
      · exact W1.2.1
    · exact (List.mem_cons.mp hw).elim (fun e => e ▸ W1.1) id)
  refine ml_after (vx_runSX (As := av) (rest := st) (hh := hh) ⟨hx, hb, hm, ho, ht⟩ (hC rs hx1) (vx_cwSW z ht hG rfl rfl rfl ⟨hwd.1, hwd.2.1, hwd.2.2⟩ ⟨by show 40 + lv2 + 1 ≤ _; omega, by show 8 + (yn + 11) + (800 + 64 * lv2) ≤ _; omega⟩) ⟨ml_H_blind, fun U hU hW => ⟨rfl, ml_H_to hW hU hP hS hK hD0 hX hz⟩⟩ rfl hz2 hl.1 hstk (lv_room hroom) hd ⟨by omega, by omega⟩) hS htb hlk hk hn2 (fun r9 H1 locs1 h9 hP1 hS1 => K r9 rs.2 (hx2 r9 h9) H1 locs1 la hP1 hS1 hl) hx3
