/-! MADE TEXTS: a walk over the whole list. -/
def li_N (E : ml_E) : Prop := match E with
  | (_, _, _, _, _, _, _, meth, _) => meth.name = "<init>"
def li_HL (g : ml_G) (L : va_W) (sz : Nat) (U : State) : Prop := U.heap.size = sz ∧ va_P g.2.1 vwCl L U.heap ∧ ml_K g U ∧ va_D (ml_A g) L ∧ (∀ q : Nat, sz ≤ q → ml_A g q) ∧ ml_X g U U.heap
def li_QR (g : ml_G) (A : Nat → Prop) (post : (Nat → Nat) → va_W) : Array Value → State → Outcome → State → Prop := va_Qr (fun _ : Nat → Nat => True) (fun q a t => a = q 0 ∧ va_P g.2.1 vwCl (post q) t.heap ∧ va_D A (post q)) A
def li_QV (g : ml_G) (A : Nat → Prop) (post : (Nat → Nat) → va_W) : Array Value → State → Outcome → State → Prop := va_Qv (fun _ : Nat → Nat => True) (fun q t => va_P g.2.1 vwCl (post q) t.heap ∧ va_D A (post q)) A
/-- a contract over a list: it returns a reference to what it makes -/
def li_CR (y : MethodName) (cc : ByteArray) (maxL : Nat) (ret : Option FieldType) (lv mc ms : Nat) (g : ml_G) (av : List Value) (L : va_W) (post : (Nat → Nat) → va_W) : Prop := ∀ sz : Nat, Met g.2.2.2.2.2 y (ml_ws y cc maxL ret) (ml_rm lv mc ms) (va_Pc av (li_HL g L sz)) (li_QR g (va_A L sz) post) mc ms (va_A L sz)
def li_CV (y : MethodName) (cc : ByteArray) (maxL : Nat) (lv mc ms : Nat) (g : ml_G) (av : List Value) (L : va_W) (post : (Nat → Nat) → va_W) : Prop := ∀ sz : Nat, Met g.2.2.2.2.2 y (ml_ws y cc maxL none) (ml_rm lv mc ms) (va_Pc av (li_HL g L sz)) (li_QV g (va_A L sz) post) mc ms (va_A L sz)
def li_ZR (E : ml_E) (g : ml_G) (A : Nat → Prop) (post : (Nat → Nat) → va_W) (mc ms : Nat) : State → Prop := match E with
  | (_, _, _, s, _, args, below, _, _) => MQ below (li_QR g A post) args s mc ms A
def li_ZV (E : ml_E) (g : ml_G) (A : Nat → Prop) (post : (Nat → Nat) → va_W) (mc ms : Nat) : State → Prop := match E with
  | (_, _, _, s, _, args, below, _, _) => MQ below (li_QV g A post) args s mc ms A
theorem li_ofR {y : MethodName} {cc : ByteArray} {maxL lv mc ms : Nat} {ret : Option FieldType} {g : ml_G} {av : List Value} {L : va_W} {post : (Nat → Nat) → va_W} (ls : List (Nat × Value)) (hy : plainName y.cls = true) (hn : (lg_sl av).length ≤ maxL) (hls : lv_args 0 av = ls)
    (body : ∀ (E : ml_E) (A : Nat → Prop), li_F E g A cc y.cls maxL lv mc ms ret → (y.name = "<init>" → li_N E) → cn_J E g A maxL (li_ZR E g A post mc ms) 0 0 0 ls [] L) : li_CR y cc maxL ret lv mc ms g av L post := by
  subst hls
  intro sz
  refine Met.ofW (cc := cc) (maxL := maxL) (ret := ret) hy rfl ?_
  intro p e s m args below meth c s₁ B hml hv
  obtain ⟨rfl, hsz, hP, hK, hD, hz, hX⟩ := hv
  subst hsz
  have hts := atoms_spec (ws := ml_ws y cc maxL ret) B.pre
  rw [lg_entry_eq]
  refine body (p, e, (headSpec (ml_ws y cc maxL ret) (ml_rm lv mc ms)).room, s, m, av.toArray, below, meth, c) (va_A L s.heap.size) ⟨⟨B.exec, B.bytes, fun w hw => hts w (List.mem_cons_of_mem _ hw), findClass_of_methodNamed B.named, hml, B.notSynchronized⟩, ⟨hK, hX, hz, fun q h => Or.inr h, ?_⟩, ⟨Nat.le_refl _, Nat.le_refl _, Nat.le_refl _, Nat.le_refl _⟩, B.returns⟩ (fun hyn => (name_of_methodNamed B.named B.method).1.trans hyn) s.heap [] _ hP hD.self va_S.rf (lv_entry av hn)
  rintro q (⟨k, e9, h⟩ | h)
  · exact hD.2 k _ h
  · exact hz q h
theorem li_ofV {y : MethodName} {cc : ByteArray} {maxL lv mc ms : Nat} {g : ml_G} {av : List Value} {L : va_W} {post : (Nat → Nat) → va_W} (ls : List (Nat × Value)) (hy : plainName y.cls = true) (hn : (lg_sl av).length ≤ maxL) (hls : lv_args 0 av = ls)
    (body : ∀ (E : ml_E) (A : Nat → Prop), li_F E g A cc y.cls maxL lv mc ms none → (y.name = "<init>" → li_N E) → cn_J E g A maxL (li_ZV E g A post mc ms) 0 0 0 ls [] L) : li_CV y cc maxL lv mc ms g av L post := by
  subst hls
  intro sz
  refine Met.ofW (cc := cc) (maxL := maxL) (ret := none) hy rfl ?_
  intro p e s m args below meth c s₁ B hml hv
  obtain ⟨rfl, hsz, hP, hK, hD, hz, hX⟩ := hv
  subst hsz
  have hts := atoms_spec (ws := ml_ws y cc maxL none) B.pre
  rw [lg_entry_eq]
  refine body (p, e, (headSpec (ml_ws y cc maxL none) (ml_rm lv mc ms)).room, s, m, av.toArray, below, meth, c) (va_A L s.heap.size) ⟨⟨B.exec, B.bytes, fun w hw => hts w (List.mem_cons_of_mem _ hw), findClass_of_methodNamed B.named, hml, B.notSynchronized⟩, ⟨hK, hX, hz, fun q h => Or.inr h, ?_⟩, ⟨Nat.le_refl _, Nat.le_refl _, Nat.le_refl _, Nat.le_refl _⟩, B.returns⟩ (fun hyn => (name_of_methodNamed B.named B.method).1.trans hyn) s.heap [] _ hP hD.self va_S.rf (lv_entry av hn)
  rintro q (⟨k, e9, h⟩ | h)
  · exact hD.2 k _ h
  · exact hz q h
theorem li_blind {g : ml_G} {L : va_W} {sz : Nat} {av : List Value} : FrameBlind (va_Pc av (li_HL g L sz)) := by
  intro a U g9 mk hq
  obtain ⟨q0, q1, q2, q3, q4, q5, q6⟩ := hq
  exact ⟨q0, q1, q2, va_K.moved (u := U) (U := U.calling g9 mk a) (Vm.Alike.refl U.vm) q3, q4, q5, ⟨ml_X1_to (s := U) (U := U.calling g9 mk a) (Vm.Alike.refl U.vm) (fun _ _ _ => rfl) q6.1, ml_X2_to (s := U) (U := U.calling g9 mk a) (State.WarmedH.refl U) q6.2⟩⟩
theorem li_vret {E : ml_E} {g : ml_G} {A : Nat → Prop} {cc : ByteArray} {own : String} {nL lv mc ms : Nat} {k n pc : Nat} {ls : List (Nat × Value)} {L : va_W} {post : (Nat → Nat) → va_W} (F : li_F E g A cc own nL lv mc ms none) (q : Nat → Nat) (hL : L = post q) (hk : k ≤ mc) (hn2 : n ≤ ms) (hd : decode cc pc = .ok (.return_, 1)) : cn_J E g A nL (li_ZV E g A post mc ms) (k) (n) (pc) ls ([]) (L) := by
  obtain ⟨p, e, R, s, m, args, below, meth, c⟩ := E
  obtain ⟨⟨hx, hb, ht, ho, hm, hlk⟩, ⟨hK, hX, hz, hA, hA2⟩, ⟨hR1, hR2, hR3, hR4⟩, hret⟩ := F
  intro H locs la hP hD hS hl
  subst hL
  refine W.widen hk hn2 ?_
  exact W.vret hx hb hret (fun t ht9 hW => ⟨⟨q, rfl, trivial, by rw [ht9]; exact hP, hD⟩, hS.F ht9⟩) hS.2.2 hd hlk
theorem li_aret {E : ml_E} {g : ml_G} {A : Nat → Prop} {cc : ByteArray} {own : String} {nL lv mc ms : Nat} {k n pc : Nat} {ls : List (Nat × Value)} {L : va_W} {rt : FieldType} {a : Nat} {post : (Nat → Nat) → va_W} (F : li_F E g A cc own nL lv mc ms (some rt)) (hrt : (∃ n, rt = FieldType.object n) ∨ ∃ t, rt = FieldType.array t) (q : Nat → Nat) (hq0 : a = q 0) (hL : L = post q) (hk : k ≤ mc) (hn2 : n ≤ ms) (hd : decode cc pc = .ok (.areturn, 1)) : cn_J E g A nL (li_ZR E g A post mc ms) (k) (n) (pc) ls (.ref a :: []) (L) := by
  obtain ⟨p, e, R, s, m, args, below, meth, c⟩ := E
  obtain ⟨⟨hx, hb, ht, ho, hm, hlk⟩, ⟨hK, hX, hz, hA, hA2⟩, ⟨hR1, hR2, hR3, hR4⟩, hret⟩ := F
  intro H locs la hP hD hS hl
  subst hL
  refine W.widen hk hn2 ?_
  exact W.aret (v := .ref a) (rt := rt) hx hb hret hrt (Or.inr ⟨_, rfl⟩) (fun t ht9 hW => ⟨⟨q, a, rfl, trivial, hq0, by rw [ht9]; exact hP, hD⟩, hS.F ht9⟩) hS.2.2 hd hlk
theorem li_null {E : ml_E} {g : ml_G} {A : Nat → Prop} {cc : ByteArray} {own : String} {nL lv mc ms : Nat} {ret : Option FieldType} {Q : State → Prop} {k n pc : Nat} {ls : List (Nat × Value)} {st : List Value} {L : va_W}  (F : li_F E g A cc own nL lv mc ms ret) (hd : decode cc pc = .ok (.aconst_null, 1)) (K : cn_J E g A nL Q (k) (n) (pc + 1) ls (.null :: st) (L)) : cn_J E g A nL Q (k) (n) (pc) ls (st) (L) := by
  obtain ⟨p, e, R, s, m, args, below, meth, c⟩ := E
  obtain ⟨⟨hx, hb, ht, ho, hm, hlk⟩, ⟨hK, hX, hz, hA, hA2⟩, ⟨hR1, hR2, hR3, hR4⟩, hret⟩ := F
  intro H locs la hP hD hS hl
  exact lv_null hx hb hd (K H locs la hP hD hS hl)
theorem li_obj {E : ml_E} {g : ml_G} {A : Nat → Prop} {cc : ByteArray} {own : String} {nL lv mc ms : Nat} {ret : Option FieldType} {Q : State → Prop} {k n pc : Nat} {ls : List (Nat × Value)} {st : List Value} {L : va_W} {idx : Nat} {a : Nat} (F : li_F E g A cc own nL lv mc ms ret) (hlk2 : Cond.methodLink own idx Lib.objectInit ∈ ml_all) (hins : Cond.instanceMethod Lib.objectInit ∈ ml_all) (hcode : Cond.code Lib.objectInit ⟨#[0xb1]⟩ 1 none ∈ ml_all) (hroom : (st.map fun v => v.category).sum ≤ 8) (hd : decode cc pc = .ok (.invokespecial idx, 3)) (K : cn_J E g A nL Q (k) (n) (pc + 3) ls (st) (L)) : cn_J E g A nL Q (k) (n) (pc) ls (.ref a :: st) (L) := by
  obtain ⟨p, e, R, s, m, args, below, meth, c⟩ := E
  obtain ⟨⟨hx, hb, ht, ho, hm, hlk⟩, ⟨hK, hX, hz, hA, hA2⟩, ⟨hR1, hR2, hR3, hR4⟩, hret⟩ := F
  intro H locs la hP hD hS hl
  refine W.objInit hx hb ho (ht _ hlk2) (ht _ hins) (ht _ hcode) rfl (by rw [hm]; exact hl.1) rfl hd (by omega) ?_ ?_
  · show 2 * 0 + _ + 12 ≤ _
    omega
  · exact W.eq (g2 := F0 m (pc + 3) la st) rfl (K H locs la hP hD hS hl)
theorem li_putF {E : ml_E} {g : ml_G} {A : Nat → Prop} {cc : ByteArray} {own : String} {nL lv mc ms : Nat} {ret : Option FieldType} {Q : State → Prop} {k n pc : Nat} {ls : List (Nat × Value)} {st : List Value} {L : va_W} {a p0 ci idx N : Nat} {C : String} {T : u_T} {fs : List Value} {v : Value} {ty0 : Nat → FieldType} {L2 : va_W} (F : li_F E g A cc own nL lv mc ms ret) (hin : li_N E) (hin9 : ∀ w ∈ u_ws C T N, w ∈ ml_all) (hty : ∀ k, k < N → parseFieldDescriptor (T k).2.2.1 = some (ty0 k)) (hnm : ∀ a, a < N → ∀ b, b < N → a ≠ b → (T a).2.1 ≠ (T b).2.1) (he : L[p0]? = some (a, .inr (ci, fs))) (hc : vwCl[ci]? = some (C, T, N)) (j : Nat) (hj : j < N) (hlk2 : Cond.fieldLink own idx (T j).1 (T j).2.1 (T j).2.2.1 ∈ ml_all) (hfin : (T j).2.2.2 = true) (hdecl : (T j).1 = own) (hnr : narrow (ty0 j) v = v) (hft : fits (ty0 j) v = true) (hlen : j < fs.length) (hL : L.set p0 (a, .inr (ci, fs.set j v)) = L2) (hd : decode cc pc = .ok (.putfield idx, 3)) (K : cn_J E g A nL Q (k) (n) (pc + 3) ls (st) (L2)) : cn_J E g A nL Q (k) (n) (pc) ls (v :: .ref a :: st) (L) := by
  obtain ⟨p, e, R, s, m, args, below, meth, c⟩ := E
  obtain ⟨⟨hx, hb, ht, ho, hm, hlk⟩, ⟨hK, hX, hz, hA, hA2⟩, ⟨hR1, hR2, hR3, hR4⟩, hret⟩ := F
  intro H locs la hP hD hS hl
  subst hL
  exact va_putF (D := g.2.1) (cl := vwCl) (tys := ml_ty g) (C := C) (T := T) (N := N) hx hb ht hin9 ty0 hty hnm ho hK hP hD hS p0 he hc j hj (ht _ hlk2) (fun _ h9 => h9) hfin hin hdecl (hty j hj) hnr hft hlen hd (fun H1 locs1 hP1 hD1 hS1 => K H1 locs1 la hP1 hD1 hS1 hl)
theorem li_callR {E : ml_E} {g : ml_G} {A : Nat → Prop} {cc : ByteArray} {own : String} {nL lv mc ms : Nat} {ret : Option FieldType} {Q : State → Prop} {k n pc : Nat} {ls : List (Nat × Value)} {st : List Value} {L : va_W} {y : MethodName} {yc : ByteArray} {yn lv2 mc2 ms2 z idx : Nat} {yr : Option FieldType} {av : List Value} {post : (Nat → Nat) → va_W} {stk : List Value} (F : li_F E g A cc own nL lv mc ms ret) (hC : li_CR y yc yn yr lv2 mc2 ms2 g av L post) (W1 : ml_wc y yc yn yr) (hlk2 : Cond.methodLink own idx y ∈ ml_all) (hwd : ml_wd y z) (hlv : lv2 < lv) (hk : k + mc2 ≤ mc) (hn2 : n + ms2 ≤ ms) (hz2 : av.length = z) (hstt : Cond.static y ∈ ml_all) (hstk : stk = av.reverse ++ st) (hroom : (st.map fun v => v.category).sum ≤ 8) (hd : decode cc pc = .ok (.invokestatic idx, 3)) (K : ∀ q : Nat → Nat, cn_J E g A nL Q (k + mc2) (n + ms2) (pc + 3) ls (.ref (q 0) :: st) (post q)) : cn_J E g A nL Q (k) (n) (pc) ls (stk) (L) := by
  obtain ⟨p, e, R, s, m, args, below, meth, c⟩ := E
  obtain ⟨⟨hx, hb, ht, ho, hm, hlk⟩, ⟨hK, hX, hz, hA, hA2⟩, ⟨hR1, hR2, hR3, hR4⟩, hret⟩ := F
  intro H locs la hP hD hS hl
  have h4 := W1.2.2
  refine va_callr (va_runS (As := av) (rest := st) ⟨hx, hb, hm, ho, ht⟩ (hC H.size) ⟨ml_cb ht W1 hlk2 hwd hR1 hR2 hlv, ht _ hstt⟩ ⟨li_blind, fun U hU hW => ⟨rfl, ⟨by rw [hU], by rw [hU]; exact hP, va_K.moved hW.alike hK, hD.weaken (fun _ _ _ h => hA2 _ h), fun q h9 => hz q (Nat.le_trans hS.1 h9), by rw [hU]; exact ml_X_to hW (cn_S hA2 hS) hX⟩⟩⟩ rfl hz2 hl.1 hstk (lv_room hroom) hd ⟨by omega, by omega⟩) hS (fun q _ h => li_sub (g := g) hD hS hA q h) (fun q h => li_sub (g := g) hD hS hA q h) (fun q ra t H1 locs1 ht1 hvm _ hB hz1 hk1 hS1 => ?_)
  obtain ⟨hq0, hP1, hD1⟩ := hB
  subst hq0
  rw [ht1] at hP1
  exact K q H1 locs1 la hP1 (hD1.weaken (fun _ _ _ h => li_sub (g := g) hD hS hA _ h)) hS1 hl
theorem li_callI {E : ml_E} {g : ml_G} {A : Nat → Prop} {cc : ByteArray} {own : String} {nL lv mc ms : Nat} {ret : Option FieldType} {Q : State → Prop} {k n pc : Nat} {ls : List (Nat × Value)} {st : List Value} {L : va_W} {y : MethodName} {yc : ByteArray} {yn lv2 mc2 ms2 z idx : Nat} {av : List Value} {post : (Nat → Nat) → va_W} {stk : List Value} {b : Nat} (F : li_F E g A cc own nL lv mc ms ret) (hC : li_CV y yc yn lv2 mc2 ms2 g (.ref b :: av) L post) (W1 : ml_wc y yc yn none) (hlk2 : Cond.methodLink own idx y ∈ ml_all) (hwd : ml_wd y z) (hlv : lv2 < lv) (hk : k + mc2 ≤ mc) (hn2 : n + ms2 ≤ ms) (hz2 : av.length = z) (hnm : y.name = "<init>") (hins : Cond.instanceMethod y ∈ ml_all) (hstk : stk = av.reverse ++ .ref b :: st) (hroom : (st.map fun v => v.category).sum ≤ 8) (hd : decode cc pc = .ok (.invokespecial idx, 3)) (K : ∀ q : Nat → Nat, cn_J E g A nL Q (k + mc2) (n + ms2) (pc + 3) ls (st) (post q)) : cn_J E g A nL Q (k) (n) (pc) ls (stk) (L) := by
  obtain ⟨p, e, R, s, m, args, below, meth, c⟩ := E
  obtain ⟨⟨hx, hb, ht, ho, hm, hlk⟩, ⟨hK, hX, hz, hA, hA2⟩, ⟨hR1, hR2, hR3, hR4⟩, hret⟩ := F
  intro H locs la hP hD hS hl
  have h4 := W1.2.2
  refine va_callv (va_runI (As := av) (rest := st) ⟨hx, hb, hm, ho, ht⟩ (hC H.size) ⟨ml_cb ht W1 hlk2 hwd hR1 hR2 hlv, hnm, ht _ hins⟩ ⟨li_blind, fun U hU hW => ⟨rfl, ⟨by rw [hU], by rw [hU]; exact hP, va_K.moved hW.alike hK, hD.weaken (fun _ _ _ h => hA2 _ h), fun q h9 => hz q (Nat.le_trans hS.1 h9), by rw [hU]; exact ml_X_to hW (cn_S hA2 hS) hX⟩⟩⟩ rfl hz2 hl.1 hstk (lv_room hroom) hd ⟨by omega, by omega⟩) hS (fun q _ h => li_sub (g := g) hD hS hA q h) (fun q h => li_sub (g := g) hD hS hA q h) (fun q t H1 locs1 ht1 hvm _ hB hz1 hk1 hS1 => ?_)
  obtain ⟨hP1, hD1⟩ := hB
  rw [ht1] at hP1
  exact K q H1 locs1 la hP1 (hD1.weaken (fun _ _ _ h => li_sub (g := g) hD hS hA _ h)) hS1 hl
theorem li_at {g : ml_G} {M : ml_M} {X : va_W} (i : Nat) : (ml_wm g M ++ X)[176 + i]? = X[i]? := by
  rw [List.getElem?_append_right (by rw [ml_wm_len]; omega), ml_wm_len, show 176 + i - 176 = i by omega]
theorem li_atM {g : ml_G} {M : ml_M} {X : va_W} {k : Nat} (hk : ml_vp k) : (ml_wm g M ++ X)[ml_ix k]? = some (g.2.2.2.1 k, ml_ct g k (M k)) := by
  rw [List.getElem?_append_left (by rw [ml_wm_len]; exact (ml_pk_ix hk).2)]
  exact ml_wm_at hk
theorem li_set {g : ml_G} {M : ml_M} {X : va_W} (i : Nat) (v : Nat × va_E) : (ml_wm g M ++ X).set (176 + i) v = ml_wm g M ++ X.set i v := by
  rw [List.set_append_right _ _ (by rw [ml_wm_len]; omega), ml_wm_len, show 176 + i - 176 = i by omega]
theorem li_lst {L : va_W} {v : Nat × va_E} : (L ++ [v])[L.length]? = some v := by simp
theorem li_lstS {L : va_W} {v v2 : Nat × va_E} : (L ++ [v]).set L.length v2 = L ++ [v2] := by simp
theorem li_fst {L L2 : va_W} {i : Nat} {v : Nat × va_E} (h : L[i]? = some v) : (L ++ L2)[i]? = some v := by
  rw [List.getElem?_append_left (List.getElem?_eq_some_iff.mp h).1]
  exact h
theorem nI0_le (n : Nat) (h : n < 1000) : (0 : Int32) ≤ nI n := (nI_leI (a := 0) (by decide) (by omega)).mpr (Nat.zero_le n)
set_option maxRecDepth 100000 in
def fJ7_checkLength_df160 (z : ml_Y) (a0 : Int32) (a1 : Int32) (M : ml_M) : Option ml_R :=
  (if a0 ≤ a1 then some (.inl 0, M) else none)
set_option maxHeartbeats 4000000 in
set_option maxRecDepth 100000 in
theorem fJ7_checkLength_df160_c (a0 : Int32) (a1 : Int32) (M : ml_M) (res : ml_R) {g : ml_G} (hst : g.2.2.2.2.2.stackTraces = false) (h : fJ7_checkLength_df160 g.1.2 a0 a1 M = some res) : ml_C yJ7_checkLength_df160 cJ7_checkLength_df160 2 none 7 0 0 g (fun _ _ => none) [.int a0, .int a1] M res := by
  refine ml_ofF [(0, .int a0), (1, .int a1)] hst (by decide +kernel) (Nat.le_of_ble_eq_true rfl) rfl (fun E F => ?_)
  unfold fJ7_checkLength_df160 at h
  refine ml_iload_n (q := 1) F dJ7_checkLength_df160_0 rfl rfl ?_
  refine ml_iload_n (q := 0) F dJ7_checkLength_df160_1 rfl rfl ?_
  refine ml_icmp_ge (tgt := 37) F dJ7_checkLength_df160_2 (by decide) h (fun _ h => ?_) (fun _ h => ?_)
  · exact ml_vret (st := []) F (Option.some.inj h) rfl rfl (by decide) (by decide) dJ7_checkLength_df160_37
  · exact nomatch (show (none : Option ml_R) = some res from h)
set_option maxHeartbeats 4000000 in
theorem li_copyB {g : ml_G} {M : ml_M} {X : va_W} {n9 : Nat} (hst : g.2.2.2.2.2.stackTraces = false) (h16 : n9 ≤ 16) (hfit : ∀ j, j < n9 → fits .byte (.int (M 10 j)) = true) : li_CR yJ7_copyOfRangeByte_39247 cJ7_copyOfRangeByte_39247 5 (some (.array .byte)) 8 1 16 g [ml_rf g 10, .int 0, .int (nI n9)] (ml_wm g M ++ X) (fun q => (ml_wm g M ++ X) ++ [(q 0, .inl (g.2.2.1 4, n9, .inl (va_cpy (M 10) (fun _ => 0) 0 0 n9)))]) := by
  refine li_ofR [(0, ml_rf g 10), (1, .int 0), (2, .int (nI n9))] (by decide) (Nat.le_of_ble_eq_true rfl) rfl (fun E A F _ => ?_)
  refine li_iload_n (q := 1) F dJ7_copyOfRangeByte_39247_0 rfl rfl ?_
  refine li_iload_n (q := 2) F dJ7_copyOfRangeByte_39247_1 rfl rfl ?_
  refine li_callS (z := 2) (r8 := 0) (M8 := M) (vl2 := fun _ _ => none) (st := []) (av := [.int 0, .int (nI n9)]) F (li_noT (g := g)) (fun B => fJ7_checkLength_df160_c 0 (nI n9) M _ hst (by unfold fJ7_checkLength_df160; rw [if_pos (nI0_le n9 (by omega))])) ⟨ml_tb 770 (by decide +kernel) rfl, ml_tb 21 (by decide +kernel) rfl, by decide⟩ (ml_tb 768 (by decide +kernel) rfl) ⟨by decide +kernel, by decide +kernel, by decide +kernel⟩ (by decide) (by decide) (by decide) rfl (ml_tb 769 (by decide +kernel) rfl) rfl (Nat.le_of_ble_eq_true rfl) dJ7_copyOfRangeByte_39247_2 ?_
  refine li_iload_n (q := 2) F dJ7_copyOfRangeByte_39247_5 rfl rfl ?_
  refine li_iload_n (q := 1) F dJ7_copyOfRangeByte_39247_6 rfl rfl ?_
  refine li_isub (v := nI n9) F dJ7_copyOfRangeByte_39247_7 (Int32.sub_zero _) ?_
  refine li_istore_n (ls2 := [(3, .int (nI n9)), (0, ml_rf g 10), (1, .int 0), (2, .int (nI n9))]) F dJ7_copyOfRangeByte_39247_8 rfl (by decide) rfl ?_
  refine li_iload_n (q := 0) F dJ7_copyOfRangeByte_39247_9 rfl rfl ?_
  refine li_newa (t := 4) (N := n9) (ty := .byte) F (n9, .inl (fun _ => 0)) (ml_tb 253 (by decide +kernel) rfl) rfl rfl (fun cA => rfl) (nI_pos (by omega)) (nI_clamp (by omega)) (by show n9 * 1 ≤ _; omega) (by decide) (by omega) dJ7_copyOfRangeByte_39247_10 (fun q => ?_)
  refine li_astore (ls2 := [(4, .ref q), (3, .int (nI n9)), (0, ml_rf g 10), (1, .int 0), (2, .int (nI n9))]) F dJ7_copyOfRangeByte_39247_12 (by decide) rfl ?_
  refine li_aload_n (q := 2) F dJ7_copyOfRangeByte_39247_14 rfl rfl ?_
  refine li_iload_n (q := 3) F dJ7_copyOfRangeByte_39247_15 rfl rfl ?_
  refine li_aload (q := 0) F dJ7_copyOfRangeByte_39247_16 rfl ?_
  refine li_iconst (v := 0) F dJ7_copyOfRangeByte_39247_18 (by decide) ?_
  refine li_aload_n (q := 2) F dJ7_copyOfRangeByte_39247_19 rfl rfl ?_
  refine li_alen (q0 := ml_ix 10) (N := 16) (f := M 10) (v := 16) F (li_fst (li_atM (by decide))) (by decide) dJ7_copyOfRangeByte_39247_20 ?_
  refine li_iload_n (q := 3) F dJ7_copyOfRangeByte_39247_21 rfl rfl ?_
  refine li_isub (v := 16) F dJ7_copyOfRangeByte_39247_22 (by decide) ?_
  refine li_iload_n (q := 1) F dJ7_copyOfRangeByte_39247_23 rfl rfl ?_
  refine li_min (v := nI n9) F (ml_tb 632 (by decide +kernel) rfl) (ml_tb 437 (by decide +kernel) rfl) (ml_tb 12 (by decide +kernel) rfl) (ml_tb 438 (by decide +kernel) rfl) dJ7_copyOfRangeByte_39247_24 (Nat.le_of_ble_eq_true rfl) (by omega) (by omega) ?_ ?_
  · by_cases h : n9 < 16
    · exact if_pos ((nI_ltI (b := 16) (by omega) (by decide)).mpr h)
    · rw [show n9 = 16 by omega]
      rfl
  have ec : (nI n9).toNatClampNeg = n9 := nI_clamp (by omega)
  have e0 : (0 : Int32).toNatClampNeg = 0 := by decide
  refine li_bcopy (q0 := ml_ix 10) (q1 := (ml_wm g M ++ X).length) (N0 := 16) (N1 := n9) (f := M 10) (f9 := fun _ => 0) (L2 := (ml_wm g M ++ X) ++ [(q, .inl (g.2.2.1 4, n9, .inl (va_cpy (M 10) (fun _ => 0) 0 0 n9)))]) F (ml_tb 633 (by decide +kernel) rfl) (ml_tb 635 (by decide +kernel) rfl) (ml_tb 634 (by decide +kernel) rfl) (ml_tb 22 (by decide +kernel) rfl) (li_fst (li_atM (by decide))) li_lst (by decide) (by decide) (nI_pos (by omega)) (by rw [ec, e0]; omega) (by rw [ec, e0]; omega) (fun i hi => by rw [ec] at hi; rw [e0, Nat.zero_add]; exact hfit i hi) (by rw [ec, e0]; exact li_lstS) (Nat.le_of_ble_eq_true rfl) dJ7_copyOfRangeByte_39247_27 ?_
  refine li_aload (q := 0) F dJ7_copyOfRangeByte_39247_30 rfl ?_
  exact li_aret F (Or.inr ⟨_, rfl⟩) (fun _ => q) rfl rfl (by decide) (by omega) dJ7_copyOfRangeByte_39247_32
set_option maxHeartbeats 4000000 in
theorem li_copyR {g : ml_G} {M : ml_M} {X : va_W} {n9 : Nat} (hst : g.2.2.2.2.2.stackTraces = false) (h16 : n9 < 16) (hfit : ∀ j, j < n9 → fits .byte (.int (M 10 j)) = true) : li_CR yJ7_copyOfRange_39247 cJ7_copyOfRange_39247 3 (some (.array .byte)) 9 1 16 g [ml_rf g 10, .int 0, .int (nI n9)] (ml_wm g M ++ X) (fun q => (ml_wm g M ++ X) ++ [(q 0, .inl (g.2.2.1 4, n9, .inl (va_cpy (M 10) (fun _ => 0) 0 0 n9)))]) := by
  refine li_ofR [(0, ml_rf g 10), (1, .int 0), (2, .int (nI n9))] (by decide) (Nat.le_of_ble_eq_true rfl) rfl (fun E A F _ => ?_)
  refine li_iload_n (q := 1) F dJ7_copyOfRange_39247_0 rfl rfl ?_
  refine li_if_neF (tgt := 10) F dJ7_copyOfRange_39247_1 (by decide) rfl ?_
  refine li_iload_n (q := 2) F dJ7_copyOfRange_39247_4 rfl rfl ?_
  refine li_aload_n (q := 0) F dJ7_copyOfRange_39247_5 rfl rfl ?_
  refine li_alen (q0 := ml_ix 10) (N := 16) (f := M 10) (v := 16) F (li_atM (by decide)) (by decide) dJ7_copyOfRange_39247_6 ?_
  refine li_icmp_eqF (tgt := 17) F dJ7_copyOfRange_39247_7 (by decide) (fun z => by have := (nI_eq (a := n9) (b := 16) (by omega) (by decide)).mp z; omega) ?_
  refine li_aload_n (q := 0) F dJ7_copyOfRange_39247_10 rfl rfl ?_
  refine li_iload_n (q := 1) F dJ7_copyOfRange_39247_11 rfl rfl ?_
  refine li_iload_n (q := 2) F dJ7_copyOfRange_39247_12 rfl rfl ?_
  refine li_callR (z := 3) (st := []) (av := [ml_rf g 10, .int 0, .int (nI n9)]) F (li_copyB (X := X) hst (Nat.le_of_lt h16) hfit) ⟨ml_tb 767 (by decide +kernel) rfl, ml_tb 21 (by decide +kernel) rfl, by decide⟩ (ml_tb 765 (by decide +kernel) rfl) ⟨by decide +kernel, by decide +kernel, by decide +kernel⟩ (by decide) (by decide) (by decide) rfl (ml_tb 766 (by decide +kernel) rfl) rfl (Nat.le_of_ble_eq_true rfl) dJ7_copyOfRange_39247_13 (fun q => ?_)
  exact li_aret F (Or.inr ⟨_, rfl⟩) q rfl rfl (by decide) (by decide) dJ7_copyOfRange_39247_16
set_option maxHeartbeats 4000000 in
theorem li_strI {g : ml_G} {M : ml_M} {b n9 : Nat} (hst : g.2.2.2.2.2.stackTraces = false) (h16 : n9 < 16) (hfit : ∀ j, j < n9 → fits .byte (.int (M 10 j)) = true) (hcd : M 9 1 = 0) (hct : M 9 3 = nI n9) : li_CV yJ0_init_db425 cJ0_init_db425 5 10 1 16 g [.ref b, ml_rf g 9, .null] (ml_wm g M ++ [(b, .inr (0, [.null, .int 0, .int 0, .int 0]))]) (fun q => ml_wm g M ++ [(b, .inr (0, [.ref (q 0), .int 0, .int 0, .int 0])), (q 0, .inl (g.2.2.1 4, n9, .inl (va_cpy (M 10) (fun _ => 0) 0 0 n9)))]) := by
  refine li_ofV [(0, .ref b), (1, ml_rf g 9), (2, .null)] (by decide) (Nat.le_of_ble_eq_true rfl) rfl (fun E A F N => ?_)
  refine li_aload_n (q := 0) F dJ0_init_db425_0 rfl rfl ?_
  refine li_obj F (ml_tb 747 (by decide +kernel) rfl) (ml_tb 36 (by decide +kernel) rfl) (ml_tb 37 (by decide +kernel) rfl) (by decide) dJ0_init_db425_1 ?_
  refine li_aload_n (q := 1) F dJ0_init_db425_4 rfl rfl ?_
  refine li_callU (z := 0) (r8 := 0) (M8 := M) (vl2 := fun _ _ => some (ml_rf g 10)) (st := []) (av := []) F (li_noT (g := g)) (fun B => fJ5_getValue_6d5f1_c M _ hst rfl) ⟨ml_tb 752 (by decide +kernel) rfl, ml_tb 8 (by decide +kernel) rfl, by decide⟩ (ml_tb 748 (by decide +kernel) rfl) ⟨by decide +kernel, by decide +kernel, by decide +kernel⟩ (by decide) (by decide) (by decide) rfl (ml_tb 750 (by decide +kernel) rfl) (ml_tb 751 (by decide +kernel) rfl) (ml_tb 749 (by decide +kernel) rfl) rfl (Nat.le_of_ble_eq_true rfl) dJ0_init_db425_5 ?_
  refine li_astore_n (ls2 := [(3, ml_rf g 10), (0, .ref b), (1, ml_rf g 9), (2, .null)]) F dJ0_init_db425_8 rfl (by decide) rfl ?_
  refine li_aload_n (q := 2) F dJ0_init_db425_9 rfl rfl ?_
  refine li_callO (z := 0) (b0 := cJ5_length_8abf5) (m0 := 1) (r0 := (some .int)) (r8 := M 9 3) (M8 := M) (vl2 := fun r _ => some (.int r)) (st := []) (av := []) (y := yJ4_length_8abf5) (x9 := yJ5_length_8abf5) F (li_noT (g := g)) (fun B => fJ4_length_8abf5_c M _ hst rfl) ⟨ml_tb 758 (by decide +kernel) rfl, ml_tb 9 (by decide +kernel) rfl, by decide⟩ (ml_tb 753 (by decide +kernel) rfl) ⟨by decide +kernel, by decide +kernel, by decide +kernel⟩ (by decide) (by decide) (by decide) rfl (ml_tb 760 (by decide +kernel) rfl) (ml_tb 755 (by decide +kernel) rfl) (ml_tb 754 (by decide +kernel) rfl) (ml_tb 756 (by decide +kernel) rfl) (ml_tb 757 (by decide +kernel) rfl) rfl (Nat.le_of_ble_eq_true rfl) dJ0_init_db425_10 ?_
  refine li_eq (st2 := [.int (nI n9)]) (by rw [hct]; rfl) ?_
  refine li_istore (ls2 := [(4, .int (nI n9)), (3, ml_rf g 10), (0, .ref b), (1, ml_rf g 9), (2, .null)]) F dJ0_init_db425_13 (by decide) rfl ?_
  refine li_aload_n (q := 3) F dJ0_init_db425_15 rfl rfl ?_
  refine li_callU (z := 0) (r8 := 1) (M8 := M) (vl2 := fun r _ => some (.int r)) (st := []) (av := []) F (li_noT (g := g)) (fun B => fJ5_isLatin1_aae02_c M _ hst (by unfold fJ5_isLatin1_aae02 ml_jn; rw [hcd]; rfl)) ⟨ml_tb 640 (by decide +kernel) rfl, ml_tb 8 (by decide +kernel) rfl, by decide⟩ (ml_tb 761 (by decide +kernel) rfl) ⟨by decide +kernel, by decide +kernel, by decide +kernel⟩ (by decide) (by decide) (by decide) rfl (ml_tb 638 (by decide +kernel) rfl) (ml_tb 639 (by decide +kernel) rfl) (ml_tb 637 (by decide +kernel) rfl) rfl (Nat.le_of_ble_eq_true rfl) dJ0_init_db425_16 ?_
  refine li_if_eqF (tgt := 41) F dJ0_init_db425_19 (by decide) (by decide) ?_
  refine li_aload_n (q := 2) F dJ0_init_db425_22 rfl rfl ?_
  refine li_iconst (v := 0) F dJ0_init_db425_23 (by decide) ?_
  refine li_putF (p0 := 176 + 0) (ci := 0) (N := 4) (C := RJ0) (T := TJ0) (fs := [.null, .int 0, .int 0, .int 0]) (ty0 := tyJ0) (L2 := ml_wm g M ++ [(b, .inr (0, [.null, .int 0, .int 0, .int 0]))]) F (N rfl) iaJ0 tyJ0_ok nmJ0 ((li_at 0).trans rfl) rfl 1 (by decide) (ml_tb 806 (by decide +kernel) rfl) rfl rfl rfl rfl (by simp) (li_set 0 _) dJ0_init_db425_24 ?_
  refine li_aload_n (q := 2) F dJ0_init_db425_27 rfl rfl ?_
  refine li_aload_n (q := 1) F dJ0_init_db425_28 rfl rfl ?_
  refine li_iconst (v := 0) F dJ0_init_db425_29 (by decide) ?_
  refine li_iload (q := 0) F dJ0_init_db425_30 rfl ?_
  refine li_callR (z := 3) (st := [.ref b]) (av := [ml_rf g 10, .int 0, .int (nI n9)]) F (li_copyR (X := [(b, .inr (0, [.null, .int 0, .int 0, .int 0]))]) hst h16 hfit) ⟨ml_tb 764 (by decide +kernel) rfl, ml_tb 21 (by decide +kernel) rfl, by decide⟩ (ml_tb 762 (by decide +kernel) rfl) ⟨by decide +kernel, by decide +kernel, by decide +kernel⟩ (by decide) (by decide) (by decide) rfl (ml_tb 763 (by decide +kernel) rfl) rfl (Nat.le_of_ble_eq_true rfl) dJ0_init_db425_32 (fun q => ?_)
  rw [List.append_assoc]
  refine li_putF (p0 := 176 + 0) (ci := 0) (N := 4) (C := RJ0) (T := TJ0) (fs := [.null, .int 0, .int 0, .int 0]) (ty0 := tyJ0) (L2 := ml_wm g M ++ [(b, .inr (0, [.ref (q 0), .int 0, .int 0, .int 0])), (q 0, .inl (g.2.2.1 4, n9, .inl (va_cpy (M 10) (fun _ => 0) 0 0 n9)))]) F (N rfl) iaJ0 tyJ0_ok nmJ0 ((li_at 0).trans rfl) rfl 0 (by decide) (ml_tb 805 (by decide +kernel) rfl) rfl rfl rfl rfl (by simp) (li_set 0 _) dJ0_init_db425_35 ?_
  refine li_goto (tgt := 97) F dJ0_init_db425_38 (by decide) ?_
  exact li_vret F q rfl (by decide) (by decide) dJ0_init_db425_97
set_option maxHeartbeats 4000000 in
theorem li_strB {g : ml_G} {M : ml_M} {b n9 : Nat} (hst : g.2.2.2.2.2.stackTraces = false) (h16 : n9 < 16) (hfit : ∀ j, j < n9 → fits .byte (.int (M 10 j)) = true) (hcd : M 9 1 = 0) (hct : M 9 3 = nI n9) : li_CV yJ0_init_81219 cJ0_init_81219 2 11 1 16 g [.ref b, ml_rf g 9] (ml_wm g M ++ [(b, .inr (0, [.null, .int 0, .int 0, .int 0]))]) (fun q => ml_wm g M ++ [(b, .inr (0, [.ref (q 0), .int 0, .int 0, .int 0])), (q 0, .inl (g.2.2.1 4, n9, .inl (va_cpy (M 10) (fun _ => 0) 0 0 n9)))]) := by
  refine li_ofV [(0, .ref b), (1, ml_rf g 9)] (by decide) (Nat.le_of_ble_eq_true rfl) rfl (fun E A F N => ?_)
  refine li_aload_n (q := 0) F dJ0_init_81219_0 rfl rfl ?_
  refine li_aload_n (q := 1) F dJ0_init_81219_1 rfl rfl ?_
  refine li_null F dJ0_init_81219_2 ?_
  refine li_callI (z := 2) (st := []) (av := [ml_rf g 9, .null]) F (li_strI (b := b) hst h16 hfit hcd hct) ⟨ml_tb 746 (by decide +kernel) rfl, ml_tb 10 (by decide +kernel) rfl, by decide⟩ (ml_tb 744 (by decide +kernel) rfl) ⟨by decide +kernel, by decide +kernel, by decide +kernel⟩ (by decide) (by decide) (by decide) rfl rfl (ml_tb 745 (by decide +kernel) rfl) rfl (Nat.le_of_ble_eq_true rfl) dJ0_init_81219_3 (fun q => ?_)
  exact li_vret F q rfl (by decide) (by decide) dJ0_init_81219_6
set_option maxHeartbeats 4000000 in
theorem li_toS {g : ml_G} {M : ml_M} {n9 : Nat} (hst : g.2.2.2.2.2.stackTraces = false) (h16 : n9 < 16) (hfit : ∀ j, j < n9 → fits .byte (.int (M 10 j)) = true) (hcd : M 9 1 = 0) (hct : M 9 3 = nI n9) : li_CR yJ4_toString_0e30d cJ4_toString_0e30d 1 (some (.object "java/lang/String")) 12 2 20 g [ml_rf g 9] (ml_wm g M) (fun q => ml_wm g M ++ [(q 0, .inr (0, [.ref (q 1), .int 0, .int 0, .int 0])), (q 1, .inl (g.2.2.1 4, n9, .inl (va_cpy (M 10) (fun _ => 0) 0 0 n9)))]) := by
  refine li_ofR [(0, ml_rf g 9)] (by decide) (Nat.le_of_ble_eq_true rfl) rfl (fun E A F _ => ?_)
  refine li_new (ci := 0) (N := 4) (C := RJ0) (T := TJ0) (fs := [.null, .int 0, .int 0, .int 0]) F tyJ0 iaJ0 tyJ0_ok (ml_tb 739 (by decide +kernel) rfl) (ml_tb 740 (by decide +kernel) rfl) (ml_tb 10 (by decide +kernel) rfl) rfl (by decide) (by decide) (by decide) dJ4_toString_0e30d_0 (fun b => ?_)
  refine li_dup F dJ4_toString_0e30d_3 rfl ?_
  refine li_aload_n (q := 0) F dJ4_toString_0e30d_4 rfl rfl ?_
  refine li_callI (z := 1) (st := [.ref b]) (av := [ml_rf g 9]) F (li_strB (b := b) hst h16 hfit hcd hct) ⟨ml_tb 743 (by decide +kernel) rfl, ml_tb 10 (by decide +kernel) rfl, by decide⟩ (ml_tb 741 (by decide +kernel) rfl) ⟨by decide +kernel, by decide +kernel, by decide +kernel⟩ (by decide) (by decide) (by decide) rfl rfl (ml_tb 742 (by decide +kernel) rfl) rfl (Nat.le_of_ble_eq_true rfl) dJ4_toString_0e30d_5 (fun q => ?_)
  exact li_aret F (Or.inl ⟨_, rfl⟩) (fun i => if i = 0 then b else q 0) rfl rfl (by decide) (by decide) dJ4_toString_0e30d_8
theorem li_postN {A : Nat → Prop} {D : va_G} {cl : List vw_C} {W W1 Y : va_W} {H H1 : Heap} (hP : va_P D cl (W ++ Y) H) (hD : va_D A (W ++ Y)) (hA : ∀ q, va_A W H.size q → A q) (hP1 : va_P D cl W1 H1) (hD1 : va_D (va_A W H.size) W1) (hk : ∀ q : Nat, q < H.size → ¬ va_A W H.size q → H1[q]? = H[q]?) : va_P D cl (W1 ++ Y) H1 ∧ va_D A (W1 ++ Y) := by
  obtain ⟨⟨p1, d1⟩, ⟨p2, d2⟩, ap⟩ := li_pre hP hD
  exact ⟨va_P.app hP1 (fun k q h => (p2 k q h).kept (hk q.1 (p2 k q h).lt (ap k q h))), va_D.app (hD1.weaken (fun _ _ _ h => hA _ h)) d2 (fun i j p q hp hq e => ap j q hq (by rw [← e]; exact hD1.2 i p hp))⟩
def li_tw (i : Nat) : Nat := if i = 9 then 178 else if i = 10 then 179 else if i < 178 then i else i + 2
theorem li_tw_inj (i j : Nat) (h : li_tw i = li_tw j) : i = j := by
  unfold li_tw at h
  by_cases a1 : i = 9
  · subst a1
    rw [if_pos rfl] at h
    by_cases b1 : j = 9
    · exact b1.symm
    rw [if_neg b1] at h
    split at h
    · omega
    · split at h <;> omega
  rw [if_neg a1] at h
  by_cases a2 : i = 10
  · subst a2
    rw [if_pos rfl] at h
    by_cases b1 : j = 9
    · subst b1; rw [if_pos rfl] at h; omega
    rw [if_neg b1] at h
    split at h
    · omega
    · split at h <;> omega
  rw [if_neg a2] at h
  by_cases b1 : j = 9
  · subst b1; rw [if_pos rfl] at h; split at h <;> omega
  rw [if_neg b1] at h
  by_cases b2 : j = 10
  · subst b2; rw [if_pos rfl] at h; split at h <;> omega
  rw [if_neg b2] at h
  split at h <;> split at h <;> omega
theorem li_tw_at {g : ml_G} {B : Nat → Prop} {bq aq sq tq : Nat} {Bs : List Int32} {M : ml_M} {mb ma : Nat → Int32} {X : va_W} {s0 s1 : Nat × va_E} (i : Nat) :
    (ml_wm g M ++ s0 :: s1 :: X)[i]? = ((ml_wm (li_gB g B bq aq sq tq Bs) (li_mB M mb ma) ++ [s0, s1]) ++ (g.2.2.2.1 9, ml_ct g 9 (M 9)) :: (g.2.2.2.1 10, ml_ct g 10 (M 10)) :: X)[li_tw i]? := by
  have l1 : (ml_wm (li_gB g B bq aq sq tq Bs) (li_mB M mb ma)).length = 176 := ml_wm_len
  have l2 : (ml_wm g M).length = 176 := ml_wm_len
  have l3 : (ml_wm (li_gB g B bq aq sq tq Bs) (li_mB M mb ma) ++ [s0, s1]).length = 178 := by rw [List.length_append, l1]; rfl
  by_cases hi : i < 176
  · rw [List.getElem?_append_left (by omega), ml_wm_ai hi]
    by_cases h9 : i = 9
    · subst h9
      rw [show li_tw 9 = 178 from rfl, List.getElem?_append_right (by omega), l3]
      rfl
    by_cases h10 : i = 10
    · subst h10
      rw [show li_tw 10 = 179 from rfl, List.getElem?_append_right (by omega), l3]
      rfl
    have hs : li_tw i = i := by unfold li_tw; rw [if_neg h9, if_neg h10, if_pos (by omega)]
    have hp9 : ml_pk i ≠ 9 := fun e => h9 (by have := (ml_pk_vp hi).2; rw [e] at this; exact this.symm)
    have hp10 : ml_pk i ≠ 10 := fun e => h10 (by have := (ml_pk_vp hi).2; rw [e] at this; exact this.symm)
    rw [hs, List.getElem?_append_left (by omega), List.getElem?_append_left (by omega), ml_wm_ai hi, li_ctB hp9 hp10]
    have e1 : (li_gB g B bq aq sq tq Bs).2.2.2.1 (ml_pk i) = g.2.2.2.1 (ml_pk i) := by
      show (if ml_pk i = 9 then bq else if ml_pk i = 10 then aq else g.2.2.2.1 (ml_pk i)) = _
      rw [if_neg hp9, if_neg hp10]
    have e2 : li_mB M mb ma (ml_pk i) = M (ml_pk i) := by
      unfold li_mB
      rw [if_neg hp9, if_neg hp10]
    rw [e1, e2]
  · by_cases h6 : i < 178
    · have hs : li_tw i = i := by unfold li_tw; rw [if_neg (by omega), if_neg (by omega), if_pos h6]
      rw [hs, List.getElem?_append_right (by omega), List.getElem?_append_left (by omega), List.getElem?_append_right (by omega), l1, l2]
      rcases (show i = 176 ∨ i = 177 by omega) with rfl | rfl <;> rfl
    · have hs : li_tw i = i + 2 := by unfold li_tw; rw [if_neg (by omega), if_neg (by omega), if_neg h6]
      rw [hs, List.getElem?_append_right (by omega), List.getElem?_append_right (by omega), l3, l2, show i - 176 = i - 178 + 2 by omega, show i + 2 - 178 = i - 178 + 2 by omega]
      rfl
theorem li_HLB {g : ml_G} {A : Nat → Prop} {M : ml_M} {mb ma : Nat → Int32} {X : va_W} {bq aq : Nat} {s U : State} {H : Heap} {args : Array Value} {locs : List Loc} (ht : ∀ w ∈ ml_all, w.before args s = true) (hK : ml_K g s) (hX : ml_X g s s.heap) (hS : va_S A s.heap H locs) (hA : ∀ q : Nat, s.heap.size ≤ q → A q) (hA2 : ∀ q : Nat, A q → ml_A g q) (hP : va_P g.2.1 vwCl (ml_wm g M ++ (bq, li_cb aq mb) :: (aq, li_ca g ma) :: X) H) (hD : va_D A (ml_wm g M ++ (bq, li_cb aq mb) :: (aq, li_ca g ma) :: X)) (hU : U.heap = H) (hW : s.WarmedH U.vm) (B : Nat → Prop) (hB : B = va_A (ml_wm (li_gB g (fun _ => True) bq aq (g.2.2.2.2.1 10) (g.2.2.2.2.1 40) (ml_sb g 0)) (li_mB M mb ma)) H.size) : li_HL (li_gB g B bq aq (g.2.2.2.2.1 10) (g.2.2.2.2.1 40) (ml_sb g 0)) (ml_wm (li_gB g B bq aq (g.2.2.2.2.1 10) (g.2.2.2.2.1 40) (ml_sb g 0)) (li_mB M mb ma)) H.size U := by
  obtain ⟨a1, a2, a3, a4, a5⟩ := li_HB ht hK hX hS hA hA2 hP hD (li_noT (g := g) (X := X)) hB hU hW
  subst hU
  exact ⟨rfl, a2, a3, a4, a1, a5⟩
theorem li_toSB {E : ml_E} {g : ml_G} {A : Nat → Prop} {cc : ByteArray} {own : String} {nL lv mc ms : Nat} {ret : Option FieldType} {Q : State → Prop} {k n pc : Nat} {ls : List (Nat × Value)} {st : List Value} {idx : Nat} {M : ml_M} {mb ma : Nat → Int32} {X : va_W} {bq aq n9 : Nat} (F : li_F E g A cc own nL lv mc ms ret) (hst : g.2.2.2.2.2.stackTraces = false) (h16 : n9 < 16) (hfit : ∀ j, j < n9 → fits .byte (.int (ma j)) = true) (hcd : mb 1 = 0) (hct : mb 3 = nI n9) (hlk2 : Cond.methodLink own idx yJ4_toString_0e30d ∈ ml_all) (hlv : 12 < lv) (hk : k + 2 ≤ mc) (hn2 : n + 20 ≤ ms) (hroom : (st.map fun v => v.category).sum ≤ 8) (hd : decode cc pc = .ok (.invokevirtual idx, 3)) (K : ∀ (sq tq : Nat), cn_J E g A nL Q (k + 2) (n + 20) (pc + 3) ls (.ref sq :: st) (ml_wm g M ++ (sq, .inr (0, [.ref tq, .int 0, .int 0, .int 0])) :: (tq, .inl (g.2.2.1 4, n9, .inl (va_cpy ma (fun _ => 0) 0 0 n9))) :: X)) : cn_J E g A nL Q (k) (n) (pc) ls (.ref bq :: st) (ml_wm g M ++ (bq, li_cb aq mb) :: (aq, li_ca g ma) :: X) := by
  obtain ⟨p, e, R, s, m, args, below, meth, c⟩ := E
  obtain ⟨⟨hx, hb, ht, ho, hm, hlk⟩, ⟨hK, hX, hz, hA, hA2⟩, ⟨hR1, hR2, hR3, hR4⟩, hret⟩ := F
  intro H locs la hP hD hS hl
  obtain ⟨B, hB⟩ : ∃ B, B = va_A (ml_wm (li_gB g (fun _ => True) bq aq (g.2.2.2.2.1 10) (g.2.2.2.2.1 40) (ml_sb g 0)) (li_mB M mb ma)) H.size := ⟨_, rfl⟩
  obtain ⟨hP2, hD2⟩ := li_swP (B := B) (sq := g.2.2.2.2.1 10) (tq := g.2.2.2.2.1 40) (Bs := ml_sb g 0) hP hD
  obtain ⟨⟨p1, d1⟩, -, -⟩ := li_pre hP2 hD2
  have hrv : ∃ cell : Cell, H[bq]? = some cell ∧ cell.vm.isStatics = false ∧ s.vm.findClass yJ4_toString_0e30d.cls = some cell.cls := va_recv (D := g.2.1) (cl := vwCl) (tys := ml_ty g) (q := (RJ4, TJ4, 4)) (ci := 1) hK hP rfl (q0 := 176) (by rw [List.getElem?_append_right (by rw [ml_wm_len]; exact Nat.le_refl _), ml_wm_len]; rfl)
  have hsub := li_sub (g := g) d1 hS hA
  refine va_callr (va_runV (As := []) (rest := st) (C := yJ4_toString_0e30d.cls) ⟨hx, hb, hm, ho, ht⟩ (li_toS (g := li_gB g B bq aq (g.2.2.2.2.1 10) (g.2.2.2.2.1 40) (ml_sb g 0)) (M := li_mB M mb ma) hst h16 hfit hcd hct H.size) ⟨ml_cb ht ⟨ml_tb 738 (by decide +kernel) rfl, ml_tb 9 (by decide +kernel) rfl, by decide⟩ hlk2 ⟨by decide +kernel, by decide +kernel, by decide +kernel⟩ hR1 hR2 hlv, ht _ (ml_tb 736 (by decide +kernel) rfl), ht _ (ml_tb 737 (by decide +kernel) rfl)⟩ ⟨li_blind, hrv, fun U hU hW => ⟨rfl, li_HLB ht hK hX hS hA hA2 hP hD hU hW B hB⟩⟩ rfl rfl hl.1 rfl (lv_room hroom) hd ⟨by omega, by omega⟩) hS (fun q _ h => hsub q h) (fun q h => hsub q h) (fun q ra t H1 locs1 ht1 hvm _ hB9 hz1 hk1 hS1 => ?_)
  obtain ⟨hq0, hP1, hD1⟩ := hB9
  subst hq0
  rw [ht1] at hP1
  obtain ⟨hP9, hD9⟩ := li_postN hP2 hD2 hsub hP1 hD1 hk1
  obtain ⟨hPa, hDa⟩ := li_perm li_tw_inj (fun i => li_tw_at (B := B) (bq := bq) (aq := aq) (sq := g.2.2.2.2.1 10) (tq := g.2.2.2.2.1 40) (Bs := ml_sb g 0) (M := M) (mb := mb) (ma := ma) (X := X) (s0 := (q 0, .inr (0, [.ref (q 1), .int 0, .int 0, .int 0]))) (s1 := (q 1, .inl (g.2.2.1 4, n9, .inl (va_cpy ma (fun _ => 0) 0 0 n9)))) i) hP9 hD9
  exact K (q 0) (q 1) H1 locs1 la hPa hDa hS1 hl
