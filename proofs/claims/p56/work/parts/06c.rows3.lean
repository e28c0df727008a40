/-! ===== BEGIN a method of a class above, found by the receiver, that may throw (follows va_callVU, va_runU of this kit) ===== -/
section
variable {p : Program} {l : Launch} {e : Env} {R : Room} {s : State} {m : MethodId} {args : Array Value} {below : List Frame} {meth : Method} {c : Code} {H : Heap} {locs : List Loc} {cells slots : Nat}
theorem vx_callVU {T : State} {locs : List Loc} {cells slots : Nat} (X : Stand p l e R s m args below meth c T locs cells slots) (hexec : p.tables.exec = Jvm.exec) {own C owner : String} {index : Nat} {x y : MethodName} {bytes : ByteArray} {maxL : Nat} {ret : Option FieldType}
    (hown : s.vm.findClass own = some m.cls) (hlink : (Cond.methodLink own index x).before args s = true) (hsame : (Cond.sameMethod x.cls owner x.name x.desc).before args s = true)
    (hd0 : va_Decl s ⟨owner, x.name, x.desc⟩) (howner : owner ≠ "java/lang/invoke/MethodHandle" ∧ owner ≠ "java/lang/invoke/VarHandle")
    (hsel : (Cond.selects C x y).before args s = true) (hinst : (Cond.instanceMethod y).before args s = true) (hcode : (Cond.code y bytes maxL ret).before args s = true)
    {W : Nat} {Pre : Pt → Array Value → Prop} {Post : Pt → Array Value → Option Value → Pt → Prop} {PostX : Pt → Array Value → Addr → Pt → Prop} (hK : vx_Back l R p e below s args y 3 W Pre Post PostX)
    {b : Addr} {cellB : Cell} (hcell : T.heap[b]? = some cellB) (hobj : cellB.vm.isStatics = false) (hcls : s.vm.findClass C = some cellB.cls)
    {g : JFrame} (hg : g.method = m) (hsize : g.locals.size = c.maxLocals) {argsL rest : List Value} (hlen : ∀ sig, parseMethodDescriptor x.desc = some sig → argsL.length = sig.parameters.length)
    (hstack : g.stack = argsL.reverse ++ .ref b :: rest) (hW : 2 * g.monitorRoom + (rest.map fun v => v.category).sum ≤ W) (hdg : decode c.code g.pc = .ok (.invokevirtual index, 3))
    (hpre : ∀ vm₁, s.WarmedH vm₁ → Pre ⟨T.setVm vm₁, locs, cells, slots⟩ (Value.ref b :: argsL).toArray) :
    (∃ (v : Option Value) (vm₁ : Vm) (B : Pt), s.WarmedH vm₁ ∧ Stand p l e R s m args below meth c B.U B.locs B.cells B.slots ∧ Post ⟨T.setVm vm₁, locs, cells, slots⟩ (Value.ref b :: argsL).toArray v B ∧
      ∀ target, Steps p.tables e below (B.U.setTop { g with pc := g.pc + 3, stack := v.toList ++ rest }) target → Steps p.tables e below (T.setTop g) target) ∨
    (∃ (q : Addr) (vm₁ : Vm) (B : Pt), s.WarmedH vm₁ ∧ Stand p l e R s m args below meth c B.U B.locs B.cells B.slots ∧ PostX ⟨T.setVm vm₁, locs, cells, slots⟩ (Value.ref b :: argsL).toArray q B ∧
      Steps p.tables e below (T.setTop g) ((B.U.setTop { g with stack := rest }).pushFrame (.throwing q))) := by
  obtain ⟨r0, r, hn, hrm, hstR, hsigR⟩ := hd0
  obtain ⟨cn, ck, r1, hcn, hck, hni, hf, hn1⟩ := Cond.sameMethod_found hsame
  cases hn.symm.trans hn1
  obtain ⟨mk, methM, hnamed, hmethM, -, habM⟩ := Cond.instanceMethod_spec hinst
  obtain ⟨c2, r2, m2, q1, q2, q3, q4, kP, hkP, hkPi⟩ := Cond.selects_spec hsel
  cases hcls.symm.trans q1
  cases hf.symm.trans q2
  cases hnamed.symm.trans q3
  have hselP : selectMethod e.platform s.vm cellB.cls r0 = .method mk := by rw [Launch.admits_selectMethod X.admits]; exact q4
  obtain ⟨vm₁, X₁, hstep₁⟩ := X.invokevirtualUp hexec hown hlink hsame howner hn hrm hstR (a := b) (cell := cellB) hcell
    (fun z h => by rw [h] at hobj; cases hobj) hselP hmethM habM hkP hkPi (g := g) hg (argsL := argsL) (rest := rest) (hlen _ hsigR) hstack hdg
  rcases hK m meth c ⟨T.setVm vm₁, locs, cells, slots⟩ { g with stack := rest } (.invokevirtual index) mk (Value.ref b :: argsL).toArray X₁ hg hsize hdg hW (X₁.named hnamed) (hpre vm₁ X₁.warmed) with ⟨v, B, X', hpost, hsteps⟩ | ⟨q, B, X', hpost, hsteps⟩
  · exact Or.inl ⟨v, vm₁, B, X₁.warmed, X', hpost, fun target h => hstep₁ _ fun acts => by rw [doInvoke_state]; exact hsteps.trans h⟩
  · exact Or.inr ⟨q, vm₁, B, X₁.warmed, X', hpost, hstep₁ _ fun acts => by rw [doInvoke_state]; exact hsteps⟩
theorem vx_runU {x y : MethodName} {bytes cc : ByteArray} {maxL nL mc ms n index : Nat} {ret : Option FieldType} {ws : List Cond} {rm : Room} {Pc : Array Value → State → Prop} {Qc : Array Value → State → Outcome → State → Prop} {XC : String → State → State → Prop} {free : Addr → Prop} {Ts : List Cond} {own C owner : String} {b : Addr} {As rest : List Value} {g : JFrame}
    (S : CallFix p m c cc nL s args Ts own) (hM : vx_Met l y ws rm Pc Qc XC mc ms free) (cw : va_CU R s args own C owner index x y bytes maxL ret ws rm mc ms n) (hp : PreV s H C b Pc As)
    (hg : g.method = m) (hn : As.length = n) (hsize : g.locals.size = nL) (hstack : g.stack = As.reverse ++ .ref b :: rest) (hW : 2 * g.monitorRoom + (rest.map fun v => v.category).sum ≤ 8) (hdg : decode cc g.pc = .ok (.invokevirtual index, 3)) (hf : cells + mc ≤ R.cells ∧ slots + ms ≤ R.slots) :
    vx_Run p l e R s m args below meth c H locs cells slots mc ms g rest (Qc (Value.ref b :: As).toArray) XC free := by
  obtain ⟨hrc, hrs, hfr, hlo, hws, hcw⟩ := cw.back
  have hini := cw.init
  have hK : vx_Back l R p e below s args y 3 8 (PreOf R mc ms Pc) (PostOf Qc mc ms free) (vx_Post XC mc ms free) := vx_back (bytes := bytes) (maxL := maxL) (ret := ret) hM hp.1 hrc hrs hfr hlo hws hcw (fun a' U hW => word_at hW (Or.inl (by first | rfl | simp [Cond.onTables, Cond.keeps, Cond.steady])) hini)
  obtain ⟨hx, hb, hml, ho, -⟩ := S
  obtain ⟨-, ⟨cellB, hcB, hoB, hclB⟩, hPc⟩ := hp
  intro T hT X
  rcases vx_callVU X hx (C := C) (owner := owner) (bytes := bytes) (maxL := maxL) (ret := ret) ho cw.link cw.same cw.decl cw.notMH cw.sel cw.inst cw.code hK (by rw [hT]; exact hcB) hoB hclB hg (hsize.trans hml.symm) (argsL := As) (rest := rest) (fun sig h => hn.trans (cw.len sig h)) hstack hW (by rw [hb]; exact hdg)
    (fun vm₁ hW₁ => ⟨hf.1, hf.2, hPc (T.setVm vm₁) hT hW₁⟩) with ⟨v, vm₁, ⟨U', l2, c2, s2⟩, hW₁, X', ⟨g', mk, t, L, e1, e2, hq, h1, hL, h2, h3⟩, st⟩ | ⟨q, vm₁, ⟨U', l2, c2, s2⟩, hW₁, X', ⟨g', mk, t, L, E, ce, e1, e2, hq, hce, hcv, hcl, h1, hL, h2, h3⟩, st⟩
  · dsimp only [Pt.U, Pt.locs, Pt.cells, Pt.slots] at X' e1 e2 h1 h2 h3 st
    subst h1; subst h2; subst h3
    exact Or.inl ⟨v, (T.setVm vm₁).calling g' mk (Value.ref b :: As).toArray, t, U', L, hT, X', hL, e1, e2, hq, st⟩
  · dsimp only [Pt.U, Pt.locs, Pt.cells, Pt.slots] at X' e1 e2 h1 h2 h3 st hcl
    subst h1; subst h2; subst h3
    exact Or.inr ⟨q, (T.setVm vm₁).calling g' mk (Value.ref b :: As).toArray, t, U', L, E, ce, hT, X', hL, e1, e2, hq, hce, hcv, vx_cls hW₁ hcl, st⟩
end
/-! ===== END ===== -/
/-! ===== BEGIN super.m(..) that may throw (follows va_callSU, va_runSU) ===== -/
section
variable {p : Program} {l : Launch} {e : Env} {R : Room} {s : State} {m : MethodId} {args : Array Value} {below : List Frame} {meth : Method} {c : Code} {H : Heap} {locs : List Loc} {cells slots : Nat}
theorem vx_callSU {T : State} {locs : List Loc} {cells slots : Nat} (X : Stand p l e R s m args below meth c T locs cells slots) (hexec : p.tables.exec = Jvm.exec) {own : String} {index : Nat} {y : MethodName} {bytes : ByteArray} {maxL : Nat} {ret : Option FieldType}
    (hown : s.vm.findClass own = some m.cls) (hlink : (Cond.methodLink own index y).before args s = true) (hsame : (Cond.sameMethod y.cls y.cls y.name y.desc).before args s = true) (hsup : (Cond.superclass own y.cls).before args s = true)
    (hinst : (Cond.instanceMethod y).before args s = true) (hcode : (Cond.code y bytes maxL ret).before args s = true) (hno : y.name ≠ "<init>")
    {W : Nat} {Pre : Pt → Array Value → Prop} {Post : Pt → Array Value → Option Value → Pt → Prop} {PostX : Pt → Array Value → Addr → Pt → Prop} (hK : vx_Back l R p e below s args y 3 W Pre Post PostX)
    {b : Addr} {cellB : Cell} {kB : Class} (hcell : T.heap[b]? = some cellB) (hobj : cellB.vm.isStatics = false) (hkB : s.vm.classes[cellB.cls]? = some kB)
    {g : JFrame} (hg : g.method = m) (hsize : g.locals.size = c.maxLocals) {argsL rest : List Value} (hlen : ∀ sig, parseMethodDescriptor y.desc = some sig → argsL.length = sig.parameters.length)
    (hstack : g.stack = argsL.reverse ++ .ref b :: rest) (hW : 2 * g.monitorRoom + (rest.map fun v => v.category).sum ≤ W) (hdg : decode c.code g.pc = .ok (.invokespecial index, 3))
    (hpre : ∀ vm₁, s.WarmedH vm₁ → Pre ⟨T.setVm vm₁, locs, cells, slots⟩ (Value.ref b :: argsL).toArray) :
    (∃ (v : Option Value) (vm₁ : Vm) (B : Pt), s.WarmedH vm₁ ∧ Stand p l e R s m args below meth c B.U B.locs B.cells B.slots ∧ Post ⟨T.setVm vm₁, locs, cells, slots⟩ (Value.ref b :: argsL).toArray v B ∧
      ∀ target, Steps p.tables e below (B.U.setTop { g with pc := g.pc + 3, stack := v.toList ++ rest }) target → Steps p.tables e below (T.setTop g) target) ∨
    (∃ (q : Addr) (vm₁ : Vm) (B : Pt), s.WarmedH vm₁ ∧ Stand p l e R s m args below meth c B.U B.locs B.cells B.slots ∧ PostX ⟨T.setVm vm₁, locs, cells, slots⟩ (Value.ref b :: argsL).toArray q B ∧
      Steps p.tables e below (T.setTop g) ((B.U.setTop { g with stack := rest }).pushFrame (.throwing q))) := by
  obtain ⟨mk, methM, hnamed, hmethM, hstM, habM⟩ := Cond.instanceMethod_spec hinst
  obtain ⟨methM', cM, hmethM', -, -, -, -, -, -, hsigM⟩ := Cond.code_spec hnamed hcode
  cases hmethM.symm.trans hmethM'
  obtain ⟨ps, dk, kp, hps, hdk, hkp, hsuper, -, -, hnid⟩ := Cond.superclass_spec hown hsup
  have hn : s.methodNamed? ⟨y.cls, y.name, y.desc⟩ = some mk := hnamed
  have hpm : ps = mk.cls := Option.some.inj (hps.symm.trans (findClass_of_methodNamed hnamed))
  have hsub : s.vm.isSubclass ps mk.cls = true := by rw [hpm]; simp [Vm.isSubclass, Vm.isSubclassAux]
  obtain ⟨vm₁, X₁, hstep₁⟩ := X.invokespecialUp hexec hown hlink hsame hn hmethM hstM habM hno hdk hnid hps hsuper hsub (a := b) (cell := cellB) hcell
    (fun z h => by rw [h] at hobj; cases hobj) hkB (g := g) hg (argsL := argsL) (rest := rest) (hlen _ hsigM) hstack hdg
  rcases hK m meth c ⟨T.setVm vm₁, locs, cells, slots⟩ { g with stack := rest } (.invokespecial index) mk (Value.ref b :: argsL).toArray X₁ hg hsize hdg hW (X₁.named hnamed) (hpre vm₁ X₁.warmed) with ⟨v, B, X', hpost, hsteps⟩ | ⟨q, B, X', hpost, hsteps⟩
  · exact Or.inl ⟨v, vm₁, B, X₁.warmed, X', hpost, fun target h => hstep₁ _ (by rw [doInvoke_state]; exact hsteps.trans h)⟩
  · exact Or.inr ⟨q, vm₁, B, X₁.warmed, X', hpost, hstep₁ _ (by rw [doInvoke_state]; exact hsteps)⟩
theorem vx_runSU {y : MethodName} {bytes cc : ByteArray} {maxL nL mc ms n index : Nat} {ret : Option FieldType} {ws : List Cond} {rm : Room} {Pc : Array Value → State → Prop} {Qc : Array Value → State → Outcome → State → Prop} {XC : String → State → State → Prop} {free : Addr → Prop} {Ts : List Cond} {own C : String} {cC : ClassId} {b : Addr} {As rest : List Value} {g : JFrame}
    (hat : ClassAt s C cC) (S : CallFix p m c cc nL s args Ts own) (hM : vx_Met l y ws rm Pc Qc XC mc ms free) (cw : va_CS R s args own index y bytes maxL ret ws rm mc ms n) (hp : PreV s H C b Pc As)
    (hg : g.method = m) (hn : As.length = n) (hsize : g.locals.size = nL) (hstack : g.stack = As.reverse ++ .ref b :: rest) (hW : 2 * g.monitorRoom + (rest.map fun v => v.category).sum ≤ 8) (hdg : decode cc g.pc = .ok (.invokespecial index, 3)) (hf : cells + mc ≤ R.cells ∧ slots + ms ≤ R.slots) :
    vx_Run p l e R s m args below meth c H locs cells slots mc ms g rest (Qc (Value.ref b :: As).toArray) XC free := by
  obtain ⟨⟨hrc, hrs, hfr, hlo, hws, hcw⟩, hl1, hl2, hl3, hl4, hini, hcode, hno, hlen⟩ := cw
  have hK : vx_Back l R p e below s args y 3 8 (PreOf R mc ms Pc) (PostOf Qc mc ms free) (vx_Post XC mc ms free) := vx_back (bytes := bytes) (maxL := maxL) (ret := ret) hM hp.1 hrc hrs hfr hlo hws hcw (fun a' U hW => word_at hW (Or.inl (by first | rfl | simp [Cond.onTables, Cond.keeps, Cond.steady])) hini)
  obtain ⟨hx, hb, hml, ho, -⟩ := S
  obtain ⟨-, ⟨cellB, hcB, hoB, hclB⟩, hPc⟩ := hp
  obtain ⟨hfc, kB, hkB, -⟩ := hat
  cases hfc.symm.trans hclB
  intro T hT X
  rcases vx_callSU X hx (bytes := bytes) (maxL := maxL) (ret := ret) ho hl1 hl2 hl3 hl4 hcode hno hK (by rw [hT]; exact hcB) hoB hkB hg (hsize.trans hml.symm) (argsL := As) (rest := rest) (fun sig h => hn.trans (hlen sig h)) hstack hW (by rw [hb]; exact hdg)
    (fun vm₁ hW₁ => ⟨hf.1, hf.2, hPc (T.setVm vm₁) hT hW₁⟩) with ⟨v, vm₁, ⟨U', l2, c2, s2⟩, hW₁, X', ⟨g', mk, t, L, e1, e2, hq, h1, hL, h2, h3⟩, st⟩ | ⟨q, vm₁, ⟨U', l2, c2, s2⟩, hW₁, X', ⟨g', mk, t, L, E, ce, e1, e2, hq, hce, hcv, hcl, h1, hL, h2, h3⟩, st⟩
  · dsimp only [Pt.U, Pt.locs, Pt.cells, Pt.slots] at X' e1 e2 h1 h2 h3 st
    subst h1; subst h2; subst h3
    exact Or.inl ⟨v, (T.setVm vm₁).calling g' mk (Value.ref b :: As).toArray, t, U', L, hT, X', hL, e1, e2, hq, st⟩
  · dsimp only [Pt.U, Pt.locs, Pt.cells, Pt.slots] at X' e1 e2 h1 h2 h3 st hcl
    subst h1; subst h2; subst h3
    exact Or.inr ⟨q, (T.setVm vm₁).calling g' mk (Value.ref b :: As).toArray, t, U', L, E, ce, hT, X', hL, e1, e2, hq, hce, hcv, vx_cls hW₁ hcl, st⟩
end
/-! ===== END ===== -/
theorem ml_goods {L : List Cond} (h : ∀ w ∈ L, w ∈ ml_all) : GoodIn ml_all L := fun w hw => ⟨h w hw, good_of_word (List.mem_filter.mp (h w hw)).2⟩
theorem ml_wc_in {y : MethodName} {yc : ByteArray} {yn : Nat} {yr : Option FieldType} (W1 : ml_wc y yc yn yr) : ∀ w ∈ ml_ws y yc yn yr, w ∈ ml_all := fun w hw => (List.mem_cons.mp hw).elim (fun e => e ▸ W1.1) id
theorem ml_callU {E : ml_E} {g : ml_G} {cc : ByteArray} {own : String} {nL lv mc ms : Nat} {ret : Option FieldType} {k n pc : Nat} {ls : List (Nat × Value)} {st : List Value} {M : ml_M} {vl : Int32 → ml_M → Option Value} {res : ml_R} {y : MethodName} {yc : ByteArray} {yn : Nat} {yr : Option FieldType} {lv2 mc2 ms2 z idx : Nat} {vl2 : Int32 → ml_M → Option Value} {av : List Value} {x : Option ml_R} {B : Int32 → ml_M → Option ml_R} {stk : List Value} {kb ci : Nat} {fs : (Nat → Int32) → List Value} {Cn : String} {T : u_T} {N : Nat} (F : ml_F E g cc own nL lv mc ms ret []) (O : ml_O g kb ci fs) (hc : vwCl[ci]? = some (Cn, T, N)) (h : ml_bd x B = some res) (hC : ∀ rs, x = some rs → ml_C y yc yn yr lv2 mc2 ms2 g vl2 (ml_rf g kb :: av) M rs) (W1 : ml_wc y yc yn yr) (hlk2 : Cond.methodLink own idx y ∈ ml_all) (hwd : ml_wd y z) (hlv : lv2 < lv) (hk : k + mc2 ≤ mc) (hn2 : n + ms2 ≤ ms) (hz2 : av.length = z) (hsm : Cond.sameMethod y.cls y.cls y.name y.desc ∈ ml_all) (hsel : Cond.selects Cn y y ∈ ml_all) (hins : Cond.instanceMethod y ∈ ml_all) (hstk : stk = av.reverse ++ ml_rf g kb :: st) (hroom : (st.map fun v => v.category).sum ≤ 8) (hd : decode cc pc = .ok (.invokevirtual idx, 3)) (K : ∀ (r9 : Int32) (M9 : ml_M), B r9 M9 = some res → ml_J E g nL (ml_Z E g vl res mc ms) (k + mc2) (n + ms2) (pc + 3) ls ((vl2 r9 M9).toList ++ st) M9) : ml_J E g nL (ml_Z E g vl res mc ms) k n (pc) ls (stk) M := by
  obtain ⟨p, e, R, s, m, args, below, meth, c⟩ := E
  obtain ⟨⟨hx, hb, ht, ho, hm, hlk⟩, ⟨hK, ⟨M0, hD0⟩, hX, hz, htr⟩, ⟨hR1, hR2, hR3, hR4⟩, hret, htb⟩ := F
  have hD : va_D (ml_A g) (ml_wm g M) := ml_D_any hD0
  intro H locs la hP hS hl
  obtain ⟨rs, hx1, hx2, hx3⟩ := ml_bd_k h
  have h4 := W1.2.2
  have hG : GoodIn ml_all (va_wsU own idx Cn y.cls y y (ml_ws y yc yn yr)) := ml_goods (fun w hw => by
    rcases List.mem_append.mp hw with hw | hw
    · simp only [List.mem_cons, List.mem_nil_iff, or_false] at hw
      rcases hw with rfl | rfl | rfl | rfl | rfl
      · exact hlk2
      · exact hsm
      · exact hsel
      · exact hins
      · exact W1.2.1
    · exact ml_wc_in W1 w hw)
  refine ml_after (vx_runU (As := av) (rest := st) (C := Cn) (owner := y.cls) (x := y) ⟨hx, hb, hm, ho, ht⟩ (hC rs hx1) (va_cwU z ht hG rfl rfl rfl rfl ⟨hwd.1, hwd.2.1, hwd.2.2⟩ ⟨by show 40 + lv2 + 1 ≤ _; omega, by show 8 + (yn + 11) + (800 + 64 * lv2) ≤ _; omega⟩) ⟨ml_H_blind, va_recv (D := g.2.1) (cl := vwCl) (tys := ml_ty g) hK hP hc (q0 := ml_ix kb) (by rw [ml_wm_at O.1, O.2]), fun U hU hW => ⟨rfl, ml_H_to hW hU hP hS hK hD0 hX hz⟩⟩ rfl hz2 hl.1 hstk (lv_room hroom) hd ⟨by omega, by omega⟩) hS htb hlk hk hn2 (fun r9 H1 locs1 h9 hP1 hS1 => K r9 rs.2 (hx2 r9 h9) H1 locs1 la hP1 hS1 hl) hx3
theorem ml_callP {E : ml_E} {g : ml_G} {cc : ByteArray} {own : String} {nL lv mc ms : Nat} {ret : Option FieldType} {k n pc : Nat} {ls : List (Nat × Value)} {st : List Value} {M : ml_M} {vl : Int32 → ml_M → Option Value} {res : ml_R} {y : MethodName} {yc : ByteArray} {yn : Nat} {yr : Option FieldType} {lv2 mc2 ms2 z idx : Nat} {vl2 : Int32 → ml_M → Option Value} {av : List Value} {x : Option ml_R} {B : Int32 → ml_M → Option ml_R} {stk : List Value} {kb ci : Nat} {fs : (Nat → Int32) → List Value} {Cn : String} {T : u_T} {N : Nat} (F : ml_F E g cc own nL lv mc ms ret []) (O : ml_O g kb ci fs) (hc : vwCl[ci]? = some (Cn, T, N)) (h : ml_bd x B = some res) (hC : ∀ rs, x = some rs → ml_C y yc yn yr lv2 mc2 ms2 g vl2 (ml_rf g kb :: av) M rs) (W1 : ml_wc y yc yn yr) (hlk2 : Cond.methodLink own idx y ∈ ml_all) (hwd : ml_wd y z) (hlv : lv2 < lv) (hk : k + mc2 ≤ mc) (hn2 : n + ms2 ≤ ms) (hz2 : av.length = z) (hsm : Cond.sameMethod y.cls y.cls y.name y.desc ∈ ml_all) (hsup : Cond.superclass own y.cls ∈ ml_all) (hni : y.name ≠ "<init>") (hins : Cond.instanceMethod y ∈ ml_all) (hstk : stk = av.reverse ++ ml_rf g kb :: st) (hroom : (st.map fun v => v.category).sum ≤ 8) (hd : decode cc pc = .ok (.invokespecial idx, 3)) (K : ∀ (r9 : Int32) (M9 : ml_M), B r9 M9 = some res → ml_J E g nL (ml_Z E g vl res mc ms) (k + mc2) (n + ms2) (pc + 3) ls ((vl2 r9 M9).toList ++ st) M9) : ml_J E g nL (ml_Z E g vl res mc ms) k n (pc) ls (stk) M := by
  obtain ⟨p, e, R, s, m, args, below, meth, c⟩ := E
  obtain ⟨⟨hx, hb, ht, ho, hm, hlk⟩, ⟨hK, ⟨M0, hD0⟩, hX, hz, htr⟩, ⟨hR1, hR2, hR3, hR4⟩, hret, htb⟩ := F
  have hD : va_D (ml_A g) (ml_wm g M) := ml_D_any hD0
  intro H locs la hP hS hl
  obtain ⟨rs, hx1, hx2, hx3⟩ := ml_bd_k h
  have h4 := W1.2.2
  have hG : GoodIn ml_all (va_wsSU own idx y (ml_ws y yc yn yr)) := ml_goods (fun w hw => by
    rcases List.mem_append.mp hw with hw | hw
    · simp only [List.mem_cons, List.mem_nil_iff, or_false] at hw
      rcases hw with rfl | rfl | rfl | rfl | rfl
      · exact hlk2
      · exact hsm
      · exact hsup
      · exact hins
      · exact W1.2.1
    · exact ml_wc_in W1 w hw)
  refine ml_after (vx_runSU (As := av) (rest := st) (C := Cn) (hK.1 ci _ hc).2 ⟨hx, hb, hm, ho, ht⟩ (hC rs hx1) (va_cwSU z ht hG rfl rfl rfl ⟨hni, hwd.2.2⟩ ⟨by show 40 + lv2 + 1 ≤ _; omega, by show 8 + (yn + 11) + (800 + 64 * lv2) ≤ _; omega⟩) ⟨ml_H_blind, va_recv (D := g.2.1) (cl := vwCl) (tys := ml_ty g) hK hP hc (q0 := ml_ix kb) (by rw [ml_wm_at O.1, O.2]), fun U hU hW => ⟨rfl, ml_H_to hW hU hP hS hK hD0 hX hz⟩⟩ rfl hz2 hl.1 hstk (lv_room hroom) hd ⟨by omega, by omega⟩) hS htb hlk hk hn2 (fun r9 H1 locs1 h9 hP1 hS1 => K r9 rs.2 (hx2 r9 h9) H1 locs1 la hP1 hS1 hl) hx3
theorem ml_callT {E : ml_E} {g : ml_G} {cc : ByteArray} {own : String} {nL lv mc ms : Nat} {ret : Option FieldType} {k n pc : Nat} {ls : List (Nat × Value)} {st : List Value} {M : ml_M} {vl : Int32 → ml_M → Option Value} {res : ml_R} {y : MethodName} {yc : ByteArray} {yn : Nat} {yr : Option FieldType} {lv2 mc2 ms2 z idx : Nat} {vl2 : Int32 → ml_M → Option Value} {av : List Value} {x : Option ml_R} {B : Int32 → ml_M → Option ml_R} {stk : List Value} {q8 : Nat} (F : ml_F E g cc own nL lv mc ms ret []) (hq8 : q8 < 7) (hcn : y.cls = "java/lang/String") (h : ml_bd x B = some res) (hC : ∀ rs, x = some rs → ml_C y yc yn yr lv2 mc2 ms2 g vl2 (.ref (g.2.2.2.2.1 (10 + q8)) :: av) M rs) (W1 : ml_wc y yc yn yr) (hlk2 : Cond.methodLink own idx y ∈ ml_all) (hwd : ml_wd y z) (hlv : lv2 < lv) (hk : k + mc2 ≤ mc) (hn2 : n + ms2 ≤ ms) (hz2 : av.length = z) (hsel : Cond.selects y.cls y y ∈ ml_all) (hins : Cond.instanceMethod y ∈ ml_all) (hstk : stk = av.reverse ++ .ref (g.2.2.2.2.1 (10 + q8)) :: st) (hroom : (st.map fun v => v.category).sum ≤ 8) (hd : decode cc pc = .ok (.invokevirtual idx, 3)) (K : ∀ (r9 : Int32) (M9 : ml_M), B r9 M9 = some res → ml_J E g nL (ml_Z E g vl res mc ms) (k + mc2) (n + ms2) (pc + 3) ls ((vl2 r9 M9).toList ++ st) M9) : ml_J E g nL (ml_Z E g vl res mc ms) k n (pc) ls (stk) M := by
  obtain ⟨p, e, R, s, m, args, below, meth, c⟩ := E
  obtain ⟨⟨hx, hb, ht, ho, hm, hlk⟩, ⟨hK, ⟨M0, hD0⟩, hX, hz, htr⟩, ⟨hR1, hR2, hR3, hR4⟩, hret, htb⟩ := F
  have hD : va_D (ml_A g) (ml_wm g M) := ml_D_any hD0
  intro H locs la hP hS hl
  obtain ⟨rs, hx1, hx2, hx3⟩ := ml_bd_k h
  have hrv : ∃ cellB : Cell, H[g.2.2.2.2.1 (10 + q8)]? = some cellB ∧ cellB.vm.isStatics = false ∧ s.vm.findClass y.cls = some cellB.cls := by
    obtain ⟨cell, e1, e2, e3, -⟩ := (hX.1.2.2.2.2.2.2.1 q8 hq8).1.1.kept hS.2.1
    exact ⟨cell, e1, e2, by rw [hcn]; exact e3⟩
  refine ml_after (vx_runV (As := av) (rest := st) (C := y.cls) ⟨hx, hb, hm, ho, ht⟩ (hC rs hx1) ⟨ml_cb ht W1 hlk2 hwd hR1 hR2 hlv, ht _ hins, ht _ hsel⟩ ⟨ml_H_blind, hrv, fun U hU hW => ⟨rfl, ml_H_to hW hU hP hS hK hD0 hX hz⟩⟩ rfl hz2 hl.1 hstk (lv_room hroom) hd ⟨by omega, by omega⟩) hS htb hlk hk hn2 (fun r9 H1 locs1 h9 hP1 hS1 => K r9 rs.2 (hx2 r9 h9) H1 locs1 la hP1 hS1 hl) hx3
theorem ml_ldcS {E : ml_E} {g : ml_G} {cc : ByteArray} {own : String} {nL lv mc ms : Nat} {ret : Option FieldType} {tb : List ExceptionTableEntry} {Q : State → Prop} {k n pc : Nat} {ls : List (Nat × Value)} {st : List Value} {M : ml_M} {i8 : Nat} (F : ml_F E g cc own nL lv mc ms ret tb) (hown8 : own = RL) (hi8 : i8 < 5) (hd : decode cc pc = .ok (.ldc (ml_str i8).1, 2)) (K : ml_J E g nL Q k n (pc + 2) ls (.ref (g.2.2.2.2.1 (10 + i8)) :: st) M) : ml_J E g nL Q k n (pc) ls (st) M := by
  obtain ⟨p, e, R, s, m, args, below, meth, c⟩ := E
  obtain ⟨⟨hx, hb, ht, ho, hm, hlk⟩, ⟨hK, ⟨M0, hD0⟩, hX, hz, htr⟩, ⟨hR1, hR2, hR3, hR4⟩, hret, htb⟩ := F
  have hD : va_D (ml_A g) (ml_wm g M) := ml_D_any hD0
  intro H locs la hP hS hl
  subst hown8
  exact va_ldcS hx hb ho (hX.2.2.2 i8 hi8) hd (K H locs la hP hS hl)
theorem ml_tval {E : ml_E} {g : ml_G} {cc : ByteArray} {own : String} {nL lv mc ms : Nat} {ret : Option FieldType} {tb : List ExceptionTableEntry} {Q : State → Prop} {k n pc : Nat} {ls : List (Nat × Value)} {st : List Value} {M : ml_M} {q8 idx : Nat} {ref : String} (F : ml_F E g cc own nL lv mc ms ret tb) (hq8 : q8 < 7) (hsm : ref = "java/lang/String") (hlk2 : Cond.fieldLink own idx ref "value" "[B" ∈ ml_all) (hd : decode cc pc = .ok (.getfield idx, 3)) (K : ml_J E g nL Q k n (pc + 3) ls (.ref (g.2.2.2.2.1 (40 + q8)) :: st) M) : ml_J E g nL Q k n (pc) ls (.ref (g.2.2.2.2.1 (10 + q8)) :: st) M := by
  obtain ⟨p, e, R, s, m, args, below, meth, c⟩ := E
  obtain ⟨⟨hx, hb, ht, ho, hm, hlk⟩, ⟨hK, ⟨M0, hD0⟩, hX, hz, htr⟩, ⟨hR1, hR2, hR3, hR4⟩, hret, htb⟩ := F
  have hD : va_D (ml_A g) (ml_wm g M) := ml_D_any hD0
  intro H locs la hP hS hl
  subst hsm
  exact vk_getf hx hb (hX.1.2.2.2.2.2.2.1 q8 hq8).1.2.2.1 hS ho (ht _ hlk2) (fun _ h9 => h9) hd (K H locs la hP hS hl)
theorem ml_tcod {E : ml_E} {g : ml_G} {cc : ByteArray} {own : String} {nL lv mc ms : Nat} {ret : Option FieldType} {tb : List ExceptionTableEntry} {Q : State → Prop} {k n pc : Nat} {ls : List (Nat × Value)} {st : List Value} {M : ml_M} {q8 idx : Nat} {ref : String} (F : ml_F E g cc own nL lv mc ms ret tb) (hq8 : q8 < 7) (hsm : ref = "java/lang/String") (hlk2 : Cond.fieldLink own idx ref "coder" "B" ∈ ml_all) (hd : decode cc pc = .ok (.getfield idx, 3)) (K : ml_J E g nL Q k n (pc + 3) ls (.int 0 :: st) M) : ml_J E g nL Q k n (pc) ls (.ref (g.2.2.2.2.1 (10 + q8)) :: st) M := by
  obtain ⟨p, e, R, s, m, args, below, meth, c⟩ := E
  obtain ⟨⟨hx, hb, ht, ho, hm, hlk⟩, ⟨hK, ⟨M0, hD0⟩, hX, hz, htr⟩, ⟨hR1, hR2, hR3, hR4⟩, hret, htb⟩ := F
  have hD : va_D (ml_A g) (ml_wm g M) := ml_D_any hD0
  intro H locs la hP hS hl
  subst hsm
  exact vk_getf hx hb (hX.1.2.2.2.2.2.2.1 q8 hq8).1.2.1 hS ho (ht _ hlk2) (fun _ h9 => h9) hd (K H locs la hP hS hl)
theorem ml_tald {E : ml_E} {g : ml_G} {cc : ByteArray} {own : String} {nL lv mc ms : Nat} {ret : Option FieldType} {tb : List ExceptionTableEntry} {Q : State → Prop} {k n pc : Nat} {ls : List (Nat × Value)} {st : List Value} {M : ml_M} {q8 : Nat} {i : Int32} {α : Type} {A : Option α} {r : α} {dec : Decidable (ml_ok i (ml_sb g q8).length)} (F : ml_F E g cc own nL lv mc ms ret tb) (hq8 : q8 < 7) (h : (@ite _ (ml_ok i (ml_sb g q8).length) dec A none) = some r) (hd : decode cc pc = .ok (.baload, 1)) (K : A = some r → ml_J E g nL Q k n (pc + 1) ls (.int ((ml_sb g q8).getD i.toNatClampNeg 0) :: st) M) : ml_J E g nL Q k n (pc) ls (.int i :: .ref (g.2.2.2.2.1 (40 + q8)) :: st) M := by
  obtain ⟨p, e, R, s, m, args, below, meth, c⟩ := E
  obtain ⟨⟨hx, hb, ht, ho, hm, hlk⟩, ⟨hK, ⟨M0, hD0⟩, hX, hz, htr⟩, ⟨hR1, hR2, hR3, hR4⟩, hret, htb⟩ := F
  have hD : va_D (ml_A g) (ml_wm g M) := ml_D_any hD0
  intro H locs la hP hS hl
  have hq := ml_if h
  exact va_tb hx hb (hX.1.2.2.2.2.2.2.1 q8 hq8).1.2.2.2 hS (ml_ok_in hq.1) rfl hd (K hq.2 H locs la hP hS hl)
theorem ml_tlen {E : ml_E} {g : ml_G} {cc : ByteArray} {own : String} {nL lv mc ms : Nat} {ret : Option FieldType} {tb : List ExceptionTableEntry} {Q : State → Prop} {k n pc : Nat} {ls : List (Nat × Value)} {st : List Value} {M : ml_M} {q8 : Nat} (F : ml_F E g cc own nL lv mc ms ret tb) (hq8 : q8 < 7) (hd : decode cc pc = .ok (.arraylength, 1)) (K : ml_J E g nL Q k n (pc + 1) ls (.int (nI (ml_sb g q8).length) :: st) M) : ml_J E g nL Q k n (pc) ls (.ref (g.2.2.2.2.1 (40 + q8)) :: st) M := by
  obtain ⟨p, e, R, s, m, args, below, meth, c⟩ := E
  obtain ⟨⟨hx, hb, ht, ho, hm, hlk⟩, ⟨hK, ⟨M0, hD0⟩, hX, hz, htr⟩, ⟨hR1, hR2, hR3, hR4⟩, hret, htb⟩ := F
  have hD : va_D (ml_A g) (ml_wm g M) := ml_D_any hD0
  intro H locs la hP hS hl
  exact va_tlen hx hb (hX.1.2.2.2.2.2.2.1 q8 hq8).1.2.2.2 hS rfl hd (K H locs la hP hS hl)
theorem ml_alen {E : ml_E} {g : ml_G} {cc : ByteArray} {own : String} {nL lv mc ms : Nat} {ret : Option FieldType} {tb : List ExceptionTableEntry} {Q : State → Prop} {k n pc : Nat} {ls : List (Nat × Value)} {st : List Value} {M : ml_M} {ka t z : Nat} {v : Int32} {ty : FieldType} (F : ml_F E g cc own nL lv mc ms ret tb) (I : ml_I g ka t z) (hty : ∃ cA, (ml_ty g)[t]? = some (cA, ty) ∧ cA = g.2.2.1 t) (hv : Int32.ofNat z = v) (hd : decode cc pc = .ok (.arraylength, 1)) (K : ml_J E g nL Q k n (pc + 1) ls (.int v :: st) M) : ml_J E g nL Q k n (pc) ls (ml_rf g ka :: st) M := by
  obtain ⟨p, e, R, s, m, args, below, meth, c⟩ := E
  obtain ⟨⟨hx, hb, ht, ho, hm, hlk⟩, ⟨hK, ⟨M0, hD0⟩, hX, hz, htr⟩, ⟨hR1, hR2, hR3, hR4⟩, hret, htb⟩ := F
  have hD : va_D (ml_A g) (ml_wm g M) := ml_D_any hD0
  intro H locs la hP hS hl
  obtain ⟨cA, h1, rfl⟩ := hty
  exact va_alen (D := g.2.1) (cl := vwCl) (tys := ml_ty g) hx hb hK hP (ml_ix ka) t (by rw [ml_wm_at I.1, I.2]; rfl) h1 hv hd (K H locs la hP hS hl)
theorem ml_gcp {E : ml_E} {g : ml_G} {cc : ByteArray} {own : String} {nL lv mc ms : Nat} {ret : Option FieldType} {tb : List ExceptionTableEntry} {Q : State → Prop} {k n pc : Nat} {ls : List (Nat × Value)} {st : List Value} {M : ml_M} {idx : Nat} (F : ml_F E g cc own nL lv mc ms ret tb) (hlk2 : Cond.fieldLink own idx "java/lang/String" "COMPACT_STRINGS" "Z" ∈ ml_all) (hd : decode cc pc = .ok (.getstatic idx, 3)) (K : ml_J E g nL Q k n (pc + 3) ls (.int 1 :: st) M) : ml_J E g nL Q k n (pc) ls (st) M := by
  obtain ⟨p, e, R, s, m, args, below, meth, c⟩ := E
  obtain ⟨⟨hx, hb, ht, ho, hm, hlk⟩, ⟨hK, ⟨M0, hD0⟩, hX, hz, htr⟩, ⟨hR1, hR2, hR3, hR4⟩, hret, htb⟩ := F
  have hD : va_D (ml_A g) (ml_wm g M) := ml_D_any hD0
  intro H locs la hP hS hl
  exact va_gets hx hb hX.1.2.2.2.1 hS ho (ht _ hlk2) (fun _ h9 => h9) hd (K H locs la hP hS hl)
theorem ml_gdg0 {E : ml_E} {g : ml_G} {cc : ByteArray} {own : String} {nL lv mc ms : Nat} {ret : Option FieldType} {tb : List ExceptionTableEntry} {Q : State → Prop} {k n pc : Nat} {ls : List (Nat × Value)} {st : List Value} {M : ml_M} {idx : Nat} (F : ml_F E g cc own nL lv mc ms ret tb) (hlk2 : Cond.fieldLink own idx "java/lang/Integer" "DigitOnes" "[B" ∈ ml_all) (hd : decode cc pc = .ok (.getstatic idx, 3)) (K : ml_J E g nL Q k n (pc + 3) ls (.ref (g.2.2.2.2.1 2) :: st) M) : ml_J E g nL Q k n (pc) ls (st) M := by
  obtain ⟨p, e, R, s, m, args, below, meth, c⟩ := E
  obtain ⟨⟨hx, hb, ht, ho, hm, hlk⟩, ⟨hK, ⟨M0, hD0⟩, hX, hz, htr⟩, ⟨hR1, hR2, hR3, hR4⟩, hret, htb⟩ := F
  have hD : va_D (ml_A g) (ml_wm g M) := ml_D_any hD0
  intro H locs la hP hS hl
  exact va_gets hx hb hX.1.2.2.2.2.1.1 hS ho (ht _ hlk2) (fun _ h9 => h9) hd (K H locs la hP hS hl)
theorem ml_dgld0 {E : ml_E} {g : ml_G} {cc : ByteArray} {own : String} {nL lv mc ms : Nat} {ret : Option FieldType} {tb : List ExceptionTableEntry} {Q : State → Prop} {k n pc : Nat} {ls : List (Nat × Value)} {st : List Value} {M : ml_M} {i : Int32} {α : Type} {A : Option α} {r : α} {dec : Decidable (ml_ok i 100)} (F : ml_F E g cc own nL lv mc ms ret tb) (h : (@ite _ (ml_ok i 100) dec A none) = some r) (hd : decode cc pc = .ok (.baload, 1)) (K : A = some r → ml_J E g nL Q k n (pc + 1) ls (.int (ml_dig 0 i.toNatClampNeg) :: st) M) : ml_J E g nL Q k n (pc) ls (.int i :: .ref (g.2.2.2.2.1 2) :: st) M := by
  obtain ⟨p, e, R, s, m, args, below, meth, c⟩ := E
  obtain ⟨⟨hx, hb, ht, ho, hm, hlk⟩, ⟨hK, ⟨M0, hD0⟩, hX, hz, htr⟩, ⟨hR1, hR2, hR3, hR4⟩, hret, htb⟩ := F
  have hD : va_D (ml_A g) (ml_wm g M) := ml_D_any hD0
  intro H locs la hP hS hl
  have hq := ml_if h
  exact va_tb hx hb hX.1.2.2.2.2.1.2 hS (ml_ok_in hq.1) rfl hd (K hq.2 H locs la hP hS hl)
theorem ml_gdg1 {E : ml_E} {g : ml_G} {cc : ByteArray} {own : String} {nL lv mc ms : Nat} {ret : Option FieldType} {tb : List ExceptionTableEntry} {Q : State → Prop} {k n pc : Nat} {ls : List (Nat × Value)} {st : List Value} {M : ml_M} {idx : Nat} (F : ml_F E g cc own nL lv mc ms ret tb) (hlk2 : Cond.fieldLink own idx "java/lang/Integer" "DigitTens" "[B" ∈ ml_all) (hd : decode cc pc = .ok (.getstatic idx, 3)) (K : ml_J E g nL Q k n (pc + 3) ls (.ref (g.2.2.2.2.1 3) :: st) M) : ml_J E g nL Q k n (pc) ls (st) M := by
  obtain ⟨p, e, R, s, m, args, below, meth, c⟩ := E
  obtain ⟨⟨hx, hb, ht, ho, hm, hlk⟩, ⟨hK, ⟨M0, hD0⟩, hX, hz, htr⟩, ⟨hR1, hR2, hR3, hR4⟩, hret, htb⟩ := F
  have hD : va_D (ml_A g) (ml_wm g M) := ml_D_any hD0
  intro H locs la hP hS hl
  exact va_gets hx hb hX.1.2.2.2.2.2.1.1 hS ho (ht _ hlk2) (fun _ h9 => h9) hd (K H locs la hP hS hl)
theorem ml_dgld1 {E : ml_E} {g : ml_G} {cc : ByteArray} {own : String} {nL lv mc ms : Nat} {ret : Option FieldType} {tb : List ExceptionTableEntry} {Q : State → Prop} {k n pc : Nat} {ls : List (Nat × Value)} {st : List Value} {M : ml_M} {i : Int32} {α : Type} {A : Option α} {r : α} {dec : Decidable (ml_ok i 100)} (F : ml_F E g cc own nL lv mc ms ret tb) (h : (@ite _ (ml_ok i 100) dec A none) = some r) (hd : decode cc pc = .ok (.baload, 1)) (K : A = some r → ml_J E g nL Q k n (pc + 1) ls (.int (ml_dig 1 i.toNatClampNeg) :: st) M) : ml_J E g nL Q k n (pc) ls (.int i :: .ref (g.2.2.2.2.1 3) :: st) M := by
  obtain ⟨p, e, R, s, m, args, below, meth, c⟩ := E
  obtain ⟨⟨hx, hb, ht, ho, hm, hlk⟩, ⟨hK, ⟨M0, hD0⟩, hX, hz, htr⟩, ⟨hR1, hR2, hR3, hR4⟩, hret, htb⟩ := F
  have hD : va_D (ml_A g) (ml_wm g M) := ml_D_any hD0
  intro H locs la hP hS hl
  have hq := ml_if h
  exact va_tb hx hb hX.1.2.2.2.2.2.1.2 hS (ml_ok_in hq.1) rfl hd (K hq.2 H locs la hP hS hl)
theorem ml_ixor {E : ml_E} {g : ml_G} {cc : ByteArray} {own : String} {nL lv mc ms : Nat} {ret : Option FieldType} {tb : List ExceptionTableEntry} {Q : State → Prop} {k n pc : Nat} {ls : List (Nat × Value)} {st : List Value} {M : ml_M} {x y : Int32} (F : ml_F E g cc own nL lv mc ms ret tb) (hd : decode cc pc = .ok (.ixor, 1)) (K : ml_J E g nL Q k n (pc + 1) ls (.int (x ^^^ y) :: st) M) : ml_J E g nL Q k n (pc) ls (.int y :: .int x :: st) M := by
  obtain ⟨p, e, R, s, m, args, below, meth, c⟩ := E
  obtain ⟨⟨hx, hb, ht, ho, hm, hlk⟩, ⟨hK, ⟨M0, hD0⟩, hX, hz, htr⟩, ⟨hR1, hR2, hR3, hR4⟩, hret, htb⟩ := F
  have hD : va_D (ml_A g) (ml_wm g M) := ml_D_any hD0
  intro H locs la hP hS hl
  exact lv_ixor hx hb hd (K H locs la hP hS hl)
theorem ml_max {E : ml_E} {g : ml_G} {cc : ByteArray} {own : String} {nL lv mc ms : Nat} {ret : Option FieldType} {tb : List ExceptionTableEntry} {Q : State → Prop} {k n pc : Nat} {ls : List (Nat × Value)} {st : List Value} {M : ml_M} {x y : Int32} {idx : Nat} (F : ml_F E g cc own nL lv mc ms ret tb) (hlk2 : Cond.methodLink own idx Lib.Math.max.name ∈ ml_all) (h1 : Cond.static Lib.Math.max.name ∈ ml_all) (h2 : Cond.initialized "java/lang/Math" ∈ ml_all) (h3 : Cond.code Lib.Math.max.name Lib.Math.max.code 2 (some .int) ∈ ml_all) (hd : decode cc pc = .ok (.invokestatic idx, 3)) (hst9 : (st.map fun v => v.category).sum ≤ 8) (hk : k ≤ mc) (hn2 : n ≤ ms) (K : ml_J E g nL Q k n (pc + 3) ls (.int (if x < y then y else x) :: st) M) : ml_J E g nL Q k n (pc) ls (.int y :: .int x :: st) M := by
  obtain ⟨p, e, R, s, m, args, below, meth, c⟩ := E
  obtain ⟨⟨hx, hb, ht, ho, hm, hlk⟩, ⟨hK, ⟨M0, hD0⟩, hX, hz, htr⟩, ⟨hR1, hR2, hR3, hR4⟩, hret, htb⟩ := F
  have hD : va_D (ml_A g) (ml_wm g M) := ml_D_any hD0
  intro H locs la hP hS hl
  exact va_mmax hx hb (hm.trans hl.1.symm) ho (ht _ hlk2) (ht _ h1) (ht _ h2) (ht _ h3) (by omega) (by omega) (by omega) (by omega) hd (K H locs la hP hS hl)
theorem ml_gsi {E : ml_E} {g : ml_G} {cc : ByteArray} {own : String} {nL lv mc ms : Nat} {ret : Option FieldType} {tb : List ExceptionTableEntry} {Q : State → Prop} {k n pc : Nat} {ls : List (Nat × Value)} {st : List Value} {M : ml_M} {idx : Nat} (F : ml_F E g cc own nL lv mc ms ret tb) (hlk2 : Cond.fieldLink own idx "jdk/internal/util/Preconditions" "SIOOBE_FORMATTER" "Ljava/util/function/BiFunction;" ∈ ml_all) (hd : decode cc pc = .ok (.getstatic idx, 3)) (K : ∀ r : Option Nat, ml_J E g nL Q k n (pc + 3) ls (va_rf r :: st) M) : ml_J E g nL Q k n (pc) ls (st) M := by
  obtain ⟨p, e, R, s, m, args, below, meth, c⟩ := E
  obtain ⟨⟨hx, hb, ht, ho, hm, hlk⟩, ⟨hK, ⟨M0, hD0⟩, hX, hz, htr⟩, ⟨hR1, hR2, hR3, hR4⟩, hret, htb⟩ := F
  have hD : va_D (ml_A g) (ml_wm g M) := ml_D_any hD0
  intro H locs la hP hS hl
  rcases hX.1.2.2.2.2.2.2.2.2.2 with hz9 | ⟨t9, hz9⟩
  · exact va_gets hx hb hz9 hS ho (ht _ hlk2) (fun _ h9 => h9) hd (K none H locs la hP hS hl)
  · exact va_gets hx hb hz9 hS ho (ht _ hlk2) (fun _ h9 => h9) hd (K (some t9) H locs la hP hS hl)
theorem ml_iushr {E : ml_E} {g : ml_G} {cc : ByteArray} {own : String} {nL lv mc ms : Nat} {ret : Option FieldType} {tb : List ExceptionTableEntry} {Q : State → Prop} {k n pc : Nat} {ls : List (Nat × Value)} {st : List Value} {M : ml_M} {x y : Int32} (F : ml_F E g cc own nL lv mc ms ret tb) (hd : decode cc pc = .ok (.iushr, 1)) (K : ml_J E g nL Q k n (pc + 1) ls (.int ((x.toUInt32 >>> (y.toUInt32 &&& Int32.toUInt32 31)).toInt32) :: st) M) : ml_J E g nL Q k n (pc) ls (.int y :: .int x :: st) M := by
  obtain ⟨p, e, R, s, m, args, below, meth, c⟩ := E
  obtain ⟨⟨hx, hb, ht, ho, hm, hlk⟩, ⟨hK, ⟨M0, hD0⟩, hX, hz, htr⟩, ⟨hR1, hR2, hR3, hR4⟩, hret, htb⟩ := F
  have hD : va_D (ml_A g) (ml_wm g M) := ml_D_any hD0
  intro H locs la hP hS hl
  exact lv_iushr hx hb hd rfl (K H locs la hP hS hl)
theorem ml_aret {E : ml_E} {g : ml_G} {cc : ByteArray} {own : String} {nL lv mc ms : Nat} {ret : Option FieldType} {k n pc : Nat} {ls : List (Nat × Value)} {st : List Value} {M : ml_M} {vl : Int32 → ml_M → Option Value} {res : ml_R} {x : Int32} {kb : Nat} {rt : FieldType} (F : ml_F E g cc own nL lv mc ms ret []) (h : ((Sum.inl x, M) : ml_R) = res) (hvl : vl x M = some (ml_rf g kb)) (h0 : ret = some rt) (hrt : (∃ n, rt = FieldType.object n) ∨ ∃ t, rt = FieldType.array t) (hk : k ≤ mc) (hn2 : n ≤ ms) (hd : decode cc pc = .ok (.areturn, 1)) : ml_J E g nL (ml_Z E g vl res mc ms) k n (pc) ls (ml_rf g kb :: []) M := by
  obtain ⟨p, e, R, s, m, args, below, meth, c⟩ := E
  obtain ⟨⟨hx, hb, ht, ho, hm, hlk⟩, ⟨hK, ⟨M0, hD0⟩, hX, hz, htr⟩, ⟨hR1, hR2, hR3, hR4⟩, hret, htb⟩ := F
  have hD : va_D (ml_A g) (ml_wm g M) := ml_D_any hD0
  intro H locs la hP hS hl
  subst h
  refine W.widen hk hn2 (vx_ret ?_)
  exact W.aret (v := ml_rf g kb) (rt := rt) hx hb (hret.trans h0) hrt (Or.inr ⟨_, rfl⟩) (fun t ht9 hW => ⟨x, rfl, by rw [hvl], by rw [ht9]; exact hP, hS.F ht9⟩) hS.2.2 hd hlk
theorem ml_P_same {g : ml_G} {M M1 : ml_M} {H : Heap} (h : ∀ k, ml_vp k → M1 k = M k) (hP : ml_P g M H) : ml_P g M1 H := by
  have e : ml_wm g M1 = ml_wm g M := by
    apply List.map_congr_left
    intro k hk
    rw [h _ (ml_pk_vp (List.mem_range.mp hk)).1]
  unfold ml_P at hP ⊢
  rw [e]
  exact hP
theorem ml_scr {E : ml_E} {g : ml_G} {nL : Nat} {Q : State → Prop} {k n pc : Nat} {ls : List (Nat × Value)} {st : List Value} {M : ml_M} (M1 : ml_M) (h9 : ∀ k, ml_vp k → M1 k = M k) (K : ml_J E g nL Q k n (pc) ls (st) M1) : ml_J E g nL Q k n (pc) ls (st) M := by
  obtain ⟨p, e, R, s, m, args, below, meth, c⟩ := E
  exact fun H locs la hP hS hl => K H locs la (ml_P_same h9 hP) hS hl
theorem ml_tableD {E : ml_E} {g : ml_G} {cc : ByteArray} {own : String} {nL lv mc ms : Nat} {ret : Option FieldType} {tb : List ExceptionTableEntry} {Q : State → Prop} {k n pc : Nat} {ls : List (Nat × Value)} {st : List Value} {M : ml_M} {dflt lo hi : Int} {offs : Array Int} {len : Nat} {x : Int32} {tgt : Nat} (F : ml_F E g cc own nL lv mc ms ret tb) (hd : decode cc pc = .ok (.tableswitch dflt lo hi offs, len)) (hall : ∀ v : Int, lo ≤ v → v ≤ hi → x.toInt = v → offs[(v - lo).toNat]? = some dflt) (hg : (pc : Int) + dflt = (tgt : Int)) (K : ml_J E g nL Q k n (tgt) ls (st) M) : ml_J E g nL Q k n (pc) ls (.int x :: st) M := by
  obtain ⟨p, e, R, s, m, args, below, meth, c⟩ := E
  obtain ⟨⟨hx, hb, ht, ho, hm, hlk⟩, ⟨hK, ⟨M0, hD0⟩, hX, hz, htr⟩, ⟨hR1, hR2, hR3, hR4⟩, hret, htb⟩ := F
  have hD : va_D (ml_A g) (ml_wm g M) := ml_D_any hD0
  intro H locs la hP hS hl
  by_cases q1 : x.toInt < lo
  · exact lv_tableOut hx hb hd (Or.inl q1) hg (K H locs la hP hS hl)
  by_cases q2 : hi < x.toInt
  · exact lv_tableOut hx hb hd (Or.inr q2) hg (K H locs la hP hS hl)
  exact lv_tableIn hx hb hd q1 q2 (hall _ (by omega) (by omega) rfl) hg (K H locs la hP hS hl)
theorem ml_i2d {E : ml_E} {g : ml_G} {cc : ByteArray} {own : String} {nL lv mc ms : Nat} {ret : Option FieldType} {tb : List ExceptionTableEntry} {Q : State → Prop} {k n pc : Nat} {ls : List (Nat × Value)} {st : List Value} {M : ml_M} {x : Int32} (F : ml_F E g cc own nL lv mc ms ret tb) (hd : decode cc pc = .ok (.i2d, 1)) (K : ml_J E g nL Q k n (pc + 1) ls (.double (FP.i2d x) :: st) M) : ml_J E g nL Q k n (pc) ls (.int x :: st) M := by
  obtain ⟨p, e, R, s, m, args, below, meth, c⟩ := E
  obtain ⟨⟨hx, hb, ht, ho, hm, hlk⟩, ⟨hK, ⟨M0, hD0⟩, hX, hz, htr⟩, ⟨hR1, hR2, hR3, hR4⟩, hret, htb⟩ := F
  have hD : va_D (ml_A g) (ml_wm g M) := ml_D_any hD0
  intro H locs la hP hS hl
  exact lv_i2d hx hb hd (K H locs la hP hS hl)
theorem ml_ddiv {E : ml_E} {g : ml_G} {cc : ByteArray} {own : String} {nL lv mc ms : Nat} {ret : Option FieldType} {tb : List ExceptionTableEntry} {Q : State → Prop} {k n pc : Nat} {ls : List (Nat × Value)} {st : List Value} {M : ml_M} {x y : UInt64} (F : ml_F E g cc own nL lv mc ms ret tb) (hd : decode cc pc = .ok (.ddiv, 1)) (hne : vf_n64 (FP.ddiv x y)) (K : ml_J E g nL Q k n (pc + 1) ls (.double (FP.ddiv x y) :: st) M) : ml_J E g nL Q k n (pc) ls (.double y :: .double x :: st) M := by
  obtain ⟨p, e, R, s, m, args, below, meth, c⟩ := E
  obtain ⟨⟨hx, hb, ht, ho, hm, hlk⟩, ⟨hK, ⟨M0, hD0⟩, hX, hz, htr⟩, ⟨hR1, hR2, hR3, hR4⟩, hret, htb⟩ := F
  have hD : va_D (ml_A g) (ml_wm g M) := ml_D_any hD0
  intro H locs la hP hS hl
  exact lv_ddiv hx hb hd hne (K H locs la hP hS hl)
theorem ml_i2f {E : ml_E} {g : ml_G} {cc : ByteArray} {own : String} {nL lv mc ms : Nat} {ret : Option FieldType} {tb : List ExceptionTableEntry} {Q : State → Prop} {k n pc : Nat} {ls : List (Nat × Value)} {st : List Value} {M : ml_M} {x : Int32} (F : ml_F E g cc own nL lv mc ms ret tb) (hd : decode cc pc = .ok (.i2f, 1)) (K : ml_J E g nL Q k n (pc + 1) ls (.float (FP.i2f x) :: st) M) : ml_J E g nL Q k n (pc) ls (.int x :: st) M := by
  obtain ⟨p, e, R, s, m, args, below, meth, c⟩ := E
  obtain ⟨⟨hx, hb, ht, ho, hm, hlk⟩, ⟨hK, ⟨M0, hD0⟩, hX, hz, htr⟩, ⟨hR1, hR2, hR3, hR4⟩, hret, htb⟩ := F
  have hD : va_D (ml_A g) (ml_wm g M) := ml_D_any hD0
  intro H locs la hP hS hl
  exact lv_i2f hx hb hd (K H locs la hP hS hl)
theorem ml_fdiv {E : ml_E} {g : ml_G} {cc : ByteArray} {own : String} {nL lv mc ms : Nat} {ret : Option FieldType} {tb : List ExceptionTableEntry} {Q : State → Prop} {k n pc : Nat} {ls : List (Nat × Value)} {st : List Value} {M : ml_M} {x y : UInt32} (F : ml_F E g cc own nL lv mc ms ret tb) (hd : decode cc pc = .ok (.fdiv, 1)) (hne : vf_n32 (FP.fdiv x y)) (K : ml_J E g nL Q k n (pc + 1) ls (.float (FP.fdiv x y) :: st) M) : ml_J E g nL Q k n (pc) ls (.float y :: .float x :: st) M := by
  obtain ⟨p, e, R, s, m, args, below, meth, c⟩ := E
  obtain ⟨⟨hx, hb, ht, ho, hm, hlk⟩, ⟨hK, ⟨M0, hD0⟩, hX, hz, htr⟩, ⟨hR1, hR2, hR3, hR4⟩, hret, htb⟩ := F
  have hD : va_D (ml_A g) (ml_wm g M) := ml_D_any hD0
  intro H locs la hP hS hl
  exact lv_fdiv hx hb hd hne (K H locs la hP hS hl)
theorem ml_ldcf {E : ml_E} {g : ml_G} {cc : ByteArray} {own : String} {nL lv mc ms : Nat} {ret : Option FieldType} {tb : List ExceptionTableEntry} {Q : State → Prop} {k n pc : Nat} {ls : List (Nat × Value)} {st : List Value} {M : ml_M} {index : Nat} {v : UInt32} (F : ml_F E g cc own nL lv mc ms ret tb) (hlk2 : Cond.constantFloat own index v ∈ ml_all) (hd : decode cc pc = .ok (.ldc index, 2)) (K : ml_J E g nL Q k n (pc + 2) ls (.float v :: st) M) : ml_J E g nL Q k n (pc) ls (st) M := by
  obtain ⟨p, e, R, s, m, args, below, meth, c⟩ := E
  obtain ⟨⟨hx, hb, ht, ho, hm, hlk⟩, ⟨hK, ⟨M0, hD0⟩, hX, hz, htr⟩, ⟨hR1, hR2, hR3, hR4⟩, hret, htb⟩ := F
  have hD : va_D (ml_A g) (ml_wm g M) := ml_D_any hD0
  intro H locs la hP hS hl
  exact lv_ldcf hx hb ho (ht _ hlk2) hd (K H locs la hP hS hl)
theorem ml_dconst0 {E : ml_E} {g : ml_G} {cc : ByteArray} {own : String} {nL lv mc ms : Nat} {ret : Option FieldType} {tb : List ExceptionTableEntry} {Q : State → Prop} {k n pc : Nat} {ls : List (Nat × Value)} {st : List Value} {M : ml_M}  (F : ml_F E g cc own nL lv mc ms ret tb) (hd : decode cc pc = .ok (.dconst 0, 1)) (K : ml_J E g nL Q k n (pc + 1) ls (.double FP.dconst0 :: st) M) : ml_J E g nL Q k n (pc) ls (st) M := by
  obtain ⟨p, e, R, s, m, args, below, meth, c⟩ := E
  obtain ⟨⟨hx, hb, ht, ho, hm, hlk⟩, ⟨hK, ⟨M0, hD0⟩, hX, hz, htr⟩, ⟨hR1, hR2, hR3, hR4⟩, hret, htb⟩ := F
  have hD : va_D (ml_A g) (ml_wm g M) := ml_D_any hD0
  intro H locs la hP hS hl
  exact lv_dconst0 hx hb hd (K H locs la hP hS hl)
theorem ml_vofF {l : Launch} {y : MethodName} {ws ws' : List Cond} {rm : Room} {Pc : Array Value → State → Prop} {Qc : Array Value → State → Outcome → State → Prop} {XC : String → State → State → Prop} {mc ms : Nat} {free : Addr → Prop} {cc : ByteArray} {maxL : Nat} {ret : Option FieldType}
    (hy : plainFor y = true) (hw : ws = Cond.code y cc maxL ret :: ws')
    (body : ∀ p e s m args below meth c s₁, BodyLoose p l y (headSpec ws rm) cc maxL ret e s m args below meth c s₁ → c.maxLocals = maxL → (∀ x ∈ c.exceptionTable.toList, False) → Pc args s →
      W p l e (headSpec ws rm).room s m args below meth c s.heap [] 0 0 (vx_MQ below Qc XC args s mc ms free) (entryFrame m args maxL)) : vx_Met l y ws rm Pc Qc XC mc ms free := by
  refine MetFree.of_bodySF (code := cc) (maxLocals := maxL) (ret := ret) hy ?_ ?_
  · intro args s m h hn
    obtain ⟨meth, c, h1, h2, h3, h4, h5, h6, -, -⟩ := Cond.code_spec hn (atoms_spec (ws := ws) h _ (by rw [hw]; exact List.mem_cons_self))
    exact ⟨meth, c, h1, h2, h3, h4, h5, h6⟩
  · intro p e s m args below meth c s₁ B hml hP _
    have hh0 : s₁.heap = s.heap := by rw [B.state]; rfl
    have ht : ∀ x ∈ c.exceptionTable.toList, False := by
      obtain ⟨meth9, c9, h1, h2, -, -, -, -, h7, -⟩ := Cond.code_spec B.named (atoms_spec (ws := ws) B.pre _ (by rw [hw]; exact List.mem_cons_self))
      cases Option.some.inj (h1.symm.trans B.method)
      cases Option.some.inj (h2.symm.trans (Stand.of_body B).code)
      intro x hx
      rw [Array.isEmpty_iff.mp h7] at hx
      cases hx
    obtain ⟨t, a1, o, b1, b2, b3⟩ := body p e s m args below meth c s₁ B hml ht hP s₁ hh0 (Stand.of_body B)
    exact ⟨t, o, a1, b1, b2, b3⟩
theorem ml_ofF {y : MethodName} {cc : ByteArray} {maxL : Nat} {ret : Option FieldType} {lv mc ms : Nat} {g : ml_G} {vl : Int32 → ml_M → Option Value} {av : List Value} {M : ml_M} {res : ml_R} (ls : List (Nat × Value)) (hst : g.2.2.2.2.2.stackTraces = false) (hy : plainFor y = true) (hn : (lg_sl av).length ≤ maxL) (hls : lv_args 0 av = ls)
    (body : ∀ E : ml_E, ml_F E g cc y.cls maxL lv mc ms ret [] → ml_J E g maxL (ml_Z E g vl res mc ms) 0 0 0 ls [] M) : ml_C y cc maxL ret lv mc ms g vl av M res := by
  subst hls
  refine ml_vofF (cc := cc) (maxL := maxL) (ret := ret) hy rfl ?_
  intro p e s m args below meth c s₁ B hml htb hv
  obtain ⟨rfl, hz, hP, hK, hD, hX⟩ := hv
  have hts := atoms_spec (ws := ml_ws y cc maxL ret) B.pre
  have htb2 : c.exceptionTable.toList = [] := by
    cases h : c.exceptionTable.toList with
    | nil => rfl
    | cons x t => exact absurd (htb x (by rw [h]; exact List.mem_cons_self)) id
  rw [lg_entry_eq]
  exact body (p, e, (headSpec (ml_ws y cc maxL ret) (ml_rm lv mc ms)).room, s, m, av.toArray, below, meth, c) ⟨⟨B.exec, B.bytes, fun w hw => hts w (List.mem_cons_of_mem _ hw), findClass_of_methodNamed B.named, hml, B.notSynchronized⟩, ⟨hK, ⟨M, hD⟩, hX, hz, hst⟩, ⟨Nat.le_refl _, Nat.le_refl _, Nat.le_refl _, Nat.le_refl _⟩, B.returns, htb2⟩ s.heap [] _ hP va_S.rf (lv_entry av hn)
