/-! ===== BEGIN a private method of a nest mate that may throw (follows va_callVN, va_callSN, va_runVN, va_runSN) ===== -/
section
variable {p : Program} {l : Launch} {e : Env} {R : Room} {s : State} {m : MethodId} {args : Array Value} {below : List Frame} {meth : Method} {c : Code} {H : Heap} {locs : List Loc} {cells slots : Nat}
variable {T : State}
theorem vx_callVN (X : Stand p l e R s m args below meth c T locs cells slots) (hexec : p.tables.exec = Jvm.exec) {own C : String} {index : Nat} {host : String} {y : MethodName} {bytes : ByteArray} {maxL : Nat} {ret : Option FieldType}
    (hown : s.vm.findClass own = some m.cls) (hlink : (Cond.methodLinkNest own index y host).before args s = true) (hinst : (Cond.instanceMethod y).before args s = true) (hsel : (Cond.selects C y y).before args s = true)
    (hcode : (Cond.code y bytes maxL ret).before args s = true) (hy : y.cls ≠ "java/lang/invoke/MethodHandle" ∧ y.cls ≠ "java/lang/invoke/VarHandle")
    {W : Nat} {Pre : Pt → Array Value → Prop} {Post : Pt → Array Value → Option Value → Pt → Prop} {PostX : Pt → Array Value → Addr → Pt → Prop} (hK : vx_Back l R p e below s args y 3 W Pre Post PostX)
    {b : Addr} {cellB : Cell} (hcell : T.heap[b]? = some cellB) (hobj : cellB.vm.isStatics = false) (hcls : s.vm.findClass C = some cellB.cls)
    {g : JFrame} (hg : g.method = m) (hsize : g.locals.size = c.maxLocals) {argsL rest : List Value} (hlen : ∀ sig, parseMethodDescriptor y.desc = some sig → argsL.length = sig.parameters.length)
    (hstack : g.stack = argsL.reverse ++ .ref b :: rest) (hW : 2 * g.monitorRoom + (rest.map fun v => v.category).sum ≤ W) (hdg : decode c.code g.pc = .ok (.invokevirtual index, 3))
    (hpre : ∀ vm₁, s.WarmedH vm₁ → Pre ⟨T.setVm vm₁, locs, cells, slots⟩ (Value.ref b :: argsL).toArray) :
    (∃ (v : Option Value) (vm₁ : Vm) (B : Pt), s.WarmedH vm₁ ∧ Stand p l e R s m args below meth c B.U B.locs B.cells B.slots ∧ Post ⟨T.setVm vm₁, locs, cells, slots⟩ (Value.ref b :: argsL).toArray v B ∧
      ∀ target, Steps p.tables e below (B.U.setTop { g with pc := g.pc + 3, stack := v.toList ++ rest }) target → Steps p.tables e below (T.setTop g) target) ∨
    (∃ (q : Addr) (vm₁ : Vm) (B : Pt), s.WarmedH vm₁ ∧ Stand p l e R s m args below meth c B.U B.locs B.cells B.slots ∧ PostX ⟨T.setVm vm₁, locs, cells, slots⟩ (Value.ref b :: argsL).toArray q B ∧
      Steps p.tables e below (T.setTop g) ((B.U.setTop { g with stack := rest }).pushFrame (.throwing q))) := by
  obtain ⟨mk, methM, hnamed, hmethM, hstM, habM⟩ := Cond.instanceMethod_spec hinst
  obtain ⟨methM', cM, hmethM', -, -, -, -, -, -, hsigM⟩ := Cond.code_spec hnamed hcode
  cases hmethM.symm.trans hmethM'
  obtain ⟨c2, r2, m2, q1, q2, q3, q4, kP, hkP, hkPi⟩ := Cond.selects_spec hsel
  cases hcls.symm.trans q1
  cases (State.methodFound?_of_named hnamed hy).symm.trans q2
  cases hnamed.symm.trans q3
  have hselP : selectMethod e.platform s.vm cellB.cls mk = .method mk := by rw [Launch.admits_selectMethod X.admits]; exact q4
  obtain ⟨vm₁, X₁, hstep₁⟩ := X.invokevirtualNest hexec hown hlink hnamed hmethM hstM hkP hkPi hy (a := b) (cell := cellB) hcell
    (fun z h => by rw [h] at hobj; cases hobj) hselP hmethM habM hkP hkPi (g := g) hg (argsL := argsL) (rest := rest) (hlen _ hsigM) hstack hdg
  rcases hK m meth c ⟨T.setVm vm₁, locs, cells, slots⟩ { g with stack := rest } (.invokevirtual index) mk (Value.ref b :: argsL).toArray X₁ hg hsize hdg hW (X₁.named hnamed) (hpre vm₁ X₁.warmed) with ⟨v, B, X', hpost, hsteps⟩ | ⟨q, B, X', hpost, hsteps⟩
  · exact Or.inl ⟨v, vm₁, B, X₁.warmed, X', hpost, fun target h => hstep₁ _ fun acts => by rw [doInvoke_state]; exact hsteps.trans h⟩
  · exact Or.inr ⟨q, vm₁, B, X₁.warmed, X', hpost, hstep₁ _ fun acts => by rw [doInvoke_state]; exact hsteps⟩
theorem vx_callSN (X : Stand p l e R s m args below meth c T locs cells slots) (hexec : p.tables.exec = Jvm.exec) {own : String} {index : Nat} {host : String} {y : MethodName} {bytes : ByteArray} {maxL : Nat} {ret : Option FieldType}
    (hown : s.vm.findClass own = some m.cls) (hlink : (Cond.methodLinkNest own index y host).before args s = true) (hstat : (Cond.static y).before args s = true) (hinit : (Cond.initialized y.cls).before args s = true)
    (hcode : (Cond.code y bytes maxL ret).before args s = true) (hy : y.cls ≠ "java/lang/invoke/MethodHandle" ∧ y.cls ≠ "java/lang/invoke/VarHandle")
    {W : Nat} {Pre : Pt → Array Value → Prop} {Post : Pt → Array Value → Option Value → Pt → Prop} {PostX : Pt → Array Value → Addr → Pt → Prop} (hK : vx_Back l R p e below s args y 3 W Pre Post PostX)
    {g : JFrame} (hg : g.method = m) (hsize : g.locals.size = c.maxLocals) {argsL rest : List Value} (hlen : ∀ sig, parseMethodDescriptor y.desc = some sig → argsL.length = sig.parameters.length)
    (hstack : g.stack = argsL.reverse ++ rest) (hW : 2 * g.monitorRoom + (rest.map fun v => v.category).sum ≤ W) (hdg : decode c.code g.pc = .ok (.invokestatic index, 3))
    (hpre : ∀ vm₁, s.WarmedH vm₁ → Pre ⟨T.setVm vm₁, locs, cells, slots⟩ argsL.toArray) :
    (∃ (v : Option Value) (vm₁ : Vm) (B : Pt), s.WarmedH vm₁ ∧ Stand p l e R s m args below meth c B.U B.locs B.cells B.slots ∧ Post ⟨T.setVm vm₁, locs, cells, slots⟩ argsL.toArray v B ∧
      ∀ target, Steps p.tables e below (B.U.setTop { g with pc := g.pc + 3, stack := v.toList ++ rest }) target → Steps p.tables e below (T.setTop g) target) ∨
    (∃ (q : Addr) (vm₁ : Vm) (B : Pt), s.WarmedH vm₁ ∧ Stand p l e R s m args below meth c B.U B.locs B.cells B.slots ∧ PostX ⟨T.setVm vm₁, locs, cells, slots⟩ argsL.toArray q B ∧
      Steps p.tables e below (T.setTop g) ((B.U.setTop { g with stack := rest }).pushFrame (.throwing q))) := by
  obtain ⟨mk, hnamed⟩ := Cond.code_named hcode
  obtain ⟨methM, cM, hmethM, -, -, -, -, -, -, hsigM⟩ := Cond.code_spec hnamed hcode
  have hstatic : methM.isStatic = true := Cond.static_spec hnamed hmethM hstat
  obtain ⟨kP, hkP, -⟩ := className_of_methodNamed hnamed
  have hinitP : kP.init = .initialized := Cond.initialized_spec (findClass_of_methodNamed hnamed) hkP hinit
  obtain ⟨vm₁, X₁, hstep₁⟩ := X.invokestaticNest hexec hown hlink hnamed hmethM hstatic hkP hinitP hy (g := g) hg (argsL := argsL) (rest := rest) (hlen _ hsigM) hstack hdg
  rcases hK m meth c ⟨T.setVm vm₁, locs, cells, slots⟩ { g with stack := rest } (.invokestatic index) mk argsL.toArray X₁ hg hsize hdg hW (X₁.named hnamed) (hpre vm₁ X₁.warmed) with ⟨v, B, X', hpost, hsteps⟩ | ⟨q, B, X', hpost, hsteps⟩
  · exact Or.inl ⟨v, vm₁, B, X₁.warmed, X', hpost, fun target h => hstep₁ _ fun acts => by rw [doInvoke_state]; exact hsteps.trans h⟩
  · exact Or.inr ⟨q, vm₁, B, X₁.warmed, X', hpost, hstep₁ _ fun acts => by rw [doInvoke_state]; exact hsteps⟩
theorem vx_runVN {y : MethodName} {bytes cc : ByteArray} {maxL nL mc ms n index : Nat} {ret : Option FieldType} {ws : List Cond} {rm : Room} {Pc : Array Value → State → Prop} {Qc : Array Value → State → Outcome → State → Prop} {XC : String → State → State → Prop} {free : Addr → Prop} {Ts : List Cond} {own C host : String} {b : Addr} {As rest : List Value} {g : JFrame}
    (S : CallFix p m c cc nL s args Ts own) (hM : vx_Met l y ws rm Pc Qc XC mc ms free) (cw : va_CN R s args own index y host bytes maxL ret ws rm mc ms n ∧ (Cond.instanceMethod y).before args s = true ∧ (Cond.selects C y y).before args s = true) (hp : PreV s H C b Pc As)
    (hg : g.method = m) (hn : As.length = n) (hsize : g.locals.size = nL) (hstack : g.stack = As.reverse ++ .ref b :: rest) (hW : 2 * g.monitorRoom + (rest.map fun v => v.category).sum ≤ 8) (hdg : decode cc g.pc = .ok (.invokevirtual index, 3)) (hf : cells + mc ≤ R.cells ∧ slots + ms ≤ R.slots) :
    vx_Run p l e R s m args below meth c H locs cells slots mc ms g rest (Qc (Value.ref b :: As).toArray) XC free := by
  obtain ⟨⟨⟨hrc, hrs, hfr, hlo, hws, hcw⟩, hcode, hini, hy, hlen, hl⟩, hx1, hx2⟩ := cw
  have hK : vx_Back l R p e below s args y 3 8 (PreOf R mc ms Pc) (PostOf Qc mc ms free) (vx_Post XC mc ms free) := vx_back (bytes := bytes) (maxL := maxL) (ret := ret) hM hp.1 hrc hrs hfr hlo hws hcw (fun a' U hW => word_at hW (Or.inl (by first | rfl | simp [Cond.onTables, Cond.keeps, Cond.steady])) hini)
  obtain ⟨hx, hb, hml, ho, -⟩ := S
  obtain ⟨-, ⟨cellB, hcB, hoB, hclB⟩, hPc⟩ := hp
  intro T hT X
  rcases vx_callVN X hx (C := C) (bytes := bytes) (maxL := maxL) (ret := ret) ho hl hx1 hx2 hcode hy hK (by rw [hT]; exact hcB) hoB hclB hg (hsize.trans hml.symm) (argsL := As) (rest := rest) (fun sig h => hn.trans (hlen sig h)) hstack hW (by rw [hb]; exact hdg)
    (fun vm₁ hW₁ => ⟨hf.1, hf.2, hPc (T.setVm vm₁) hT hW₁⟩) with ⟨v, vm₁, ⟨U', l2, c2, s2⟩, hW₁, X', ⟨g', mk, t, L, e1, e2, hq, h1, hL, h2, h3⟩, st⟩ | ⟨q, vm₁, ⟨U', l2, c2, s2⟩, hW₁, X', ⟨g', mk, t, L, E, ce, e1, e2, hq, hce, hcv, hcl, h1, hL, h2, h3⟩, st⟩
  · dsimp only [Pt.U, Pt.locs, Pt.cells, Pt.slots] at X' e1 e2 h1 h2 h3 st
    subst h1; subst h2; subst h3
    exact Or.inl ⟨v, (T.setVm vm₁).calling g' mk (Value.ref b :: As).toArray, t, U', L, hT, X', hL, e1, e2, hq, st⟩
  · dsimp only [Pt.U, Pt.locs, Pt.cells, Pt.slots] at X' e1 e2 h1 h2 h3 st hcl
    subst h1; subst h2; subst h3
    exact Or.inr ⟨q, (T.setVm vm₁).calling g' mk (Value.ref b :: As).toArray, t, U', L, E, ce, hT, X', hL, e1, e2, hq, hce, hcv, vx_cls hW₁ hcl, st⟩
theorem vx_runSN {y : MethodName} {bytes cc : ByteArray} {maxL nL mc ms n index : Nat} {ret : Option FieldType} {ws : List Cond} {rm : Room} {Pc : Array Value → State → Prop} {Qc : Array Value → State → Outcome → State → Prop} {XC : String → State → State → Prop} {free : Addr → Prop} {Ts : List Cond} {own host : String} {As rest : List Value} {g : JFrame}
    (S : CallFix p m c cc nL s args Ts own) (hM : vx_Met l y ws rm Pc Qc XC mc ms free) (cw : va_CN R s args own index y host bytes maxL ret ws rm mc ms n ∧ (Cond.static y).before args s = true ∧ True) (hp : PreS s H Pc As)
    (hg : g.method = m) (hn : As.length = n) (hsize : g.locals.size = nL) (hstack : g.stack = As.reverse ++ rest) (hW : 2 * g.monitorRoom + (rest.map fun v => v.category).sum ≤ 8) (hdg : decode cc g.pc = .ok (.invokestatic index, 3)) (hf : cells + mc ≤ R.cells ∧ slots + ms ≤ R.slots) :
    vx_Run p l e R s m args below meth c H locs cells slots mc ms g rest (Qc As.toArray) XC free := by
  obtain ⟨⟨⟨hrc, hrs, hfr, hlo, hws, hcw⟩, hcode, hini, hy, hlen, hl⟩, hx1, hx2⟩ := cw
  have hK : vx_Back l R p e below s args y 3 8 (PreOf R mc ms Pc) (PostOf Qc mc ms free) (vx_Post XC mc ms free) := vx_back (bytes := bytes) (maxL := maxL) (ret := ret) hM hp.1 hrc hrs hfr hlo hws hcw (fun a' U hW => word_at hW (Or.inl (by first | rfl | simp [Cond.onTables, Cond.keeps, Cond.steady])) hini)
  obtain ⟨hx, hb, hml, ho, -⟩ := S
  have hPc := hp.2
  intro T hT X
  rcases vx_callSN X hx (bytes := bytes) (maxL := maxL) (ret := ret) ho hl hx1 hini hcode hy hK hg (hsize.trans hml.symm) (argsL := As) (rest := rest) (fun sig h => hn.trans (hlen sig h)) hstack hW (by rw [hb]; exact hdg)
    (fun vm₁ hW₁ => ⟨hf.1, hf.2, hPc (T.setVm vm₁) hT hW₁⟩) with ⟨v, vm₁, ⟨U', l2, c2, s2⟩, hW₁, X', ⟨g', mk, t, L, e1, e2, hq, h1, hL, h2, h3⟩, st⟩ | ⟨q, vm₁, ⟨U', l2, c2, s2⟩, hW₁, X', ⟨g', mk, t, L, E, ce, e1, e2, hq, hce, hcv, hcl, h1, hL, h2, h3⟩, st⟩
  · dsimp only [Pt.U, Pt.locs, Pt.cells, Pt.slots] at X' e1 e2 h1 h2 h3 st
    subst h1; subst h2; subst h3
    exact Or.inl ⟨v, (T.setVm vm₁).calling g' mk As.toArray, t, U', L, hT, X', hL, e1, e2, hq, st⟩
  · dsimp only [Pt.U, Pt.locs, Pt.cells, Pt.slots] at X' e1 e2 h1 h2 h3 st hcl
    subst h1; subst h2; subst h3
    exact Or.inr ⟨q, (T.setVm vm₁).calling g' mk As.toArray, t, U', L, E, ce, hT, X', hL, e1, e2, hq, hce, hcv, vx_cls hW₁ hcl, st⟩
end
/-! ===== END ===== -/
def ml_fuel : Nat := 100000
theorem ml_F_st {E : ml_E} {g : ml_G} {cc : ByteArray} {own : String} {nL lv mc ms : Nat} {ret : Option FieldType} {tb : List ExceptionTableEntry} (F : ml_F E g cc own nL lv mc ms ret tb) : g.2.2.2.2.2.stackTraces = false := by
  obtain ⟨p, e, R, s, m, args, below, meth, c⟩ := E
  exact F.2.1.2.2.2.2
theorem ml_sub {E : ml_E} {g : ml_G} {nL : Nat} {Q : State → Prop} {k n pc : Nat} {ls : List (Nat × Value)} {st : List Value} {M : ml_M} (ks : List Nat) {ls2 : List (Nat × Value)} (hs : lv_pick ls ks = ls2) (K : ml_J E g nL Q k n (pc) ls2 (st) M) : ml_J E g nL Q k n (pc) ls (st) M := by
  obtain ⟨p, e, R, s, m, args, below, meth, c⟩ := E
  exact fun H locs la hP hS hl => K H locs la hP hS (lv_sub hl ks hs)
/-- a value with a name -/
def ml_lt {β γ : Type} (v : β) (B : β → Option γ) : Option γ := B v
theorem ml_ialdK {E : ml_E} {g : ml_G} {cc : ByteArray} {own : String} {nL lv mc ms : Nat} {ret : Option FieldType} {tb : List ExceptionTableEntry} {Q : State → Prop} {k n pc : Nat} {ls : List (Nat × Value)} {st : List Value} {M : ml_M} {ka z j : Nat} {i : Int32} (F : ml_F E g cc own nL lv mc ms ret tb) (I : ml_I g ka 0 z) (hi : ml_ok i z) (hj : i.toNatClampNeg = j) (hd : decode cc pc = .ok (.iaload, 1)) (K : ml_J E g nL Q k n (pc + 1) ls (.int (M ka j) :: st) M) : ml_J E g nL Q k n (pc) ls (.int i :: ml_rf g ka :: st) M := by
  obtain ⟨p, e, R, s, m, args, below, meth, c⟩ := E
  obtain ⟨⟨hx, hb, ht, ho, hm, hlk⟩, ⟨hK, ⟨M0, hD0⟩, hX, hz, htr⟩, ⟨hR1, hR2, hR3, hR4⟩, hret, htb⟩ := F
  have hD : va_D (ml_A g) (ml_wm g M) := ml_D_any hD0
  intro H locs la hP hS hl
  subst hj
  exact va_iald (D := g.2.1) (cl := vwCl) (tys := ml_ty g) hx hb hK hP (ml_ix ka) 0 (by rw [ml_wm_at I.1, I.2]; rfl) rfl (ml_ok_in hi) hd (K H locs la hP hS hl)
theorem ml_caldK {E : ml_E} {g : ml_G} {cc : ByteArray} {own : String} {nL lv mc ms : Nat} {ret : Option FieldType} {tb : List ExceptionTableEntry} {Q : State → Prop} {k n pc : Nat} {ls : List (Nat × Value)} {st : List Value} {M : ml_M} {ka z j : Nat} {i : Int32} (F : ml_F E g cc own nL lv mc ms ret tb) (I : ml_I g ka 1 z) (hi : ml_ok i z) (hj : i.toNatClampNeg = j) (hd : decode cc pc = .ok (.caload, 1)) (K : ml_J E g nL Q k n (pc + 1) ls (.int (M ka j) :: st) M) : ml_J E g nL Q k n (pc) ls (.int i :: ml_rf g ka :: st) M := by
  obtain ⟨p, e, R, s, m, args, below, meth, c⟩ := E
  obtain ⟨⟨hx, hb, ht, ho, hm, hlk⟩, ⟨hK, ⟨M0, hD0⟩, hX, hz, htr⟩, ⟨hR1, hR2, hR3, hR4⟩, hret, htb⟩ := F
  have hD : va_D (ml_A g) (ml_wm g M) := ml_D_any hD0
  intro H locs la hP hS hl
  subst hj
  exact va_cald (D := g.2.1) (cl := vwCl) (tys := ml_ty g) hx hb hK hP (ml_ix ka) 1 (by rw [ml_wm_at I.1, I.2]; rfl) rfl (ml_ok_in hi) hd (K H locs la hP hS hl)
theorem ml_zaldK {E : ml_E} {g : ml_G} {cc : ByteArray} {own : String} {nL lv mc ms : Nat} {ret : Option FieldType} {tb : List ExceptionTableEntry} {Q : State → Prop} {k n pc : Nat} {ls : List (Nat × Value)} {st : List Value} {M : ml_M} {ka z j : Nat} {i : Int32} (F : ml_F E g cc own nL lv mc ms ret tb) (I : ml_I g ka 2 z) (hi : ml_ok i z) (hj : i.toNatClampNeg = j) (hd : decode cc pc = .ok (.baload, 1)) (K : ml_J E g nL Q k n (pc + 1) ls (.int (M ka j) :: st) M) : ml_J E g nL Q k n (pc) ls (.int i :: ml_rf g ka :: st) M := by
  obtain ⟨p, e, R, s, m, args, below, meth, c⟩ := E
  obtain ⟨⟨hx, hb, ht, ho, hm, hlk⟩, ⟨hK, ⟨M0, hD0⟩, hX, hz, htr⟩, ⟨hR1, hR2, hR3, hR4⟩, hret, htb⟩ := F
  have hD : va_D (ml_A g) (ml_wm g M) := ml_D_any hD0
  intro H locs la hP hS hl
  subst hj
  exact va_zald (D := g.2.1) (cl := vwCl) (tys := ml_ty g) hx hb hK hP (ml_ix ka) 2 (by rw [ml_wm_at I.1, I.2]; rfl) rfl (ml_ok_in hi) hd (K H locs la hP hS hl)
theorem ml_baldK {E : ml_E} {g : ml_G} {cc : ByteArray} {own : String} {nL lv mc ms : Nat} {ret : Option FieldType} {tb : List ExceptionTableEntry} {Q : State → Prop} {k n pc : Nat} {ls : List (Nat × Value)} {st : List Value} {M : ml_M} {ka z j : Nat} {i : Int32} (F : ml_F E g cc own nL lv mc ms ret tb) (I : ml_I g ka 4 z) (hi : ml_ok i z) (hj : i.toNatClampNeg = j) (hd : decode cc pc = .ok (.baload, 1)) (K : ml_J E g nL Q k n (pc + 1) ls (.int (M ka j) :: st) M) : ml_J E g nL Q k n (pc) ls (.int i :: ml_rf g ka :: st) M := by
  obtain ⟨p, e, R, s, m, args, below, meth, c⟩ := E
  obtain ⟨⟨hx, hb, ht, ho, hm, hlk⟩, ⟨hK, ⟨M0, hD0⟩, hX, hz, htr⟩, ⟨hR1, hR2, hR3, hR4⟩, hret, htb⟩ := F
  have hD : va_D (ml_A g) (ml_wm g M) := ml_D_any hD0
  intro H locs la hP hS hl
  subst hj
  exact va_bald (D := g.2.1) (cl := vwCl) (tys := ml_ty g) hx hb hK hP (ml_ix ka) 4 (by rw [ml_wm_at I.1, I.2]; rfl) rfl (ml_ok_in hi) hd (K H locs la hP hS hl)
theorem ml_iastK {E : ml_E} {g : ml_G} {cc : ByteArray} {own : String} {nL lv mc ms : Nat} {ret : Option FieldType} {tb : List ExceptionTableEntry} {Q : State → Prop} {k n pc : Nat} {ls : List (Nat × Value)} {st : List Value} {M : ml_M} {ka z j : Nat} {i x : Int32} (F : ml_F E g cc own nL lv mc ms ret tb) (I : ml_I g ka 0 z) (hi : ml_ok i z) (hj : i.toNatClampNeg = j) (hd : decode cc pc = .ok (.iastore, 1)) (K : ml_J E g nL Q k n (pc + 1) ls (st) (ml_w M ka j (x))) : ml_J E g nL Q k n (pc) ls (.int x :: .int i :: ml_rf g ka :: st) M := by
  obtain ⟨p, e, R, s, m, args, below, meth, c⟩ := E
  obtain ⟨⟨hx, hb, ht, ho, hm, hlk⟩, ⟨hK, ⟨M0, hD0⟩, hX, hz, htr⟩, ⟨hR1, hR2, hR3, hR4⟩, hret, htb⟩ := F
  have hD : va_D (ml_A g) (ml_wm g M) := ml_D_any hD0
  intro H locs la hP hS hl
  subst hj
  refine va_iast (D := g.2.1) (cl := vwCl) (tys := ml_ty g) hx hb hK hP hD hS (ml_ix ka) 0 (by rw [ml_wm_at I.1, I.2]; rfl) rfl (ml_ok_in hi) hd (fun H1 locs1 hP1 hD1 hS1 => ?_)
  rw [ml_wm_set I.1 (j := i.toNatClampNeg) (x := x) (by rw [I.2]; rfl)] at hP1
  exact K H1 locs1 la hP1 hS1 hl
theorem ml_castK {E : ml_E} {g : ml_G} {cc : ByteArray} {own : String} {nL lv mc ms : Nat} {ret : Option FieldType} {tb : List ExceptionTableEntry} {Q : State → Prop} {k n pc : Nat} {ls : List (Nat × Value)} {st : List Value} {M : ml_M} {ka z j : Nat} {i x : Int32} (F : ml_F E g cc own nL lv mc ms ret tb) (I : ml_I g ka 1 z) (hi : ml_ok i z) (hj : i.toNatClampNeg = j) (hd : decode cc pc = .ok (.castore, 1)) (K : ml_J E g nL Q k n (pc + 1) ls (st) (ml_w M ka j (vp_nar .char x))) : ml_J E g nL Q k n (pc) ls (.int x :: .int i :: ml_rf g ka :: st) M := by
  obtain ⟨p, e, R, s, m, args, below, meth, c⟩ := E
  obtain ⟨⟨hx, hb, ht, ho, hm, hlk⟩, ⟨hK, ⟨M0, hD0⟩, hX, hz, htr⟩, ⟨hR1, hR2, hR3, hR4⟩, hret, htb⟩ := F
  have hD : va_D (ml_A g) (ml_wm g M) := ml_D_any hD0
  intro H locs la hP hS hl
  subst hj
  refine va_cast (D := g.2.1) (cl := vwCl) (tys := ml_ty g) hx hb hK hP hD hS (ml_ix ka) 1 (by rw [ml_wm_at I.1, I.2]; rfl) rfl (ml_ok_in hi) hd (fun H1 locs1 hP1 hD1 hS1 => ?_)
  rw [ml_wm_set I.1 (j := i.toNatClampNeg) (x := vp_nar .char x) (by rw [I.2]; rfl)] at hP1
  exact K H1 locs1 la hP1 hS1 hl
theorem ml_zastK {E : ml_E} {g : ml_G} {cc : ByteArray} {own : String} {nL lv mc ms : Nat} {ret : Option FieldType} {tb : List ExceptionTableEntry} {Q : State → Prop} {k n pc : Nat} {ls : List (Nat × Value)} {st : List Value} {M : ml_M} {ka z j : Nat} {i x : Int32} (F : ml_F E g cc own nL lv mc ms ret tb) (I : ml_I g ka 2 z) (hi : ml_ok i z) (hj : i.toNatClampNeg = j) (hd : decode cc pc = .ok (.bastore, 1)) (K : ml_J E g nL Q k n (pc + 1) ls (st) (ml_w M ka j (vp_nar .boolean x))) : ml_J E g nL Q k n (pc) ls (.int x :: .int i :: ml_rf g ka :: st) M := by
  obtain ⟨p, e, R, s, m, args, below, meth, c⟩ := E
  obtain ⟨⟨hx, hb, ht, ho, hm, hlk⟩, ⟨hK, ⟨M0, hD0⟩, hX, hz, htr⟩, ⟨hR1, hR2, hR3, hR4⟩, hret, htb⟩ := F
  have hD : va_D (ml_A g) (ml_wm g M) := ml_D_any hD0
  intro H locs la hP hS hl
  subst hj
  refine va_zast (D := g.2.1) (cl := vwCl) (tys := ml_ty g) hx hb hK hP hD hS (ml_ix ka) 2 (by rw [ml_wm_at I.1, I.2]; rfl) rfl (ml_ok_in hi) hd (fun H1 locs1 hP1 hD1 hS1 => ?_)
  rw [ml_wm_set I.1 (j := i.toNatClampNeg) (x := vp_nar .boolean x) (by rw [I.2]; rfl)] at hP1
  exact K H1 locs1 la hP1 hS1 hl
theorem ml_bastK {E : ml_E} {g : ml_G} {cc : ByteArray} {own : String} {nL lv mc ms : Nat} {ret : Option FieldType} {tb : List ExceptionTableEntry} {Q : State → Prop} {k n pc : Nat} {ls : List (Nat × Value)} {st : List Value} {M : ml_M} {ka z j : Nat} {i x : Int32} (F : ml_F E g cc own nL lv mc ms ret tb) (I : ml_I g ka 4 z) (hi : ml_ok i z) (hj : i.toNatClampNeg = j) (hd : decode cc pc = .ok (.bastore, 1)) (K : ml_J E g nL Q k n (pc + 1) ls (st) (ml_w M ka j (vp_nar .byte x))) : ml_J E g nL Q k n (pc) ls (.int x :: .int i :: ml_rf g ka :: st) M := by
  obtain ⟨p, e, R, s, m, args, below, meth, c⟩ := E
  obtain ⟨⟨hx, hb, ht, ho, hm, hlk⟩, ⟨hK, ⟨M0, hD0⟩, hX, hz, htr⟩, ⟨hR1, hR2, hR3, hR4⟩, hret, htb⟩ := F
  have hD : va_D (ml_A g) (ml_wm g M) := ml_D_any hD0
  intro H locs la hP hS hl
  subst hj
  refine va_bast (D := g.2.1) (cl := vwCl) (tys := ml_ty g) hx hb hK hP hD hS (ml_ix ka) 4 (by rw [ml_wm_at I.1, I.2]; rfl) rfl (ml_ok_in hi) hd (fun H1 locs1 hP1 hD1 hS1 => ?_)
  rw [ml_wm_set I.1 (j := i.toNatClampNeg) (x := vp_nar .byte x) (by rw [I.2]; rfl)] at hP1
  exact K H1 locs1 la hP1 hS1 hl
/-- two roads that meet -/
def ml_jn {β γ : Type} (B : β) (t : β → Option γ) : Option γ := t B
theorem ml_jnR {β γ : Type} {B : β} {t : β → Option γ} {r : γ} {P : β → Prop} {G : Prop} (h : ml_jn B t = some r) (Kj : P B) (K : P B → t B = some r → G) : G := K Kj h
theorem ml_ltM {E : ml_E} {g : ml_G} {nL : Nat} {Q : State → Prop} {k n pc : Nat} {ls : List (Nat × Value)} {st : List Value} {M : ml_M} {γ : Type} {B : ml_M → Option γ} {r : γ} (h : ml_lt M B = some r) (K : ∀ M1 : ml_M, M1 = M → B M1 = some r → ml_J E g nL Q k n (pc) ls (st) M1) : ml_J E g nL Q k n (pc) ls (st) M := K M rfl h
theorem ml_ltI {E : ml_E} {g : ml_G} {nL : Nat} {Q : State → Prop} {k n pc : Nat} {ls : List (Nat × Value)} {st : List Value} {M : ml_M} {γ : Type} {x : Int32} {B : Int32 → Option γ} {r : γ} (h : ml_lt x B = some r) (K : ∀ x1 : Int32, x1 = x → B x1 = some r → ml_J E g nL Q k n (pc) ls (.int x1 :: st) M) : ml_J E g nL Q k n (pc) ls (.int x :: st) M := K x rfl h
theorem ml_min {E : ml_E} {g : ml_G} {cc : ByteArray} {own : String} {nL lv mc ms : Nat} {ret : Option FieldType} {tb : List ExceptionTableEntry} {Q : State → Prop} {k n pc : Nat} {ls : List (Nat × Value)} {st : List Value} {M : ml_M} {x y : Int32} {idx : Nat} (F : ml_F E g cc own nL lv mc ms ret tb) (hlk2 : Cond.methodLink own idx Lib.Math.min.name ∈ ml_all) (h1 : Cond.static Lib.Math.min.name ∈ ml_all) (h2 : Cond.initialized "java/lang/Math" ∈ ml_all) (h3 : Cond.code Lib.Math.min.name Lib.Math.min.code 2 (some .int) ∈ ml_all) (hd : decode cc pc = .ok (.invokestatic idx, 3)) (hst9 : (st.map fun v => v.category).sum ≤ 8) (hk : k ≤ mc) (hn2 : n ≤ ms) (K : ml_J E g nL Q k n (pc + 3) ls (.int (if y < x then y else x) :: st) M) : ml_J E g nL Q k n (pc) ls (.int y :: .int x :: st) M := by
  obtain ⟨p, e, R, s, m, args, below, meth, c⟩ := E
  obtain ⟨⟨hx, hb, ht, ho, hm, hlk⟩, ⟨hK, ⟨M0, hD0⟩, hX, hz, htr⟩, ⟨hR1, hR2, hR3, hR4⟩, hret, htb⟩ := F
  have hD : va_D (ml_A g) (ml_wm g M) := ml_D_any hD0
  intro H locs la hP hS hl
  exact va_mmin hx hb (hm.trans hl.1.symm) ho (ht _ hlk2) (ht _ h1) (ht _ h2) (ht _ h3) (by omega) (by omega) (by omega) (by omega) hd (K H locs la hP hS hl)
theorem ml_abs {E : ml_E} {g : ml_G} {cc : ByteArray} {own : String} {nL lv mc ms : Nat} {ret : Option FieldType} {tb : List ExceptionTableEntry} {Q : State → Prop} {k n pc : Nat} {ls : List (Nat × Value)} {st : List Value} {M : ml_M} {x : Int32} {idx : Nat} (F : ml_F E g cc own nL lv mc ms ret tb) (hlk2 : Cond.methodLink own idx Lib.Math.abs.name ∈ ml_all) (h1 : Cond.static Lib.Math.abs.name ∈ ml_all) (h2 : Cond.initialized "java/lang/Math" ∈ ml_all) (h3 : Cond.code Lib.Math.abs.name Lib.Math.abs.code 1 (some .int) ∈ ml_all) (hd : decode cc pc = .ok (.invokestatic idx, 3)) (hst9 : (st.map fun v => v.category).sum ≤ 8) (hk : k ≤ mc) (hn2 : n ≤ ms) (K : ml_J E g nL Q k n (pc + 3) ls (.int (if 0 ≤ x then x else 0 - x) :: st) M) : ml_J E g nL Q k n (pc) ls (.int x :: st) M := by
  obtain ⟨p, e, R, s, m, args, below, meth, c⟩ := E
  obtain ⟨⟨hx, hb, ht, ho, hm, hlk⟩, ⟨hK, ⟨M0, hD0⟩, hX, hz, htr⟩, ⟨hR1, hR2, hR3, hR4⟩, hret, htb⟩ := F
  have hD : va_D (ml_A g) (ml_wm g M) := ml_D_any hD0
  intro H locs la hP hS hl
  exact va_mabs hx hb (hm.trans hl.1.symm) ho (ht _ hlk2) (ht _ h1) (ht _ h2) (ht _ h3) (by omega) (by omega) (by omega) (by omega) hd (K H locs la hP hS hl)
theorem ml_callN {E : ml_E} {g : ml_G} {cc : ByteArray} {own : String} {nL lv mc ms : Nat} {ret : Option FieldType} {k n pc : Nat} {ls : List (Nat × Value)} {st : List Value} {M : ml_M} {vl : Int32 → ml_M → Option Value} {res : ml_R} {y : MethodName} {yc : ByteArray} {yn : Nat} {yr : Option FieldType} {lv2 mc2 ms2 z idx : Nat} {vl2 : Int32 → ml_M → Option Value} {av : List Value} {x : Option ml_R} {B : Int32 → ml_M → Option ml_R} {stk : List Value} (F : ml_F E g cc own nL lv mc ms ret []) (h : ml_bd x B = some res) (hC : ∀ rs, x = some rs → ml_C y yc yn yr lv2 mc2 ms2 g vl2 av M rs) (W1 : ml_wc y yc yn yr) (hlk2 : Cond.methodLinkNest own idx y RX6 ∈ ml_nest) (hwd : ml_wd y z) (hlv : lv2 < lv) (hk : k + mc2 ≤ mc) (hn2 : n + ms2 ≤ ms) (hz2 : av.length = z) (hstt : Cond.static y ∈ ml_all) (hstk : stk = av.reverse ++ st) (hroom : (st.map fun v => v.category).sum ≤ 8) (hd : decode cc pc = .ok (.invokestatic idx, 3)) (K : ∀ (r9 : Int32) (M9 : ml_M), B r9 M9 = some res → ml_J E g nL (ml_Z E g vl res mc ms) (k + mc2) (n + ms2) (pc + 3) ls ((vl2 r9 M9).toList ++ st) M9) : ml_J E g nL (ml_Z E g vl res mc ms) k n (pc) ls (stk) M := by
  obtain ⟨p, e, R, s, m, args, below, meth, c⟩ := E
  obtain ⟨⟨hx, hb, ht, ho, hm, hlk⟩, ⟨hK, ⟨M0, hD0⟩, hX, hz, htr⟩, ⟨hR1, hR2, hR3, hR4⟩, hret, htb⟩ := F
  have hD : va_D (ml_A g) (ml_wm g M) := ml_D_any hD0
  intro H locs la hP hS hl
  obtain ⟨rs, hx1, hx2, hx3⟩ := ml_bd_k h
  have h4 := W1.2.2
  refine ml_after (vx_runSN (As := av) (rest := st) (host := RX6) (Ts := ml_all) ⟨hx, hb, hm, ho, ht⟩ (hC rs hx1) ⟨va_cnB (R := R) z ht (ml_good W1.1) rfl rfl rfl (hX.2.1 _ hlk2) (ht _ W1.2.1) hwd ⟨by show 40 + lv2 + 1 ≤ _; omega, by show 8 + (yn + 11) + (800 + 64 * lv2) ≤ _; omega⟩, ht _ hstt, trivial⟩ ⟨ml_H_blind, fun U hU hW => ⟨rfl, ml_H_to hW hU hP hS hK hD0 hX hz⟩⟩ rfl hz2 hl.1 hstk (lv_room hroom) hd ⟨by omega, by omega⟩) hS htb hlk hk hn2 (fun r9 H1 locs1 h9 hP1 hS1 => K r9 rs.2 (hx2 r9 h9) H1 locs1 la hP1 hS1 hl) hx3
theorem ml_ct_fl {g : ml_G} {i o : Nat} (hi : i < 11) (ho : o < 15) (m : Nat → Int32) : ml_ct g (ml_fl i + o) m = ml_flk g (ml_fl i) o m := by
  unfold ml_ct ml_fl
  rw [if_neg (by omega), show 16 + 15 * ((16 + 15 * i + o - 16) / 15) = 16 + 15 * i by omega, show (16 + 15 * i + o - 16) % 15 = o by omega]
theorem pc4 (g : ml_G) : ml_I g 4 1 60 := ⟨by decide, fun m => rfl⟩
theorem pc5 (g : ml_G) : ml_I g 5 0 60 := ⟨by decide, fun m => rfl⟩
theorem pc6 (g : ml_G) : ml_I g 6 0 60 := ⟨by decide, fun m => rfl⟩
theorem pc7 (g : ml_G) : ml_I g 7 0 60 := ⟨by decide, fun m => rfl⟩
theorem pc8 (g : ml_G) : ml_I g 8 0 60 := ⟨by decide, fun m => rfl⟩
theorem pc10 (g : ml_G) : ml_I g 10 4 16 := ⟨by decide, fun m => rfl⟩
theorem pc0 (g : ml_G) : ml_O g 0 10 (fun m => [ml_rf g (ml_fl 0), ml_rf g (ml_fl 1), ml_rf g (ml_fl 2), .int (m 3), ml_rf g 1, ml_rf g 3, ml_rf g 11, .int (m 7), .int (m 8)]) := ⟨by decide, fun m => rfl⟩
theorem pc1 (g : ml_G) : ml_O g 1 7 (fun m => [ml_rf g 2, .int (m 1), .int (m 2)]) := ⟨by decide, fun m => rfl⟩
theorem pc3 (g : ml_G) : ml_O g 3 8 (fun m => [ml_rf g 4, .int (m 1), .int (m 2), .int (m 3), .int (m 4), ml_rf g 5, ml_rf g 6, ml_rf g 7, ml_rf g 8]) := ⟨by decide, fun m => rfl⟩
theorem pc9 (g : ml_G) : ml_O g 9 1 (fun m => [ml_rf g 10, .int (m 1), .int (m 2), .int (m 3)]) := ⟨by decide, fun m => rfl⟩
theorem pf2 (g : ml_G) {i : Nat} (hi : i < 11) : ml_I g (ml_fl i + 2) 0 5 := ⟨by unfold ml_vp ml_fl; omega, fun m => (ml_ct_fl hi (by decide) m).trans rfl⟩
theorem pf3 (g : ml_G) {i : Nat} (hi : i < 11) : ml_I g (ml_fl i + 3) 0 4 := ⟨by unfold ml_vp ml_fl; omega, fun m => (ml_ct_fl hi (by decide) m).trans rfl⟩
theorem pf4 (g : ml_G) {i : Nat} (hi : i < 11) : ml_I g (ml_fl i + 4) 2 4 := ⟨by unfold ml_vp ml_fl; omega, fun m => (ml_ct_fl hi (by decide) m).trans rfl⟩
theorem pf6 (g : ml_G) {i : Nat} (hi : i < 11) : ml_I g (ml_fl i + 6) 0 8 := ⟨by unfold ml_vp ml_fl; omega, fun m => (ml_ct_fl hi (by decide) m).trans rfl⟩
theorem pf7 (g : ml_G) {i : Nat} (hi : i < 11) : ml_I g (ml_fl i + 7) 0 8 := ⟨by unfold ml_vp ml_fl; omega, fun m => (ml_ct_fl hi (by decide) m).trans rfl⟩
theorem pf8 (g : ml_G) {i : Nat} (hi : i < 11) : ml_I g (ml_fl i + 8) 2 8 := ⟨by unfold ml_vp ml_fl; omega, fun m => (ml_ct_fl hi (by decide) m).trans rfl⟩
theorem pf9 (g : ml_G) {i : Nat} (hi : i < 11) : ml_I g (ml_fl i + 9) 0 8 := ⟨by unfold ml_vp ml_fl; omega, fun m => (ml_ct_fl hi (by decide) m).trans rfl⟩
theorem pf10 (g : ml_G) {i : Nat} (hi : i < 11) : ml_I g (ml_fl i + 10) 0 8 := ⟨by unfold ml_vp ml_fl; omega, fun m => (ml_ct_fl hi (by decide) m).trans rfl⟩
theorem pf11 (g : ml_G) {i : Nat} (hi : i < 11) : ml_I g (ml_fl i + 11) 0 3 := ⟨by unfold ml_vp ml_fl; omega, fun m => (ml_ct_fl hi (by decide) m).trans rfl⟩
theorem pf13 (g : ml_G) {i : Nat} (hi : i < 11) : ml_I g (ml_fl i + 13) 1 8 := ⟨by unfold ml_vp ml_fl; omega, fun m => (ml_ct_fl hi (by decide) m).trans rfl⟩
theorem pf14 (g : ml_G) {i : Nat} (hi : i < 11) : ml_I g (ml_fl i + 14) 0 8 := ⟨by unfold ml_vp ml_fl; omega, fun m => (ml_ct_fl hi (by decide) m).trans rfl⟩
theorem pf0 (g : ml_G) {i : Nat} (hi : i < 11) : ml_O g (ml_fl i) 6 (fun m => [ml_rf g (ml_fl i + 1), ml_rf g (ml_fl i + 5), ml_rf g (ml_fl i + 12), .int (m 3)]) := ⟨by unfold ml_vp ml_fl; omega, fun m => (ml_ct_fl hi (o := 0) (by decide) m).trans rfl⟩
theorem pf1 (g : ml_G) {i : Nat} (hi : i < 11) : ml_O g ((ml_fl i + 1)) 9 (fun m => [ml_rf g (ml_fl i + 2), ml_rf g (ml_fl i + 3), ml_rf g (ml_fl i + 4), .int (m 3), .int (m 4), .int (m 5), .int (m 6), .int (m 7)]) := ⟨by unfold ml_vp ml_fl; omega, fun m => (ml_ct_fl hi (o := 1) (by decide) m).trans rfl⟩
theorem pf5 (g : ml_G) {i : Nat} (hi : i < 11) : ml_O g ((ml_fl i + 5)) 5 (fun m => [.int (m 0), .int (m 1), ml_rf g (ml_fl i + 6), ml_rf g (ml_fl i + 7), ml_rf g (ml_fl i + 8), ml_rf g (ml_fl i + 9), ml_rf g (ml_fl i + 10), ml_rf g (ml_fl i + 11)]) := ⟨by unfold ml_vp ml_fl; omega, fun m => (ml_ct_fl hi (o := 5) (by decide) m).trans rfl⟩
theorem pf12 (g : ml_G) {i : Nat} (hi : i < 11) : ml_O g ((ml_fl i + 12)) 4 (fun m => [ml_rf g (ml_fl i + 13), ml_rf g (ml_fl i + 14), .int (m 2), .int (m 3)]) := ⟨by unfold ml_vp ml_fl; omega, fun m => (ml_ct_fl hi (o := 12) (by decide) m).trans rfl⟩
theorem iaX0 : ∀ w ∈ u_ws RX0 TX0 4, w ∈ ml_all := by decide +kernel
theorem iaX1 : ∀ w ∈ u_ws RX1 TX1 8, w ∈ ml_all := by decide +kernel
theorem iaX2 : ∀ w ∈ u_ws RX2 TX2 4, w ∈ ml_all := by decide +kernel
theorem iaX3 : ∀ w ∈ u_ws RX3 TX3 3, w ∈ ml_all := by decide +kernel
theorem iaX4 : ∀ w ∈ u_ws RX4 TX4 9, w ∈ ml_all := by decide +kernel
theorem iaX5 : ∀ w ∈ u_ws RX5 TX5 8, w ∈ ml_all := by decide +kernel
theorem iaX6 : ∀ w ∈ u_ws RX6 TX6 9, w ∈ ml_all := by decide +kernel
theorem iaJ4 : ∀ w ∈ u_ws RJ4 TJ4 4, w ∈ ml_all := by decide +kernel
