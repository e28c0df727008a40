/-! CONSTRUCTORS: a walk over a world that grows; the frame rule joins a callee's cells -/
def cn_F (E : ml_E) (g : ml_G) (A : Nat → Prop) (cc : ByteArray) (own : String) (nL lv mc ms : Nat) : Prop := match E with
  | (p, _, R, s, m, args, _, meth, c) => (p.tables.exec = Jvm.exec ∧ c.code = cc ∧ (∀ w ∈ ml_all, w.before args s = true) ∧ s.vm.findClass own = some m.cls ∧ c.maxLocals = nL ∧ meth.locks = false ∧ meth.name = "<init>") ∧ (ml_K g s ∧ ml_X g s s.heap ∧ (∀ q : Nat, s.heap.size ≤ q → ml_A g q) ∧ (∀ q : Nat, s.heap.size ≤ q → A q) ∧ (∀ q : Nat, A q → ml_A g q) ∧ va_AO "CanalLocks$Flight" s) ∧ (40 + lv ≤ R.frames ∧ 800 + 64 * lv ≤ R.locals ∧ mc ≤ R.cells ∧ ms ≤ R.slots) ∧ meth.sig.returnType = none
def cn_J (E : ml_E) (g : ml_G) (A : Nat → Prop) (nL : Nat) (Q : State → Prop) (k n pc : Nat) (ls : List (Nat × Value)) (st : List Value) (L : va_W) : Prop := match E with
  | (p, e, R, s, m, args, below, meth, c) => ∀ (H : Heap) (locs : List Loc) (la : Array Slot), va_P g.2.1 vwCl L H → va_D A L → va_S A s.heap H locs → lv_has la nL ls → W p g.2.2.2.2.2 e R s m args below meth c H locs k n Q (F0 m pc la st)
def cn_H (g : ml_G) (L : va_W) (sz : Nat) (U : State) : Prop := U.heap.size = sz ∧ va_P g.2.1 vwCl L U.heap ∧ ml_K g U ∧ va_D (ml_A g) L ∧ (∀ q : Nat, sz ≤ q → ml_A g q) ∧ ml_X g U U.heap ∧ va_AO "CanalLocks$Flight" U
def cn_Q (g : ml_G) (A : Nat → Prop) (b : Nat) (post : (Nat → Nat) → va_W) : Array Value → State → Outcome → State → Prop := va_Qv (fun q : Nat → Nat => q 0 = b) (fun q t => va_P g.2.1 vwCl (post q) t.heap ∧ va_D A (post q)) A
/-- a constructor's contract: of the cells L it makes the cells post -/
def cn_C (y : MethodName) (cc : ByteArray) (maxL lv mc ms : Nat) (g : ml_G) (av : List Value) (b : Nat) (L : va_W) (post : (Nat → Nat) → va_W) : Prop := ∀ sz : Nat, Met g.2.2.2.2.2 y (ml_ws y cc maxL none) (ml_rm lv mc ms) (va_Pc av (cn_H g L sz)) (cn_Q g (va_A L sz) b post) mc ms (va_A L sz)
def cn_Z (E : ml_E) (g : ml_G) (A : Nat → Prop) (b : Nat) (post : (Nat → Nat) → va_W) (mc ms : Nat) : State → Prop := match E with
  | (_, _, _, s, _, args, below, _, _) => MQ below (cn_Q g A b post) args s mc ms A
theorem cn_of {y : MethodName} {cc : ByteArray} {maxL lv mc ms : Nat} {g : ml_G} {av : List Value} {b : Nat} {L : va_W} {post : (Nat → Nat) → va_W} (ls : List (Nat × Value)) (hy : plainName y.cls = true) (hyn : y.name = "<init>") (hn : (lg_sl av).length ≤ maxL) (hls : lv_args 0 av = ls)
    (body : ∀ (E : ml_E) (A : Nat → Prop), cn_F E g A cc y.cls maxL lv mc ms → cn_J E g A maxL (cn_Z E g A b post mc ms) 0 0 0 ls [] L) : cn_C y cc maxL lv mc ms g av b L post := by
  subst hls
  intro sz
  refine Met.ofW (cc := cc) (maxL := maxL) (ret := none) hy rfl ?_
  intro p e s m args below meth c s₁ B hml hv
  obtain ⟨rfl, hsz, hP, hK, hD, hz, hX, hao⟩ := hv
  subst hsz
  have hts := atoms_spec (ws := ml_ws y cc maxL none) B.pre
  rw [lg_entry_eq]
  refine body (p, e, (headSpec (ml_ws y cc maxL none) (ml_rm lv mc ms)).room, s, m, av.toArray, below, meth, c) (va_A L s.heap.size) ⟨⟨B.exec, B.bytes, fun w hw => hts w (List.mem_cons_of_mem _ hw), findClass_of_methodNamed B.named, hml, B.notSynchronized, (name_of_methodNamed B.named B.method).1.trans hyn⟩, ⟨hK, hX, hz, fun q h => Or.inr h, ?_, hao⟩, ⟨Nat.le_refl _, Nat.le_refl _, Nat.le_refl _, Nat.le_refl _⟩, B.returns⟩ s.heap [] _ hP hD.self va_S.rf (lv_entry av hn)
  rintro q (⟨k, e9, h⟩ | h)
  · exact hD.2 k _ h
  · exact hz q h
theorem cn_S {g : ml_G} {A : Nat → Prop} {H0 H : Heap} {locs : List Loc} (hA2 : ∀ q : Nat, A q → ml_A g q) (h : va_S A H0 H locs) : va_S (ml_A g) H0 H locs := ⟨h.1, fun q h1 h2 => h.2.1 q h1 (fun h3 => h2 (hA2 q h3)), fun l hl => hA2 _ (h.2.2 l hl)⟩
theorem cn_blind {g : ml_G} {L : va_W} {sz : Nat} {av : List Value} : FrameBlind (va_Pc av (cn_H g L sz)) := by
  intro a U g9 mk hq
  obtain ⟨q0, q1, q2, q3, q4, q5, q6, q7⟩ := hq
  exact ⟨q0, q1, q2, va_K.moved (u := U) (U := U.calling g9 mk a) (Vm.Alike.refl U.vm) q3, q4, q5, ⟨ml_X1_to (s := U) (U := U.calling g9 mk a) (Vm.Alike.refl U.vm) (fun _ _ _ => rfl) q6.1, ml_X2_to (s := U) (U := U.calling g9 mk a) (State.WarmedH.refl U) q6.2⟩, va_AO.moved (u := U) (U := U.calling g9 mk a) (Vm.Alike.refl U.vm) q7⟩
theorem cn_ra {U : State} {c1 c2 : ClassId} {ty : FieldType} (h1 : va_RA U c1 ty) (h2 : va_RA U c2 ty) : c2 = c1 := by
  cases ty with
  | object C =>
    obtain ⟨_, _, _, _, _, h3⟩ := h1
    obtain ⟨_, _, _, _, _, h4⟩ := h2
    exact Option.some.inj (h4.symm.trans h3)
  | _ => exact Option.some.inj ((show U.vm.findClass _ = some c2 from h2).symm.trans (show U.vm.findClass _ = some c1 from h1))
theorem cn_cls {g : ml_G} {s : State} {cA cB : ClassId} {ty : FieldType} {t : Nat} (hK : ml_K g s) (ht : (ml_ty g)[t]? = some (cB, ty)) (hK2 : va_K g.2.1 vwCl (ml_ty g ++ [(cA, ty)]) s) : cA = cB := cn_ra (hK.2 t _ ht).2 (hK2.2 (ml_ty g).length (cA, ty) (by simp)).2
theorem cn_join {A0 : Nat → Prop} {D : va_G} {cl : List vw_C} {L0 w1 : va_W} {b : Nat} {e0 : va_E} {H H1 : Heap} (hP : va_P D cl (L0 ++ [(b, e0)]) H) (hD : va_D A0 (L0 ++ [(b, e0)])) (hk : ∀ q : Nat, q < H.size → ¬ va_A [(b, e0)] H.size q → H1[q]? = H[q]?) (hF : ∀ q, va_A [(b, e0)] H.size q → A0 q) (hP1 : va_P D cl w1 H1) (hD1 : va_D (va_A [(b, e0)] H.size) w1) : va_P D cl (L0 ++ w1) H1 ∧ va_D A0 (L0 ++ w1) := by
  have at' : ∀ (k : Nat) (q : Nat × va_E), L0[k]? = some q → (L0 ++ [(b, e0)])[k]? = some q ∧ k < L0.length := fun k q h => by
    have hl := (List.getElem?_eq_some_iff.mp h).1
    exact ⟨by rw [List.getElem?_append_left hl]; exact h, hl⟩
  have apart : ∀ (k : Nat) (q : Nat × va_E), L0[k]? = some q → q.1 < H.size ∧ ¬ va_A [(b, e0)] H.size q.1 := by
    intro k q h
    obtain ⟨h2, hl⟩ := at' k q h
    have hlt := (hP k q h2).lt
    refine ⟨hlt, ?_⟩
    rintro (⟨k2, e, h3⟩ | h3)
    · have hb : b = q.1 := by
        cases k2 with
        | zero => exact (congrArg Prod.fst (Option.some.inj h3))
        | succ z => cases h3
      have h5 := hD.1 k L0.length q (b, e0) h2 (by simp) hb.symm
      omega
    · omega
  exact ⟨va_P.app (fun k q h => (hP k q (at' k q h).1).kept (hk q.1 (apart k q h).1 (apart k q h).2)) hP1, va_D.app ⟨fun i j p q hp hq e => hD.1 i j p q (at' i p hp).1 (at' j q hq).1 e, fun k q h => hD.2 k q (at' k q h).1⟩ (hD1.weaken (fun k q _ h => hF q.1 h)) (fun i j x y hx hy hxy => (apart i x hx).2 (by rw [hxy]; exact hD1.2 j y hy))⟩
theorem cn_last {A : Nat → Prop} {D : va_G} {cl : List vw_C} {L0 : va_W} {q9 : Nat × va_E} {H : Heap} (hP : va_P D cl (L0 ++ [q9]) H) (hD : va_D A (L0 ++ [q9])) : va_P D cl [q9] H ∧ va_D A [q9] := by
  have h : (L0 ++ [q9])[L0.length]? = some q9 := by simp
  refine ⟨fun k q hq => ?_, fun i j p q hp hq _ => ?_, fun k q hq => ?_⟩
  · cases k with
    | zero => cases hq; exact hP _ _ h
    | succ z => cases hq
  · cases i with
    | zero => cases j with
      | zero => rfl
      | succ z => cases hq
    | succ z => cases hp
  · cases k with
    | zero => cases hq; exact hD.2 _ _ h
    | succ z => cases hq
theorem cn_iconst {E : ml_E} {g : ml_G} {A : Nat → Prop} {cc : ByteArray} {own : String} {nL lv mc ms : Nat} {Q : State → Prop} {k n pc : Nat} {ls : List (Nat × Value)} {st : List Value} {L : va_W} {z : Int} {v : Int32} (F : cn_F E g A cc own nL lv mc ms) (hd : decode cc pc = .ok (.iconst z, 1)) (hv : Int32.ofInt z = v) (K : cn_J E g A nL Q (k) (n) (pc + 1) ls (.int v :: st) (L)) : cn_J E g A nL Q (k) (n) (pc) ls (st) (L) := by
  obtain ⟨p, e, R, s, m, args, below, meth, c⟩ := E
  obtain ⟨⟨hx, hb, ht, ho, hm, hlk, hin⟩, ⟨hK, hX, hz, hA, hA2, hao⟩, ⟨hR1, hR2, hR3, hR4⟩, hret⟩ := F
  intro H locs la hP hD hS hl
  exact lv_iconst hx hb hd hv (K H locs la hP hD hS hl)
theorem cn_bipush {E : ml_E} {g : ml_G} {A : Nat → Prop} {cc : ByteArray} {own : String} {nL lv mc ms : Nat} {Q : State → Prop} {k n pc : Nat} {ls : List (Nat × Value)} {st : List Value} {L : va_W} {z : Int} {v : Int32} (F : cn_F E g A cc own nL lv mc ms) (hd : decode cc pc = .ok (.bipush z, 2)) (hv : (Int8.ofInt z).toInt32 = v) (K : cn_J E g A nL Q (k) (n) (pc + 2) ls (.int v :: st) (L)) : cn_J E g A nL Q (k) (n) (pc) ls (st) (L) := by
  obtain ⟨p, e, R, s, m, args, below, meth, c⟩ := E
  obtain ⟨⟨hx, hb, ht, ho, hm, hlk, hin⟩, ⟨hK, hX, hz, hA, hA2, hao⟩, ⟨hR1, hR2, hR3, hR4⟩, hret⟩ := F
  intro H locs la hP hD hS hl
  exact lv_bipush hx hb hd hv (K H locs la hP hD hS hl)
theorem cn_sipush {E : ml_E} {g : ml_G} {A : Nat → Prop} {cc : ByteArray} {own : String} {nL lv mc ms : Nat} {Q : State → Prop} {k n pc : Nat} {ls : List (Nat × Value)} {st : List Value} {L : va_W} {z : Int} {v : Int32} (F : cn_F E g A cc own nL lv mc ms) (hd : decode cc pc = .ok (.sipush z, 3)) (hv : (Int16.ofInt z).toInt32 = v) (K : cn_J E g A nL Q (k) (n) (pc + 3) ls (.int v :: st) (L)) : cn_J E g A nL Q (k) (n) (pc) ls (st) (L) := by
  obtain ⟨p, e, R, s, m, args, below, meth, c⟩ := E
  obtain ⟨⟨hx, hb, ht, ho, hm, hlk, hin⟩, ⟨hK, hX, hz, hA, hA2, hao⟩, ⟨hR1, hR2, hR3, hR4⟩, hret⟩ := F
  intro H locs la hP hD hS hl
  exact lv_sipush hx hb hd hv (K H locs la hP hD hS hl)
theorem cn_iload_n {E : ml_E} {g : ml_G} {A : Nat → Prop} {cc : ByteArray} {own : String} {nL lv mc ms : Nat} {Q : State → Prop} {k n pc : Nat} {ls : List (Nat × Value)} {st : List Value} {L : va_W} {kk : Fin 4} {i q : Nat} {x : Int32} (F : cn_F E g A cc own nL lv mc ms) (hd : decode cc pc = .ok (.iload_n kk, 1)) (hi : (kk : Nat) = i) (hq : ls[q]? = some (i, .int x)) (K : cn_J E g A nL Q (k) (n) (pc + 1) ls (.int x :: st) (L)) : cn_J E g A nL Q (k) (n) (pc) ls (st) (L) := by
  obtain ⟨p, e, R, s, m, args, below, meth, c⟩ := E
  obtain ⟨⟨hx, hb, ht, ho, hm, hlk, hin⟩, ⟨hK, hX, hz, hA, hA2, hao⟩, ⟨hR1, hR2, hR3, hR4⟩, hret⟩ := F
  intro H locs la hP hD hS hl
  exact lv_iload_n hx hb hd hi (lv_at hl q hq) (K H locs la hP hD hS hl)
theorem cn_aload_n {E : ml_E} {g : ml_G} {A : Nat → Prop} {cc : ByteArray} {own : String} {nL lv mc ms : Nat} {Q : State → Prop} {k n pc : Nat} {ls : List (Nat × Value)} {st : List Value} {L : va_W} {kk : Fin 4} {i q : Nat} {x : Nat} (F : cn_F E g A cc own nL lv mc ms) (hd : decode cc pc = .ok (.aload_n kk, 1)) (hi : (kk : Nat) = i) (hq : ls[q]? = some (i, .ref x)) (K : cn_J E g A nL Q (k) (n) (pc + 1) ls (.ref x :: st) (L)) : cn_J E g A nL Q (k) (n) (pc) ls (st) (L) := by
  obtain ⟨p, e, R, s, m, args, below, meth, c⟩ := E
  obtain ⟨⟨hx, hb, ht, ho, hm, hlk, hin⟩, ⟨hK, hX, hz, hA, hA2, hao⟩, ⟨hR1, hR2, hR3, hR4⟩, hret⟩ := F
  intro H locs la hP hD hS hl
  exact lv_aload_n hx hb hd hi (lv_at hl q hq) (K H locs la hP hD hS hl)
theorem cn_istore_n {E : ml_E} {g : ml_G} {A : Nat → Prop} {cc : ByteArray} {own : String} {nL lv mc ms : Nat} {Q : State → Prop} {k n pc : Nat} {ls : List (Nat × Value)} {st : List Value} {L : va_W} {kk : Fin 4} {i : Nat} {x : Int32} {ls2 : List (Nat × Value)} (F : cn_F E g A cc own nL lv mc ms) (hd : decode cc pc = .ok (.istore_n kk, 1)) (hi : (kk : Nat) = i) (hn : i < nL) (hq : ml_put ls i (.int x) = ls2) (K : cn_J E g A nL Q (k) (n) (pc + 1) ls2 (st) (L)) : cn_J E g A nL Q (k) (n) (pc) ls (.int x :: st) (L) := by
  obtain ⟨p, e, R, s, m, args, below, meth, c⟩ := E
  obtain ⟨⟨hx, hb, ht, ho, hm, hlk, hin⟩, ⟨hK, hX, hz, hA, hA2, hao⟩, ⟨hR1, hR2, hR3, hR4⟩, hret⟩ := F
  intro H locs la hP hD hS hl
  exact lv_istore_n hx hb hd hi hl hn hq (fun la2 hl2 => K H locs la2 hP hD hS hl2)
theorem cn_iinc {E : ml_E} {g : ml_G} {A : Nat → Prop} {cc : ByteArray} {own : String} {nL lv mc ms : Nat} {Q : State → Prop} {k n pc : Nat} {ls : List (Nat × Value)} {st : List Value} {L : va_W} {i q : Nat} {z : Int} {x v : Int32} {ls2 : List (Nat × Value)} (F : cn_F E g A cc own nL lv mc ms) (hd : decode cc pc = .ok (.iinc i z, 3)) (hq : ls[q]? = some (i, .int x)) (hv : x + Int32.ofInt z = v) (hn : i < nL) (h2 : ml_put ls i (.int v) = ls2) (K : cn_J E g A nL Q (k) (n) (pc + 3) ls2 (st) (L)) : cn_J E g A nL Q (k) (n) (pc) ls (st) (L) := by
  obtain ⟨p, e, R, s, m, args, below, meth, c⟩ := E
  obtain ⟨⟨hx, hb, ht, ho, hm, hlk, hin⟩, ⟨hK, hX, hz, hA, hA2, hao⟩, ⟨hR1, hR2, hR3, hR4⟩, hret⟩ := F
  intro H locs la hP hD hS hl
  exact lv_iinc hx hb hd hl hq hv hn h2 (fun la2 hl2 => K H locs la2 hP hD hS hl2)
theorem cn_dup {E : ml_E} {g : ml_G} {A : Nat → Prop} {cc : ByteArray} {own : String} {nL lv mc ms : Nat} {Q : State → Prop} {k n pc : Nat} {ls : List (Nat × Value)} {st : List Value} {L : va_W} {va : Value} (F : cn_F E g A cc own nL lv mc ms) (hd : decode cc pc = .ok (.dup, 1)) (h1 : va.category = 1) (K : cn_J E g A nL Q (k) (n) (pc + 1) ls (va :: va :: st) (L)) : cn_J E g A nL Q (k) (n) (pc) ls (va :: st) (L) := by
  obtain ⟨p, e, R, s, m, args, below, meth, c⟩ := E
  obtain ⟨⟨hx, hb, ht, ho, hm, hlk, hin⟩, ⟨hK, hX, hz, hA, hA2, hao⟩, ⟨hR1, hR2, hR3, hR4⟩, hret⟩ := F
  intro H locs la hP hD hS hl
  exact lv_dup hx hb hd h1 (K H locs la hP hD hS hl)
theorem cn_goto {E : ml_E} {g : ml_G} {A : Nat → Prop} {cc : ByteArray} {own : String} {nL lv mc ms : Nat} {Q : State → Prop} {k n pc : Nat} {ls : List (Nat × Value)} {st : List Value} {L : va_W} {off : Int} {tgt : Nat} (F : cn_F E g A cc own nL lv mc ms) (hd : decode cc pc = .ok (.goto off, 3)) (hg : (pc : Int) + off = (tgt : Int)) (K : cn_J E g A nL Q (k) (n) (tgt) ls (st) (L)) : cn_J E g A nL Q (k) (n) (pc) ls (st) (L) := by
  obtain ⟨p, e, R, s, m, args, below, meth, c⟩ := E
  obtain ⟨⟨hx, hb, ht, ho, hm, hlk, hin⟩, ⟨hK, hX, hz, hA, hA2, hao⟩, ⟨hR1, hR2, hR3, hR4⟩, hret⟩ := F
  intro H locs la hP hD hS hl
  exact lv_goto hx hb hd hg (K H locs la hP hD hS hl)
theorem cn_geT {E : ml_E} {g : ml_G} {A : Nat → Prop} {cc : ByteArray} {own : String} {nL lv mc ms : Nat} {Q : State → Prop} {k n pc : Nat} {ls : List (Nat × Value)} {st : List Value} {L : va_W} {x y : Int32} {off : Int} {tgt : Nat} (F : cn_F E g A cc own nL lv mc ms) (hd : decode cc pc = .ok (.if_icmp .ge off, 3)) (hg : (pc : Int) + off = (tgt : Int)) (q : y ≤ x) (K : cn_J E g A nL Q (k) (n) (tgt) ls (st) (L)) : cn_J E g A nL Q (k) (n) (pc) ls (.int y :: .int x :: st) (L) := by
  obtain ⟨p, e, R, s, m, args, below, meth, c⟩ := E
  obtain ⟨⟨hx, hb, ht, ho, hm, hlk, hin⟩, ⟨hK, hX, hz, hA, hA2, hao⟩, ⟨hR1, hR2, hR3, hR4⟩, hret⟩ := F
  intro H locs la hP hD hS hl
  exact lv_icmp_ge hx hb hd hg (fun _ => K H locs la hP hD hS hl) (fun q2 => absurd q q2)
theorem cn_geF {E : ml_E} {g : ml_G} {A : Nat → Prop} {cc : ByteArray} {own : String} {nL lv mc ms : Nat} {Q : State → Prop} {k n pc : Nat} {ls : List (Nat × Value)} {st : List Value} {L : va_W} {x y : Int32} {off : Int} {tgt : Nat} (F : cn_F E g A cc own nL lv mc ms) (hd : decode cc pc = .ok (.if_icmp .ge off, 3)) (hg : (pc : Int) + off = (tgt : Int)) (q : ¬ (y ≤ x)) (K : cn_J E g A nL Q (k) (n) (pc + 3) ls (st) (L)) : cn_J E g A nL Q (k) (n) (pc) ls (.int y :: .int x :: st) (L) := by
  obtain ⟨p, e, R, s, m, args, below, meth, c⟩ := E
  obtain ⟨⟨hx, hb, ht, ho, hm, hlk, hin⟩, ⟨hK, hX, hz, hA, hA2, hao⟩, ⟨hR1, hR2, hR3, hR4⟩, hret⟩ := F
  intro H locs la hP hD hS hl
  exact lv_icmp_ge hx hb hd hg (fun q2 => absurd q2 q) (fun _ => K H locs la hP hD hS hl)
theorem cn_ifeqF {E : ml_E} {g : ml_G} {A : Nat → Prop} {cc : ByteArray} {own : String} {nL lv mc ms : Nat} {Q : State → Prop} {k n pc : Nat} {ls : List (Nat × Value)} {st : List Value} {L : va_W} {x : Int32} {off : Int} {tgt : Nat} (F : cn_F E g A cc own nL lv mc ms) (hd : decode cc pc = .ok (.ifCond .eq off, 3)) (hg : (pc : Int) + off = (tgt : Int)) (q : ¬ (x = 0)) (K : cn_J E g A nL Q (k) (n) (pc + 3) ls (st) (L)) : cn_J E g A nL Q (k) (n) (pc) ls (.int x :: st) (L) := by
  obtain ⟨p, e, R, s, m, args, below, meth, c⟩ := E
  obtain ⟨⟨hx, hb, ht, ho, hm, hlk, hin⟩, ⟨hK, hX, hz, hA, hA2, hao⟩, ⟨hR1, hR2, hR3, hR4⟩, hret⟩ := F
  intro H locs la hP hD hS hl
  exact lv_if_eq hx hb hd hg (fun q2 => absurd q2 q) (fun _ => K H locs la hP hD hS hl)
theorem cn_obj {E : ml_E} {g : ml_G} {A : Nat → Prop} {cc : ByteArray} {own : String} {nL lv mc ms : Nat} {Q : State → Prop} {k n pc : Nat} {ls : List (Nat × Value)} {st : List Value} {L : va_W} {idx : Nat} {a : Nat} (F : cn_F E g A cc own nL lv mc ms) (hlk2 : Cond.methodLink own idx Lib.objectInit ∈ ml_all) (hins : Cond.instanceMethod Lib.objectInit ∈ ml_all) (hcode : Cond.code Lib.objectInit ⟨#[0xb1]⟩ 1 none ∈ ml_all) (hroom : (st.map fun v => v.category).sum ≤ 8) (hd : decode cc pc = .ok (.invokespecial idx, 3)) (K : cn_J E g A nL Q (k) (n) (pc + 3) ls (st) (L)) : cn_J E g A nL Q (k) (n) (pc) ls (.ref a :: st) (L) := by
  obtain ⟨p, e, R, s, m, args, below, meth, c⟩ := E
  obtain ⟨⟨hx, hb, ht, ho, hm, hlk, hin⟩, ⟨hK, hX, hz, hA, hA2, hao⟩, ⟨hR1, hR2, hR3, hR4⟩, hret⟩ := F
  intro H locs la hP hD hS hl
  refine W.objInit hx hb ho (ht _ hlk2) (ht _ hins) (ht _ hcode) rfl (by rw [hm]; exact hl.1) rfl hd (by omega) ?_ ?_
  · show 2 * 0 + _ + 12 ≤ _
    omega
  · exact W.eq (g2 := F0 m (pc + 3) la st) rfl (K H locs la hP hD hS hl)
theorem cn_new {E : ml_E} {g : ml_G} {A : Nat → Prop} {cc : ByteArray} {own : String} {nL lv mc ms : Nat} {Q : State → Prop} {k n pc : Nat} {ls : List (Nat × Value)} {st : List Value} {L : va_W} {idx ci N : Nat} {C : String} {T : u_T} {fs : List Value} (F : cn_F E g A cc own nL lv mc ms) (ty : Nat → FieldType) (hin9 : ∀ w ∈ u_ws C T N, w ∈ ml_all) (hty : ∀ k, k < N → parseFieldDescriptor (T k).2.2.1 = some (ty k)) (hcl : Cond.classLink own idx C ∈ ml_all) (hinst : Cond.instantiable C N ∈ ml_all) (hini : Cond.initialized C ∈ ml_all) (hc : vwCl[ci]? = some (C, T, N)) (hfs : ∀ j, j < N → defaultValue (ty j) = vp_V fs j) (hk : k + 1 ≤ mc) (hn2 : n + N ≤ ms) (hd : decode cc pc = .ok (.new idx, 3)) (K : ∀ q : Nat, cn_J E g A nL Q (k + 1) (n + N) (pc + 3) ls (.ref q :: st) (L ++ [(q, .inr (ci, fs))])) : cn_J E g A nL Q (k) (n) (pc) ls (st) (L) := by
  obtain ⟨p, e, R, s, m, args, below, meth, c⟩ := E
  obtain ⟨⟨hx, hb, ht, ho, hm, hlk, hin⟩, ⟨hK, hX, hz, hA, hA2, hao⟩, ⟨hR1, hR2, hR3, hR4⟩, hret⟩ := F
  intro H locs la hP hD hS hl
  exact va_new (ci := ci) (fs := fs) (C := C) (T := T) (N := N) hx hb ht hin9 ty hty ho (ht _ hcl) (ht _ hinst) (ht _ hini) hK hP hD hS hA hc hfs (Nat.le_trans hk hR3) (Nat.le_trans hn2 hR4) hd (fun q H1 hP1 hD1 hS1 => K q H1 locs la hP1 hD1 hS1 hl)
theorem cn_newa {E : ml_E} {g : ml_G} {A : Nat → Prop} {cc : ByteArray} {own : String} {nL lv mc ms : Nat} {Q : State → Prop} {k n pc : Nat} {ls : List (Nat × Value)} {st : List Value} {L : va_W} {at9 : ArrayType} {ty : FieldType} {t N : Nat} {x : Int32} (F : cn_F E g A cc own nL lv mc ms) (harr : Cond.arrayClass (newarray.typeOf at9) ∈ ml_all) (hty : newarray.typeOf at9 = ty) (ht9 : (ml_ty g)[t]? = some (g.2.2.1 t, ty)) (hdef : defaultValue ty = .int 0) (hx0 : ¬ x < 0) (hN : x.toNatClampNeg = N) (hby : N * componentBytes ty ≤ 536870912) (hk : k + 1 ≤ mc) (hn2 : n + N ≤ ms) (hd : decode cc pc = .ok (.newarray at9, 2)) (K : ∀ q : Nat, cn_J E g A nL Q (k + 1) (n + N) (pc + 2) ls (.ref q :: st) (L ++ [(q, .inl (g.2.2.1 t, N, .inl (fun _ => 0)))])) : cn_J E g A nL Q (k) (n) (pc) ls (.int x :: st) (L) := by
  obtain ⟨p, e, R, s, m, args, below, meth, c⟩ := E
  obtain ⟨⟨hx, hb, ht, ho, hm, hlk, hin⟩, ⟨hK, hX, hz, hA, hA2, hao⟩, ⟨hR1, hR2, hR3, hR4⟩, hret⟩ := F
  intro H locs la hP hD hS hl
  refine va_newa hx hb (ht _ harr) hty hK hP hD hS hA (N' := N) (a0 := (N, .inl (fun _ => 0))) (fun cA => ?_) hx0 hN hby (Nat.le_trans hk hR3) (Nat.le_trans hn2 hR4) hd (fun q cA H1 hK1 hP1 hD1 hS1 => ?_)
  · rw [hdef]
    rfl
  · rw [cn_cls hK ht9 hK1] at hP1 hD1
    exact K q H1 locs la hP1 hD1 hS1 hl
theorem cn_newq {E : ml_E} {g : ml_G} {A : Nat → Prop} {cc : ByteArray} {own : String} {nL lv mc ms : Nat} {Q : State → Prop} {k n pc : Nat} {ls : List (Nat × Value)} {st : List Value} {L : va_W} {idx N : Nat} {x : Int32} (F : cn_F E g A cc own nL lv mc ms) (hcl : Cond.classLink own idx "CanalLocks$Flight" ∈ ml_all) (hx0 : ¬ x < 0) (hN : x.toNatClampNeg = N) (hby : N * 4 ≤ 536870912) (hk : k + 1 ≤ mc) (hn2 : n + N ≤ ms) (hd : decode cc pc = .ok (.anewarray idx, 3)) (K : ∀ q : Nat, cn_J E g A nL Q (k + 1) (n + N) (pc + 3) ls (.ref q :: st) (L ++ [(q, .inl (g.2.2.1 3, N, .inr (.inr (.inr (.inr (fun _ => none))))))])) : cn_J E g A nL Q (k) (n) (pc) ls (.int x :: st) (L) := by
  obtain ⟨p, e, R, s, m, args, below, meth, c⟩ := E
  obtain ⟨⟨hx, hb, ht, ho, hm, hlk, hin⟩, ⟨hK, hX, hz, hA, hA2, hao⟩, ⟨hR1, hR2, hR3, hR4⟩, hret⟩ := F
  intro H locs la hP hD hS hl
  refine va_newq (C := "CanalLocks$Flight") hx hb ho (ht _ hcl) hao hK hP hD hS hA (N' := N) hx0 hN hby (Nat.le_trans hk hR3) (Nat.le_trans hn2 hR4) hd (fun q cA H1 hK1 hP1 hD1 hS1 => ?_)
  rw [cn_cls (t := 3) hK rfl hK1] at hP1 hD1
  exact K q H1 locs la hP1 hD1 hS1 hl
theorem cn_put {E : ml_E} {g : ml_G} {A : Nat → Prop} {cc : ByteArray} {own : String} {nL lv mc ms : Nat} {Q : State → Prop} {k n pc : Nat} {ls : List (Nat × Value)} {st : List Value} {L : va_W} {a p0 ci idx N : Nat} {C : String} {T : u_T} {fs : List Value} {v : Value} {ty0 : Nat → FieldType} {L2 : va_W} (F : cn_F E g A cc own nL lv mc ms) (hin9 : ∀ w ∈ u_ws C T N, w ∈ ml_all) (hty : ∀ k, k < N → parseFieldDescriptor (T k).2.2.1 = some (ty0 k)) (hnm : ∀ a, a < N → ∀ b, b < N → a ≠ b → (T a).2.1 ≠ (T b).2.1) (he : L[p0]? = some (a, .inr (ci, fs))) (hc : vwCl[ci]? = some (C, T, N)) (j : Nat) (hj : j < N) (hlk2 : Cond.fieldLink own idx (T j).1 (T j).2.1 (T j).2.2.1 ∈ ml_all) (hfin : (T j).2.2.2 = false) (hnr : narrow (ty0 j) v = v) (hft : fits (ty0 j) v = true) (hlen : j < fs.length) (hL : L.set p0 (a, .inr (ci, fs.set j v)) = L2) (hd : decode cc pc = .ok (.putfield idx, 3)) (K : cn_J E g A nL Q (k) (n) (pc + 3) ls (st) (L2)) : cn_J E g A nL Q (k) (n) (pc) ls (v :: .ref a :: st) (L) := by
  obtain ⟨p, e, R, s, m, args, below, meth, c⟩ := E
  obtain ⟨⟨hx, hb, ht, ho, hm, hlk, hin⟩, ⟨hK, hX, hz, hA, hA2, hao⟩, ⟨hR1, hR2, hR3, hR4⟩, hret⟩ := F
  intro H locs la hP hD hS hl
  subst hL
  exact va_put (D := g.2.1) (cl := vwCl) (tys := ml_ty g) (C := C) (T := T) (N := N) hx hb ht hin9 ty0 hty hnm ho hK hP hD hS p0 he hc j hj (ht _ hlk2) (fun _ h9 => h9) hfin (hty j hj) hnr hft hlen hd (fun H1 locs1 hP1 hD1 hS1 => K H1 locs1 la hP1 hD1 hS1 hl)
theorem cn_putF {E : ml_E} {g : ml_G} {A : Nat → Prop} {cc : ByteArray} {own : String} {nL lv mc ms : Nat} {Q : State → Prop} {k n pc : Nat} {ls : List (Nat × Value)} {st : List Value} {L : va_W} {a p0 ci idx N : Nat} {C : String} {T : u_T} {fs : List Value} {v : Value} {ty0 : Nat → FieldType} {L2 : va_W} (F : cn_F E g A cc own nL lv mc ms) (hin9 : ∀ w ∈ u_ws C T N, w ∈ ml_all) (hty : ∀ k, k < N → parseFieldDescriptor (T k).2.2.1 = some (ty0 k)) (hnm : ∀ a, a < N → ∀ b, b < N → a ≠ b → (T a).2.1 ≠ (T b).2.1) (he : L[p0]? = some (a, .inr (ci, fs))) (hc : vwCl[ci]? = some (C, T, N)) (j : Nat) (hj : j < N) (hlk2 : Cond.fieldLink own idx (T j).1 (T j).2.1 (T j).2.2.1 ∈ ml_all) (hfin : (T j).2.2.2 = true) (hdecl : (T j).1 = own) (hnr : narrow (ty0 j) v = v) (hft : fits (ty0 j) v = true) (hlen : j < fs.length) (hL : L.set p0 (a, .inr (ci, fs.set j v)) = L2) (hd : decode cc pc = .ok (.putfield idx, 3)) (K : cn_J E g A nL Q (k) (n) (pc + 3) ls (st) (L2)) : cn_J E g A nL Q (k) (n) (pc) ls (v :: .ref a :: st) (L) := by
  obtain ⟨p, e, R, s, m, args, below, meth, c⟩ := E
  obtain ⟨⟨hx, hb, ht, ho, hm, hlk, hin⟩, ⟨hK, hX, hz, hA, hA2, hao⟩, ⟨hR1, hR2, hR3, hR4⟩, hret⟩ := F
  intro H locs la hP hD hS hl
  subst hL
  exact va_putF (D := g.2.1) (cl := vwCl) (tys := ml_ty g) (C := C) (T := T) (N := N) hx hb ht hin9 ty0 hty hnm ho hK hP hD hS p0 he hc j hj (ht _ hlk2) (fun _ h9 => h9) hfin hin hdecl (hty j hj) hnr hft hlen hd (fun H1 locs1 hP1 hD1 hS1 => K H1 locs1 la hP1 hD1 hS1 hl)
theorem cn_get {E : ml_E} {g : ml_G} {A : Nat → Prop} {cc : ByteArray} {own : String} {nL lv mc ms : Nat} {Q : State → Prop} {k n pc : Nat} {ls : List (Nat × Value)} {st : List Value} {L : va_W} {a p0 ci idx N : Nat} {C : String} {T : u_T} {fs : List Value} {v : Value} (F : cn_F E g A cc own nL lv mc ms) (hin9 : ∀ w ∈ u_ws C T N, w ∈ ml_all) (he : L[p0]? = some (a, .inr (ci, fs))) (hc : vwCl[ci]? = some (C, T, N)) (j : Nat) (hj : j < N) (hlk2 : Cond.fieldLink own idx (T j).1 (T j).2.1 (T j).2.2.1 ∈ ml_all) (hv : fs[j]? = some v) (hd : decode cc pc = .ok (.getfield idx, 3)) (K : cn_J E g A nL Q (k) (n) (pc + 3) ls (v :: st) (L)) : cn_J E g A nL Q (k) (n) (pc) ls (.ref a :: st) (L) := by
  obtain ⟨p, e, R, s, m, args, below, meth, c⟩ := E
  obtain ⟨⟨hx, hb, ht, ho, hm, hlk, hin⟩, ⟨hK, hX, hz, hA, hA2, hao⟩, ⟨hR1, hR2, hR3, hR4⟩, hret⟩ := F
  intro H locs la hP hD hS hl
  exact va_get (D := g.2.1) (cl := vwCl) (tys := ml_ty g) (C := C) (T := T) (N := N) hx hb ht hin9 ho hK hP p0 he hc j hj (ht _ hlk2) (fun _ h9 => h9) hv hd (K H locs la hP hD hS hl)
theorem cn_iast {E : ml_E} {g : ml_G} {A : Nat → Prop} {cc : ByteArray} {own : String} {nL lv mc ms : Nat} {Q : State → Prop} {k n pc : Nat} {ls : List (Nat × Value)} {st : List Value} {L : va_W} {a p0 N j : Nat} {f : Nat → Int32} {i x : Int32} {L2 : va_W} (F : cn_F E g A cc own nL lv mc ms) (he : L[p0]? = some (a, .inl (g.2.2.1 0, N, .inl f))) (hi : ¬ i < 0) (hj : i.toNatClampNeg = j) (hjN : j < N) (hL : L.set p0 (a, .inl (g.2.2.1 0, N, .inl (upd f j x))) = L2) (hd : decode cc pc = .ok (.iastore, 1)) (K : cn_J E g A nL Q (k) (n) (pc + 1) ls (st) (L2)) : cn_J E g A nL Q (k) (n) (pc) ls (.int x :: .int i :: .ref a :: st) (L) := by
  obtain ⟨p, e, R, s, m, args, below, meth, c⟩ := E
  obtain ⟨⟨hx, hb, ht, ho, hm, hlk, hin⟩, ⟨hK, hX, hz, hA, hA2, hao⟩, ⟨hR1, hR2, hR3, hR4⟩, hret⟩ := F
  intro H locs la hP hD hS hl
  subst hL
  subst hj
  exact va_iast (D := g.2.1) (cl := vwCl) (tys := ml_ty g) hx hb hK hP hD hS p0 0 he rfl (ml_ok_in ⟨hi, hjN⟩) hd (fun H1 locs1 hP1 hD1 hS1 => K H1 locs1 la hP1 hD1 hS1 hl)
theorem cn_aast {E : ml_E} {g : ml_G} {A : Nat → Prop} {cc : ByteArray} {own : String} {nL lv mc ms : Nat} {Q : State → Prop} {k n pc : Nat} {ls : List (Nat × Value)} {st : List Value} {L : va_W} {a v p0 pv N j : Nat} {vs : List Value} {f : Nat → Option Nat} {i : Int32} {L2 : va_W} (F : cn_F E g A cc own nL lv mc ms) (he : L[p0]? = some (a, .inl (g.2.2.1 3, N, .inr (.inr (.inr (.inr f)))))) (hv : L[pv]? = some (v, .inr (6, vs))) (hi : ¬ i < 0) (hj : i.toNatClampNeg = j) (hjN : j < N) (hL : L.set p0 (a, .inl (g.2.2.1 3, N, .inr (.inr (.inr (.inr (va_up f j (some v))))))) = L2) (hd : decode cc pc = .ok (.aastore, 1)) (K : cn_J E g A nL Q (k) (n) (pc + 1) ls (st) (L2)) : cn_J E g A nL Q (k) (n) (pc) ls (.ref v :: .int i :: .ref a :: st) (L) := by
  obtain ⟨p, e, R, s, m, args, below, meth, c⟩ := E
  obtain ⟨⟨hx, hb, ht, ho, hm, hlk, hin⟩, ⟨hK, hX, hz, hA, hA2, hao⟩, ⟨hR1, hR2, hR3, hR4⟩, hret⟩ := F
  intro H locs la hP hD hS hl
  subst hL
  subst hj
  exact va_astq (D := g.2.1) (cl := vwCl) (tys := ml_ty g) hx hb hK hP hD hS p0 3 pv 6 (r := (RX2, TX2, 4)) he rfl hv rfl (ml_ok_in ⟨hi, hjN⟩) hd (fun H1 locs1 hP1 hD1 hS1 => K H1 locs1 la hP1 hD1 hS1 hl)
theorem cn_gsvN {E : ml_E} {g : ml_G} {A : Nat → Prop} {cc : ByteArray} {own : String} {nL lv mc ms : Nat} {Q : State → Prop} {k n pc : Nat} {ls : List (Nat × Value)} {st : List Value} {L : va_W} {idx : Nat} (F : cn_F E g A cc own nL lv mc ms) (hlk2 : Cond.fieldLinkNest own idx RX6 "START_VOLUMES" "[I" RX6 ∈ ml_nest) (hd : decode cc pc = .ok (.getstatic idx, 3)) (K : cn_J E g A nL Q (k) (n) (pc + 3) ls (.ref (g.2.2.2.2.1 0) :: st) (L)) : cn_J E g A nL Q (k) (n) (pc) ls (st) (L) := by
  obtain ⟨p, e, R, s, m, args, below, meth, c⟩ := E
  obtain ⟨⟨hx, hb, ht, ho, hm, hlk, hin⟩, ⟨hK, hX, hz, hA, hA2, hao⟩, ⟨hR1, hR2, hR3, hR4⟩, hret⟩ := F
  intro H locs la hP hD hS hl
  exact va_getsN hx hb hX.1.1.1 (cn_S hA2 hS) ho (va_Nw.use rfl (hX.2.1 _ hlk2)) (fun _ h9 => h9) hd (K H locs la hP hD hS hl)
theorem cn_svld {E : ml_E} {g : ml_G} {A : Nat → Prop} {cc : ByteArray} {own : String} {nL lv mc ms : Nat} {Q : State → Prop} {k n pc : Nat} {ls : List (Nat × Value)} {st : List Value} {L : va_W} {i x : Int32} {j : Nat} (F : cn_F E g A cc own nL lv mc ms) (hi : ¬ i < 0) (hj : i.toNatClampNeg = j) (hjN : j < 5) (hxv : ml_sv j = x) (hd : decode cc pc = .ok (.iaload, 1)) (K : cn_J E g A nL Q (k) (n) (pc + 1) ls (.int x :: st) (L)) : cn_J E g A nL Q (k) (n) (pc) ls (.int i :: .ref (g.2.2.2.2.1 0) :: st) (L) := by
  obtain ⟨p, e, R, s, m, args, below, meth, c⟩ := E
  obtain ⟨⟨hx, hb, ht, ho, hm, hlk, hin⟩, ⟨hK, hX, hz, hA, hA2, hao⟩, ⟨hR1, hR2, hR3, hR4⟩, hret⟩ := F
  intro H locs la hP hD hS hl
  subst hxv
  subst hj
  exact va_ti hx hb hX.1.1.2 (cn_S hA2 hS) (ml_ok_in ⟨hi, hjN⟩) rfl hd (K H locs la hP hD hS hl)
theorem cn_gcp {E : ml_E} {g : ml_G} {A : Nat → Prop} {cc : ByteArray} {own : String} {nL lv mc ms : Nat} {Q : State → Prop} {k n pc : Nat} {ls : List (Nat × Value)} {st : List Value} {L : va_W} {idx : Nat} (F : cn_F E g A cc own nL lv mc ms) (hlk2 : Cond.fieldLink own idx "java/lang/String" "COMPACT_STRINGS" "Z" ∈ ml_all) (hd : decode cc pc = .ok (.getstatic idx, 3)) (K : cn_J E g A nL Q (k) (n) (pc + 3) ls (.int 1 :: st) (L)) : cn_J E g A nL Q (k) (n) (pc) ls (st) (L) := by
  obtain ⟨p, e, R, s, m, args, below, meth, c⟩ := E
  obtain ⟨⟨hx, hb, ht, ho, hm, hlk, hin⟩, ⟨hK, hX, hz, hA, hA2, hao⟩, ⟨hR1, hR2, hR3, hR4⟩, hret⟩ := F
  intro H locs la hP hD hS hl
  exact va_gets hx hb hX.1.2.2.2.1 (cn_S hA2 hS) ho (ht _ hlk2) (fun _ h9 => h9) hd (K H locs la hP hD hS hl)
theorem cn_call {E : ml_E} {g : ml_G} {A : Nat → Prop} {cc : ByteArray} {own : String} {nL lv mc ms : Nat} {Q : State → Prop} {k n pc : Nat} {ls : List (Nat × Value)} {st : List Value} {y : MethodName} {yc : ByteArray} {yn lv2 mc2 ms2 z idx b : Nat} {e0 : va_E} {av : List Value} {L0 : va_W} {post : (Nat → Nat) → va_W} {stk : List Value} (F : cn_F E g A cc own nL lv mc ms) (hC : cn_C y yc yn lv2 mc2 ms2 g (.ref b :: av) b [(b, e0)] post) (W1 : ml_wc y yc yn none) (hlk2 : Cond.methodLink own idx y ∈ ml_all) (hwd : ml_wd y z) (hlv : lv2 < lv) (hk : k + mc2 ≤ mc) (hn2 : n + ms2 ≤ ms) (hz2 : av.length = z) (hnm : y.name = "<init>") (hins : Cond.instanceMethod y ∈ ml_all) (hstk : stk = av.reverse ++ .ref b :: st) (hroom : (st.map fun v => v.category).sum ≤ 8) (hd : decode cc pc = .ok (.invokespecial idx, 3)) (K : ∀ q : Nat → Nat, q 0 = b → cn_J E g A nL Q (k + mc2) (n + ms2) (pc + 3) ls (st) (L0 ++ post q)) : cn_J E g A nL Q (k) (n) (pc) ls (stk) (L0 ++ [(b, e0)]) := by
  obtain ⟨p, e, R, s, m, args, below, meth, c⟩ := E
  obtain ⟨⟨hx, hb, ht, ho, hm, hlk, hin⟩, ⟨hK, hX, hz, hA, hA2, hao⟩, ⟨hR1, hR2, hR3, hR4⟩, hret⟩ := F
  intro H locs la hP hD hS hl
  obtain ⟨hPc, hDc⟩ := cn_last hP hD
  have hFc : ∀ q, va_A [(b, e0)] H.size q → A q := by
    rintro q (⟨k2, e9, h3⟩ | h3)
    · exact hDc.2 k2 _ h3
    · exact hA q (Nat.le_trans hS.1 h3)
  refine va_callv (va_runI (As := av) (rest := st) ⟨hx, hb, hm, ho, ht⟩ (hC H.size) ⟨ml_cb ht W1 hlk2 hwd hR1 hR2 hlv, hnm, ht _ hins⟩ ⟨cn_blind, fun U hU hW => ⟨rfl, by rw [hU], by rw [hU]; exact hPc, va_K.moved hW.alike hK, hDc.weaken (fun _ _ _ h => hA2 _ h), fun q h9 => hz q (Nat.le_trans hS.1 h9), by rw [hU]; exact ml_X_to hW (cn_S hA2 hS) hX, va_AO.moved hW.alike hao⟩⟩ rfl hz2 hl.1 hstk (lv_room hroom) hd ⟨by omega, by omega⟩) hS (fun q _ h => hFc q h) hFc (fun q t H1 locs1 ht1 hvm hq0 hB hz1 hk1 hS1 => ?_)
  obtain ⟨hP1, hD1⟩ := hB
  rw [ht1] at hP1
  obtain ⟨hP9, hD9⟩ := cn_join hP hD hk1 hFc hP1 hD1
  exact K q hq0 H1 locs1 la hP9 hD9 hS1 hl
theorem cn_callN {E : ml_E} {g : ml_G} {A : Nat → Prop} {cc : ByteArray} {own : String} {nL lv mc ms : Nat} {Q : State → Prop} {k n pc : Nat} {ls : List (Nat × Value)} {st : List Value} {y : MethodName} {yc : ByteArray} {yn lv2 mc2 ms2 z idx b : Nat} {e0 : va_E} {av : List Value} {L0 : va_W} {post : (Nat → Nat) → va_W} {stk : List Value} (F : cn_F E g A cc own nL lv mc ms) (hC : cn_C y yc yn lv2 mc2 ms2 g (.ref b :: av) b [(b, e0)] post) (W1 : ml_wc y yc yn none) (hlk2 : Cond.methodLinkNest own idx y RX6 ∈ ml_nest) (hwd : ml_wd y z) (hlv : lv2 < lv) (hk : k + mc2 ≤ mc) (hn2 : n + ms2 ≤ ms) (hz2 : av.length = z) (hnm : y.name = "<init>") (hins : Cond.instanceMethod y ∈ ml_all) (hstk : stk = av.reverse ++ .ref b :: st) (hroom : (st.map fun v => v.category).sum ≤ 8) (hd : decode cc pc = .ok (.invokespecial idx, 3)) (K : ∀ q : Nat → Nat, q 0 = b → cn_J E g A nL Q (k + mc2) (n + ms2) (pc + 3) ls (st) (L0 ++ post q)) : cn_J E g A nL Q (k) (n) (pc) ls (stk) (L0 ++ [(b, e0)]) := by
  obtain ⟨p, e, R, s, m, args, below, meth, c⟩ := E
  obtain ⟨⟨hx, hb, ht, ho, hm, hlk, hin⟩, ⟨hK, hX, hz, hA, hA2, hao⟩, ⟨hR1, hR2, hR3, hR4⟩, hret⟩ := F
  intro H locs la hP hD hS hl
  obtain ⟨hPc, hDc⟩ := cn_last hP hD
  have hFc : ∀ q, va_A [(b, e0)] H.size q → A q := by
    rintro q (⟨k2, e9, h3⟩ | h3)
    · exact hDc.2 k2 _ h3
    · exact hA q (Nat.le_trans hS.1 h3)
  refine va_callv (va_runIN (host := RX6) (As := av) (rest := st) ⟨hx, hb, hm, ho, ht⟩ (hC H.size) ⟨va_cnB z ht (ml_good W1.1) rfl rfl rfl (hX.2.1 _ hlk2) (ht _ W1.2.1) hwd ⟨by show 40 + lv2 + 1 ≤ _; omega, by have := W1.2.2; show 8 + (yn + 11) + (800 + 64 * lv2) ≤ _; omega⟩, hnm, ht _ hins⟩ ⟨cn_blind, fun U hU hW => ⟨rfl, by rw [hU], by rw [hU]; exact hPc, va_K.moved hW.alike hK, hDc.weaken (fun _ _ _ h => hA2 _ h), fun q h9 => hz q (Nat.le_trans hS.1 h9), by rw [hU]; exact ml_X_to hW (cn_S hA2 hS) hX, va_AO.moved hW.alike hao⟩⟩ rfl hz2 hl.1 hstk (lv_room hroom) hd ⟨by omega, by omega⟩) hS (fun q _ h => hFc q h) hFc (fun q t H1 locs1 ht1 hvm hq0 hB hz1 hk1 hS1 => ?_)
  obtain ⟨hP1, hD1⟩ := hB
  rw [ht1] at hP1
  obtain ⟨hP9, hD9⟩ := cn_join hP hD hk1 hFc hP1 hD1
  exact K q hq0 H1 locs1 la hP9 hD9 hS1 hl
theorem cn_vret {E : ml_E} {g : ml_G} {A : Nat → Prop} {cc : ByteArray} {own : String} {nL lv mc ms : Nat} {k n pc : Nat} {ls : List (Nat × Value)} {L : va_W} {b : Nat} {post : (Nat → Nat) → va_W} (F : cn_F E g A cc own nL lv mc ms) (q : Nat → Nat) (hq0 : q 0 = b) (hL : L = post q) (hk : k ≤ mc) (hn2 : n ≤ ms) (hd : decode cc pc = .ok (.return_, 1)) : cn_J E g A nL (cn_Z E g A b post mc ms) (k) (n) (pc) ls ([]) (L) := by
  obtain ⟨p, e, R, s, m, args, below, meth, c⟩ := E
  obtain ⟨⟨hx, hb, ht, ho, hm, hlk, hin⟩, ⟨hK, hX, hz, hA, hA2, hao⟩, ⟨hR1, hR2, hR3, hR4⟩, hret⟩ := F
  intro H locs la hP hD hS hl
  subst hL
  refine W.widen hk hn2 ?_
  exact W.vret hx hb hret (fun t ht9 hW => ⟨⟨q, rfl, hq0, by rw [ht9]; exact hP, hD⟩, hS.F ht9⟩) hS.2.2 hd hlk
theorem cn_cast {E : ml_E} {g : ml_G} {A : Nat → Prop} {nL : Nat} {Q : State → Prop} {k n pc : Nat} {ls : List (Nat × Value)} {st : List Value} {L : va_W} {L2 : va_W} (h1 : ∀ H, va_P g.2.1 vwCl L H → va_P g.2.1 vwCl L2 H) (h2 : va_D A L → va_D A L2) (K : cn_J E g A nL Q (k) (n) (pc) ls (st) (L2)) : cn_J E g A nL Q (k) (n) (pc) ls (st) (L) := by
  obtain ⟨p, e, R, s, m, args, below, meth, c⟩ := E
  intro H locs la hP hD hS hl
  exact K H locs la (h1 H hP) (h2 hD) hS hl
def cn_pWater (g : ml_G) (q : Nat → Nat) : va_W := [(q 0, .inr (9, [.ref (q 1), .ref (q 2), .ref (q 3), .int 0, .int 0, .int 0, .int 0, .int 0])), (q 1, .inl (g.2.2.1 0, 5, .inl (upd (upd (upd (upd (upd (fun _ => 0) 0 300) 1 144) 2 108) 3 72) 4 60))), (q 2, .inl (g.2.2.1 0, 4, .inl (fun _ => 0))), (q 3, .inl (g.2.2.1 2, 4, .inl (fun _ => 0)))]
def cn_pFleet (g : ml_G) (q : Nat → Nat) : va_W := [(q 0, .inr (5, [.int 0, .int 0, .ref (q 1), .ref (q 2), .ref (q 3), .ref (q 4), .ref (q 5), .ref (q 6)])), (q 1, .inl (g.2.2.1 0, 8, .inl (fun _ => 0))), (q 2, .inl (g.2.2.1 0, 8, .inl (fun _ => 0))), (q 3, .inl (g.2.2.1 2, 8, .inl (fun _ => 0))), (q 4, .inl (g.2.2.1 0, 8, .inl (fun _ => 0))), (q 5, .inl (g.2.2.1 0, 8, .inl (fun _ => 0))), (q 6, .inl (g.2.2.1 0, 3, .inl (fun _ => 0)))]
def cn_pLog (g : ml_G) (q : Nat → Nat) : va_W := [(q 0, .inr (4, [.ref (q 1), .ref (q 2), .int 0, .int 0])), (q 1, .inl (g.2.2.1 1, 8, .inl (fun _ => 0))), (q 2, .inl (g.2.2.1 0, 8, .inl (fun _ => 0)))]
def cn_pFlight (g : ml_G) (q : Nat → Nat) : va_W := [(q 0, .inr (6, [.ref (q 1), .ref (q 5), .ref (q 12), .int 0]))] ++ cn_pWater g (fun k => q (1 + k)) ++ cn_pFleet g (fun k => q (5 + k)) ++ cn_pLog g (fun k => q (12 + k))
def cn_pScript (g : ml_G) (q : Nat → Nat) : va_W := [(q 0, .inr (8, [.ref (q 1), .int 0, .int 0, .int 0, .int 0, .ref (q 2), .ref (q 3), .ref (q 4), .ref (q 5)])), (q 1, .inl (g.2.2.1 1, 60, .inl (fun _ => 0))), (q 2, .inl (g.2.2.1 0, 60, .inl (fun _ => 0))), (q 3, .inl (g.2.2.1 0, 60, .inl (fun _ => 0))), (q 4, .inl (g.2.2.1 0, 60, .inl (fun _ => 0))), (q 5, .inl (g.2.2.1 0, 60, .inl (fun _ => 0)))]
def cn_pSB (g : ml_G) (q : Nat → Nat) : va_W := [(q 0, .inr (1, [.ref (q 1), .int 0, .int 0, .int 0])), (q 1, .inl (g.2.2.1 4, 16, .inl (fun _ => 0)))]
def cn_pFls (g : ml_G) (q : Nat → Nat) : va_W := cn_pFlight g (fun k => q (0 + k)) ++ cn_pFlight g (fun k => q (15 + k)) ++ cn_pFlight g (fun k => q (30 + k)) ++ cn_pFlight g (fun k => q (45 + k)) ++ cn_pFlight g (fun k => q (60 + k)) ++ cn_pFlight g (fun k => q (75 + k)) ++ cn_pFlight g (fun k => q (90 + k)) ++ cn_pFlight g (fun k => q (105 + k))
def cn_pHist (g : ml_G) (q : Nat → Nat) : va_W := [(q 0, .inr (7, [.ref (q 1), .int 0, .int 0])), (q 1, .inl (g.2.2.1 3, 8, .inr (.inr (.inr (.inr (fun i => some ([q 2, q 17, q 32, q 47, q 62, q 77, q 92, q 107].getD i 0)))))))] ++ cn_pFls g (fun k => q (2 + k))
def cn_pCL (g : ml_G) (q : Nat → Nat) : va_W := [(q 0, .inr (10, [.ref (q 1), .ref (q 16), .ref (q 31), .int 0, .ref (q 46), .ref (q 168), .ref (q 174), .int (-1), .int (-1)]))] ++ cn_pFlight g (fun k => q (1 + k)) ++ cn_pFlight g (fun k => q (16 + k)) ++ cn_pFlight g (fun k => q (31 + k)) ++ cn_pHist g (fun k => q (46 + k)) ++ cn_pScript g (fun k => q (168 + k)) ++ cn_pSB g (fun k => q (174 + k))
theorem cn_arr {D : va_G} {cl : List vw_C} {c0 : Nat × va_E} {a n : Nat} {cA : ClassId} {f f2 : Nat → Option Nat} {Lr : va_W} {H : Heap} (hf : ∀ i, i < n → f i = f2 i) (h : va_P D cl (c0 :: (a, .inl (cA, n, .inr (.inr (.inr (.inr f))))) :: Lr) H) : va_P D cl (c0 :: (a, .inl (cA, n, .inr (.inr (.inr (.inr f2))))) :: Lr) H := by
  intro k q hq
  match k, hq with
  | 0, hq => exact h 0 q hq
  | 1, hq =>
    cases hq
    have h1 : H[a]? = some (arrV cA n (fun j => va_rf (f j))) := h 1 _ rfl
    have h2 : arrV cA n (fun j => va_rf (f j)) = arrV cA n (fun j => va_rf (f2 j)) := by
      unfold arrV
      congr 1
      apply Array.ext (by simp)
      intro i h8 h9
      simp at h8
      simp [hf i h8]
    exact h1.trans (congrArg some h2)
  | k + 2, hq => exact h (k + 2) q hq
theorem cn_arrD {A : Nat → Prop} {c0 : Nat × va_E} {a : Nat} {e e2 : va_E} {Lr : va_W} (h : va_D A (c0 :: (a, e) :: Lr)) : va_D A (c0 :: (a, e2) :: Lr) := by
  have key : ∀ (k : Nat) (q : Nat × va_E), (c0 :: (a, e2) :: Lr)[k]? = some q → ∃ q2 : Nat × va_E, (c0 :: (a, e) :: Lr)[k]? = some q2 ∧ q2.1 = q.1 := by
    intro k q hq
    match k, hq with
    | 0, hq => exact ⟨q, hq, rfl⟩
    | 1, hq =>
      cases hq
      exact ⟨_, rfl, rfl⟩
    | k + 2, hq => exact ⟨q, hq, rfl⟩
  refine ⟨fun i j p q hp hq e => ?_, fun k q hq => ?_⟩
  · obtain ⟨p2, h1, e1⟩ := key i p hp
    obtain ⟨q2, h2, e2⟩ := key j q hq
    exact h.1 i j p2 q2 h1 h2 (by rw [e1, e2]; exact e)
  · obtain ⟨q2, h1, e1⟩ := key k q hq
    rw [← e1]
    exact h.2 k q2 h1
set_option maxHeartbeats 4000000 in
set_option maxRecDepth 100000 in
theorem X0_init_k (g : ml_G) (h0 : Nat) : cn_C yX0_init cX0_init 1 1 2 16 g [.ref h0] h0 [(h0, .inr (4, [.null, .null, .int 0, .int 0]))] (cn_pLog g) := by
  refine cn_of [(0, .ref h0)] (by decide) rfl (Nat.le_of_ble_eq_true rfl) rfl (fun E A F => ?_)
  refine cn_aload_n (q := 0) F dX0_init_0 rfl rfl ?_
  refine cn_obj F (ml_tb 134 (by decide +kernel) rfl) (ml_tb 36 (by decide +kernel) rfl) (ml_tb 37 (by decide +kernel) rfl) (by decide) dX0_init_1 ?_
  refine cn_aload_n (q := 0) F dX0_init_4 rfl rfl ?_
  refine cn_bipush (v := 8) F dX0_init_5 (by decide) ?_
  refine cn_newa (t := 1) (N := 8) (ty := .char) F (ml_tb 151 (by decide +kernel) rfl) rfl rfl rfl (by decide) (by decide) (by decide) (by decide) (by decide) dX0_init_7 (fun q1 => ?_)
  refine cn_putF (p0 := 0) (ci := 4) (N := 4) (C := RX0) (T := TX0) (ty0 := tyX0) (L2 := [(h0, .inr (4, [.ref q1, .null, .int 0, .int 0]))] ++ [(q1, .inl (g.2.2.1 1, 8, .inl (fun _ => 0)))]) F iaX0 tyX0_ok nmX0 rfl rfl 0 (by decide) (ml_tb 135 (by decide +kernel) rfl) rfl rfl rfl rfl (by simp) rfl dX0_init_9 ?_
  refine cn_aload_n (q := 0) F dX0_init_12 rfl rfl ?_
  refine cn_bipush (v := 8) F dX0_init_13 (by decide) ?_
  refine cn_newa (t := 0) (N := 8) (ty := .int) F (ml_tb 87 (by decide +kernel) rfl) rfl rfl rfl (by decide) (by decide) (by decide) (by decide) (by decide) dX0_init_15 (fun q2 => ?_)
  refine cn_putF (p0 := 0) (ci := 4) (N := 4) (C := RX0) (T := TX0) (ty0 := tyX0) (L2 := [(h0, .inr (4, [.ref q1, .ref q2, .int 0, .int 0]))] ++ [(q1, .inl (g.2.2.1 1, 8, .inl (fun _ => 0)))] ++ [(q2, .inl (g.2.2.1 0, 8, .inl (fun _ => 0)))]) F iaX0 tyX0_ok nmX0 rfl rfl 1 (by decide) (ml_tb 137 (by decide +kernel) rfl) rfl rfl rfl rfl (by simp) rfl dX0_init_17 ?_
  refine cn_aload_n (q := 0) F dX0_init_20 rfl rfl ?_
  refine cn_iconst (v := 0) F dX0_init_21 (by decide) ?_
  refine cn_put (p0 := 0) (ci := 4) (N := 4) (C := RX0) (T := TX0) (ty0 := tyX0) (L2 := [(h0, .inr (4, [.ref q1, .ref q2, .int 0, .int 0]))] ++ [(q1, .inl (g.2.2.1 1, 8, .inl (fun _ => 0)))] ++ [(q2, .inl (g.2.2.1 0, 8, .inl (fun _ => 0)))]) F iaX0 tyX0_ok nmX0 rfl rfl 2 (by decide) (ml_tb 139 (by decide +kernel) rfl) rfl rfl rfl (by simp) rfl dX0_init_22 ?_
  refine cn_aload_n (q := 0) F dX0_init_25 rfl rfl ?_
  refine cn_iconst (v := 0) F dX0_init_26 (by decide) ?_
  refine cn_put (p0 := 0) (ci := 4) (N := 4) (C := RX0) (T := TX0) (ty0 := tyX0) (L2 := [(h0, .inr (4, [.ref q1, .ref q2, .int 0, .int 0]))] ++ [(q1, .inl (g.2.2.1 1, 8, .inl (fun _ => 0)))] ++ [(q2, .inl (g.2.2.1 0, 8, .inl (fun _ => 0)))]) F iaX0 tyX0_ok nmX0 rfl rfl 3 (by decide) (ml_tb 140 (by decide +kernel) rfl) rfl rfl rfl (by simp) rfl dX0_init_27 ?_
  exact cn_vret F (fun k => [h0, q1, q2].getD k 0) rfl rfl (by decide) (by decide) dX0_init_30
set_option maxHeartbeats 4000000 in
set_option maxRecDepth 100000 in
theorem X1_init_k (g : ml_G) (h0 : Nat) : cn_C yX1_init cX1_init 1 1 6 43 g [.ref h0] h0 [(h0, .inr (5, [.int 0, .int 0, .null, .null, .null, .null, .null, .null]))] (cn_pFleet g) := by
  refine cn_of [(0, .ref h0)] (by decide) rfl (Nat.le_of_ble_eq_true rfl) rfl (fun E A F => ?_)
  refine cn_aload_n (q := 0) F dX1_init_0 rfl rfl ?_
  refine cn_obj F (ml_tb 94 (by decide +kernel) rfl) (ml_tb 36 (by decide +kernel) rfl) (ml_tb 37 (by decide +kernel) rfl) (by decide) dX1_init_1 ?_
  refine cn_aload_n (q := 0) F dX1_init_4 rfl rfl ?_
  refine cn_iconst (v := 0) F dX1_init_5 (by decide) ?_
  refine cn_put (p0 := 0) (ci := 5) (N := 8) (C := RX1) (T := TX1) (ty0 := tyX1) (L2 := [(h0, .inr (5, [.int 0, .int 0, .null, .null, .null, .null, .null, .null]))]) F iaX1 tyX1_ok nmX1 rfl rfl 0 (by decide) (ml_tb 95 (by decide +kernel) rfl) rfl rfl rfl (by simp) rfl dX1_init_6 ?_
  refine cn_aload_n (q := 0) F dX1_init_9 rfl rfl ?_
  refine cn_iconst (v := 0) F dX1_init_10 (by decide) ?_
  refine cn_put (p0 := 0) (ci := 5) (N := 8) (C := RX1) (T := TX1) (ty0 := tyX1) (L2 := [(h0, .inr (5, [.int 0, .int 0, .null, .null, .null, .null, .null, .null]))]) F iaX1 tyX1_ok nmX1 rfl rfl 1 (by decide) (ml_tb 98 (by decide +kernel) rfl) rfl rfl rfl (by simp) rfl dX1_init_11 ?_
  refine cn_aload_n (q := 0) F dX1_init_14 rfl rfl ?_
  refine cn_bipush (v := 8) F dX1_init_15 (by decide) ?_
  refine cn_newa (t := 0) (N := 8) (ty := .int) F (ml_tb 87 (by decide +kernel) rfl) rfl rfl rfl (by decide) (by decide) (by decide) (by decide) (by decide) dX1_init_17 (fun q1 => ?_)
  refine cn_putF (p0 := 0) (ci := 5) (N := 8) (C := RX1) (T := TX1) (ty0 := tyX1) (L2 := [(h0, .inr (5, [.int 0, .int 0, .ref q1, .null, .null, .null, .null, .null]))] ++ [(q1, .inl (g.2.2.1 0, 8, .inl (fun _ => 0)))]) F iaX1 tyX1_ok nmX1 rfl rfl 2 (by decide) (ml_tb 99 (by decide +kernel) rfl) rfl rfl rfl rfl (by simp) rfl dX1_init_19 ?_
  refine cn_aload_n (q := 0) F dX1_init_22 rfl rfl ?_
  refine cn_bipush (v := 8) F dX1_init_23 (by decide) ?_
  refine cn_newa (t := 0) (N := 8) (ty := .int) F (ml_tb 87 (by decide +kernel) rfl) rfl rfl rfl (by decide) (by decide) (by decide) (by decide) (by decide) dX1_init_25 (fun q2 => ?_)
  refine cn_putF (p0 := 0) (ci := 5) (N := 8) (C := RX1) (T := TX1) (ty0 := tyX1) (L2 := [(h0, .inr (5, [.int 0, .int 0, .ref q1, .ref q2, .null, .null, .null, .null]))] ++ [(q1, .inl (g.2.2.1 0, 8, .inl (fun _ => 0)))] ++ [(q2, .inl (g.2.2.1 0, 8, .inl (fun _ => 0)))]) F iaX1 tyX1_ok nmX1 rfl rfl 3 (by decide) (ml_tb 101 (by decide +kernel) rfl) rfl rfl rfl rfl (by simp) rfl dX1_init_27 ?_
  refine cn_aload_n (q := 0) F dX1_init_30 rfl rfl ?_
  refine cn_bipush (v := 8) F dX1_init_31 (by decide) ?_
  refine cn_newa (t := 2) (N := 8) (ty := .boolean) F (ml_tb 88 (by decide +kernel) rfl) rfl rfl rfl (by decide) (by decide) (by decide) (by decide) (by decide) dX1_init_33 (fun q3 => ?_)
  refine cn_putF (p0 := 0) (ci := 5) (N := 8) (C := RX1) (T := TX1) (ty0 := tyX1) (L2 := [(h0, .inr (5, [.int 0, .int 0, .ref q1, .ref q2, .ref q3, .null, .null, .null]))] ++ [(q1, .inl (g.2.2.1 0, 8, .inl (fun _ => 0)))] ++ [(q2, .inl (g.2.2.1 0, 8, .inl (fun _ => 0)))] ++ [(q3, .inl (g.2.2.1 2, 8, .inl (fun _ => 0)))]) F iaX1 tyX1_ok nmX1 rfl rfl 4 (by decide) (ml_tb 104 (by decide +kernel) rfl) rfl rfl rfl rfl (by simp) rfl dX1_init_35 ?_
  refine cn_aload_n (q := 0) F dX1_init_38 rfl rfl ?_
  refine cn_bipush (v := 8) F dX1_init_39 (by decide) ?_
  refine cn_newa (t := 0) (N := 8) (ty := .int) F (ml_tb 87 (by decide +kernel) rfl) rfl rfl rfl (by decide) (by decide) (by decide) (by decide) (by decide) dX1_init_41 (fun q4 => ?_)
  refine cn_putF (p0 := 0) (ci := 5) (N := 8) (C := RX1) (T := TX1) (ty0 := tyX1) (L2 := [(h0, .inr (5, [.int 0, .int 0, .ref q1, .ref q2, .ref q3, .ref q4, .null, .null]))] ++ [(q1, .inl (g.2.2.1 0, 8, .inl (fun _ => 0)))] ++ [(q2, .inl (g.2.2.1 0, 8, .inl (fun _ => 0)))] ++ [(q3, .inl (g.2.2.1 2, 8, .inl (fun _ => 0)))] ++ [(q4, .inl (g.2.2.1 0, 8, .inl (fun _ => 0)))]) F iaX1 tyX1_ok nmX1 rfl rfl 5 (by decide) (ml_tb 106 (by decide +kernel) rfl) rfl rfl rfl rfl (by simp) rfl dX1_init_43 ?_
  refine cn_aload_n (q := 0) F dX1_init_46 rfl rfl ?_
  refine cn_bipush (v := 8) F dX1_init_47 (by decide) ?_
  refine cn_newa (t := 0) (N := 8) (ty := .int) F (ml_tb 87 (by decide +kernel) rfl) rfl rfl rfl (by decide) (by decide) (by decide) (by decide) (by decide) dX1_init_49 (fun q5 => ?_)
  refine cn_putF (p0 := 0) (ci := 5) (N := 8) (C := RX1) (T := TX1) (ty0 := tyX1) (L2 := [(h0, .inr (5, [.int 0, .int 0, .ref q1, .ref q2, .ref q3, .ref q4, .ref q5, .null]))] ++ [(q1, .inl (g.2.2.1 0, 8, .inl (fun _ => 0)))] ++ [(q2, .inl (g.2.2.1 0, 8, .inl (fun _ => 0)))] ++ [(q3, .inl (g.2.2.1 2, 8, .inl (fun _ => 0)))] ++ [(q4, .inl (g.2.2.1 0, 8, .inl (fun _ => 0)))] ++ [(q5, .inl (g.2.2.1 0, 8, .inl (fun _ => 0)))]) F iaX1 tyX1_ok nmX1 rfl rfl 6 (by decide) (ml_tb 109 (by decide +kernel) rfl) rfl rfl rfl rfl (by simp) rfl dX1_init_51 ?_
  refine cn_aload_n (q := 0) F dX1_init_54 rfl rfl ?_
  refine cn_iconst (v := 3) F dX1_init_55 (by decide) ?_
  refine cn_newa (t := 0) (N := 3) (ty := .int) F (ml_tb 87 (by decide +kernel) rfl) rfl rfl rfl (by decide) (by decide) (by decide) (by decide) (by decide) dX1_init_56 (fun q6 => ?_)
  refine cn_putF (p0 := 0) (ci := 5) (N := 8) (C := RX1) (T := TX1) (ty0 := tyX1) (L2 := [(h0, .inr (5, [.int 0, .int 0, .ref q1, .ref q2, .ref q3, .ref q4, .ref q5, .ref q6]))] ++ [(q1, .inl (g.2.2.1 0, 8, .inl (fun _ => 0)))] ++ [(q2, .inl (g.2.2.1 0, 8, .inl (fun _ => 0)))] ++ [(q3, .inl (g.2.2.1 2, 8, .inl (fun _ => 0)))] ++ [(q4, .inl (g.2.2.1 0, 8, .inl (fun _ => 0)))] ++ [(q5, .inl (g.2.2.1 0, 8, .inl (fun _ => 0)))] ++ [(q6, .inl (g.2.2.1 0, 3, .inl (fun _ => 0)))]) F iaX1 tyX1_ok nmX1 rfl rfl 7 (by decide) (ml_tb 110 (by decide +kernel) rfl) rfl rfl rfl rfl (by simp) rfl dX1_init_58 ?_
  exact cn_vret F (fun k => [h0, q1, q2, q3, q4, q5, q6].getD k 0) rfl rfl (by decide) (by decide) dX1_init_61
set_option maxHeartbeats 4000000 in
set_option maxRecDepth 100000 in
theorem X5_init_k (g : ml_G) (h0 : Nat) : cn_C yX5_init cX5_init 2 1 3 13 g [.ref h0] h0 [(h0, .inr (9, [.null, .null, .null, .int 0, .int 0, .int 0, .int 0, .int 0]))] (cn_pWater g) := by
  refine cn_of [(0, .ref h0)] (by decide) rfl (Nat.le_of_ble_eq_true rfl) rfl (fun E A F => ?_)
  refine cn_aload_n (q := 0) F dX5_init_0 rfl rfl ?_
  refine cn_obj F (ml_tb 49 (by decide +kernel) rfl) (ml_tb 36 (by decide +kernel) rfl) (ml_tb 37 (by decide +kernel) rfl) (by decide) dX5_init_1 ?_
  refine cn_aload_n (q := 0) F dX5_init_4 rfl rfl ?_
  refine cn_iconst (v := 5) F dX5_init_5 (by decide) ?_
  refine cn_newa (t := 0) (N := 5) (ty := .int) F (ml_tb 87 (by decide +kernel) rfl) rfl rfl rfl (by decide) (by decide) (by decide) (by decide) (by decide) dX5_init_6 (fun q1 => ?_)
  refine cn_putF (p0 := 0) (ci := 9) (N := 8) (C := RX5) (T := TX5) (ty0 := tyX5) (L2 := [(h0, .inr (9, [.ref q1, .null, .null, .int 0, .int 0, .int 0, .int 0, .int 0]))] ++ [(q1, .inl (g.2.2.1 0, 5, .inl (fun _ => 0)))]) F iaX5 tyX5_ok nmX5 rfl rfl 0 (by decide) (ml_tb 52 (by decide +kernel) rfl) rfl rfl rfl rfl (by simp) rfl dX5_init_8 ?_
  refine cn_aload_n (q := 0) F dX5_init_11 rfl rfl ?_
  refine cn_iconst (v := 4) F dX5_init_12 (by decide) ?_
  refine cn_newa (t := 0) (N := 4) (ty := .int) F (ml_tb 87 (by decide +kernel) rfl) rfl rfl rfl (by decide) (by decide) (by decide) (by decide) (by decide) dX5_init_13 (fun q2 => ?_)
  refine cn_putF (p0 := 0) (ci := 9) (N := 8) (C := RX5) (T := TX5) (ty0 := tyX5) (L2 := [(h0, .inr (9, [.ref q1, .ref q2, .null, .int 0, .int 0, .int 0, .int 0, .int 0]))] ++ [(q1, .inl (g.2.2.1 0, 5, .inl (fun _ => 0)))] ++ [(q2, .inl (g.2.2.1 0, 4, .inl (fun _ => 0)))]) F iaX5 tyX5_ok nmX5 rfl rfl 1 (by decide) (ml_tb 54 (by decide +kernel) rfl) rfl rfl rfl rfl (by simp) rfl dX5_init_15 ?_
  refine cn_aload_n (q := 0) F dX5_init_18 rfl rfl ?_
  refine cn_iconst (v := 4) F dX5_init_19 (by decide) ?_
  refine cn_newa (t := 2) (N := 4) (ty := .boolean) F (ml_tb 88 (by decide +kernel) rfl) rfl rfl rfl (by decide) (by decide) (by decide) (by decide) (by decide) dX5_init_20 (fun q3 => ?_)
  refine cn_putF (p0 := 0) (ci := 9) (N := 8) (C := RX5) (T := TX5) (ty0 := tyX5) (L2 := [(h0, .inr (9, [.ref q1, .ref q2, .ref q3, .int 0, .int 0, .int 0, .int 0, .int 0]))] ++ [(q1, .inl (g.2.2.1 0, 5, .inl (fun _ => 0)))] ++ [(q2, .inl (g.2.2.1 0, 4, .inl (fun _ => 0)))] ++ [(q3, .inl (g.2.2.1 2, 4, .inl (fun _ => 0)))]) F iaX5 tyX5_ok nmX5 rfl rfl 2 (by decide) (ml_tb 57 (by decide +kernel) rfl) rfl rfl rfl rfl (by simp) rfl dX5_init_22 ?_
  refine cn_aload_n (q := 0) F dX5_init_25 rfl rfl ?_
  refine cn_iconst (v := 0) F dX5_init_26 (by decide) ?_
  refine cn_put (p0 := 0) (ci := 9) (N := 8) (C := RX5) (T := TX5) (ty0 := tyX5) (L2 := [(h0, .inr (9, [.ref q1, .ref q2, .ref q3, .int 0, .int 0, .int 0, .int 0, .int 0]))] ++ [(q1, .inl (g.2.2.1 0, 5, .inl (fun _ => 0)))] ++ [(q2, .inl (g.2.2.1 0, 4, .inl (fun _ => 0)))] ++ [(q3, .inl (g.2.2.1 2, 4, .inl (fun _ => 0)))]) F iaX5 tyX5_ok nmX5 rfl rfl 3 (by decide) (ml_tb 60 (by decide +kernel) rfl) rfl rfl rfl (by simp) rfl dX5_init_27 ?_
  refine cn_aload_n (q := 0) F dX5_init_30 rfl rfl ?_
  refine cn_iconst (v := 0) F dX5_init_31 (by decide) ?_
  refine cn_put (p0 := 0) (ci := 9) (N := 8) (C := RX5) (T := TX5) (ty0 := tyX5) (L2 := [(h0, .inr (9, [.ref q1, .ref q2, .ref q3, .int 0, .int 0, .int 0, .int 0, .int 0]))] ++ [(q1, .inl (g.2.2.1 0, 5, .inl (fun _ => 0)))] ++ [(q2, .inl (g.2.2.1 0, 4, .inl (fun _ => 0)))] ++ [(q3, .inl (g.2.2.1 2, 4, .inl (fun _ => 0)))]) F iaX5 tyX5_ok nmX5 rfl rfl 4 (by decide) (ml_tb 62 (by decide +kernel) rfl) rfl rfl rfl (by simp) rfl dX5_init_32 ?_
  refine cn_aload_n (q := 0) F dX5_init_35 rfl rfl ?_
  refine cn_iconst (v := 0) F dX5_init_36 (by decide) ?_
  refine cn_put (p0 := 0) (ci := 9) (N := 8) (C := RX5) (T := TX5) (ty0 := tyX5) (L2 := [(h0, .inr (9, [.ref q1, .ref q2, .ref q3, .int 0, .int 0, .int 0, .int 0, .int 0]))] ++ [(q1, .inl (g.2.2.1 0, 5, .inl (fun _ => 0)))] ++ [(q2, .inl (g.2.2.1 0, 4, .inl (fun _ => 0)))] ++ [(q3, .inl (g.2.2.1 2, 4, .inl (fun _ => 0)))]) F iaX5 tyX5_ok nmX5 rfl rfl 5 (by decide) (ml_tb 64 (by decide +kernel) rfl) rfl rfl rfl (by simp) rfl dX5_init_37 ?_
  refine cn_aload_n (q := 0) F dX5_init_40 rfl rfl ?_
  refine cn_iconst (v := 0) F dX5_init_41 (by decide) ?_
  refine cn_put (p0 := 0) (ci := 9) (N := 8) (C := RX5) (T := TX5) (ty0 := tyX5) (L2 := [(h0, .inr (9, [.ref q1, .ref q2, .ref q3, .int 0, .int 0, .int 0, .int 0, .int 0]))] ++ [(q1, .inl (g.2.2.1 0, 5, .inl (fun _ => 0)))] ++ [(q2, .inl (g.2.2.1 0, 4, .inl (fun _ => 0)))] ++ [(q3, .inl (g.2.2.1 2, 4, .inl (fun _ => 0)))]) F iaX5 tyX5_ok nmX5 rfl rfl 6 (by decide) (ml_tb 66 (by decide +kernel) rfl) rfl rfl rfl (by simp) rfl dX5_init_42 ?_
  refine cn_aload_n (q := 0) F dX5_init_45 rfl rfl ?_
  refine cn_iconst (v := 0) F dX5_init_46 (by decide) ?_
  refine cn_put (p0 := 0) (ci := 9) (N := 8) (C := RX5) (T := TX5) (ty0 := tyX5) (L2 := [(h0, .inr (9, [.ref q1, .ref q2, .ref q3, .int 0, .int 0, .int 0, .int 0, .int 0]))] ++ [(q1, .inl (g.2.2.1 0, 5, .inl (fun _ => 0)))] ++ [(q2, .inl (g.2.2.1 0, 4, .inl (fun _ => 0)))] ++ [(q3, .inl (g.2.2.1 2, 4, .inl (fun _ => 0)))]) F iaX5 tyX5_ok nmX5 rfl rfl 7 (by decide) (ml_tb 68 (by decide +kernel) rfl) rfl rfl rfl (by simp) rfl dX5_init_47 ?_
  refine cn_iconst (v := 0) F dX5_init_50 (by decide) ?_
  refine cn_istore_n (ls2 := [(1, .int 0), (0, .ref h0)]) F dX5_init_51 rfl (by decide) rfl ?_
  refine cn_iload_n (q := 0) F dX5_init_52 rfl rfl ?_
  refine cn_iconst (v := 5) F dX5_init_53 (by decide) ?_
  refine cn_geF (tgt := 74) F dX5_init_54 (by decide) (by decide) ?_
  refine cn_aload_n (q := 1) F dX5_init_57 rfl rfl ?_
  refine cn_get (p0 := 0) (ci := 9) (N := 8) (C := RX5) (T := TX5) F iaX5 rfl rfl 0 (by decide) (ml_tb 52 (by decide +kernel) rfl) rfl dX5_init_58 ?_
  refine cn_iload_n (q := 0) F dX5_init_61 rfl rfl ?_
  refine cn_gsvN F (by decide) dX5_init_62 ?_
  refine cn_iload_n (q := 0) F dX5_init_65 rfl rfl ?_
  refine cn_svld (j := 0) (x := 300) F (by decide) (by decide) (by decide) (by decide) dX5_init_66 ?_
  refine cn_iast (p0 := 1) (j := 0) (L2 := [(h0, .inr (9, [.ref q1, .ref q2, .ref q3, .int 0, .int 0, .int 0, .int 0, .int 0]))] ++ [(q1, .inl (g.2.2.1 0, 5, .inl (upd (fun _ => 0) 0 300)))] ++ [(q2, .inl (g.2.2.1 0, 4, .inl (fun _ => 0)))] ++ [(q3, .inl (g.2.2.1 2, 4, .inl (fun _ => 0)))]) F rfl (by decide) (by decide) (by decide) rfl dX5_init_67 ?_
  refine cn_iinc (q := 0) (v := 1) (ls2 := [(1, .int 1), (0, .ref h0)]) F dX5_init_68 rfl (by decide) (by decide) rfl ?_
  refine cn_goto (tgt := 52) F dX5_init_71 (by decide) ?_
  refine cn_iload_n (q := 0) F dX5_init_52 rfl rfl ?_
  refine cn_iconst (v := 5) F dX5_init_53 (by decide) ?_
  refine cn_geF (tgt := 74) F dX5_init_54 (by decide) (by decide) ?_
  refine cn_aload_n (q := 1) F dX5_init_57 rfl rfl ?_
  refine cn_get (p0 := 0) (ci := 9) (N := 8) (C := RX5) (T := TX5) F iaX5 rfl rfl 0 (by decide) (ml_tb 52 (by decide +kernel) rfl) rfl dX5_init_58 ?_
  refine cn_iload_n (q := 0) F dX5_init_61 rfl rfl ?_
  refine cn_gsvN F (by decide) dX5_init_62 ?_
  refine cn_iload_n (q := 0) F dX5_init_65 rfl rfl ?_
  refine cn_svld (j := 1) (x := 144) F (by decide) (by decide) (by decide) (by decide) dX5_init_66 ?_
  refine cn_iast (p0 := 1) (j := 1) (L2 := [(h0, .inr (9, [.ref q1, .ref q2, .ref q3, .int 0, .int 0, .int 0, .int 0, .int 0]))] ++ [(q1, .inl (g.2.2.1 0, 5, .inl (upd (upd (fun _ => 0) 0 300) 1 144)))] ++ [(q2, .inl (g.2.2.1 0, 4, .inl (fun _ => 0)))] ++ [(q3, .inl (g.2.2.1 2, 4, .inl (fun _ => 0)))]) F rfl (by decide) (by decide) (by decide) rfl dX5_init_67 ?_
  refine cn_iinc (q := 0) (v := 2) (ls2 := [(1, .int 2), (0, .ref h0)]) F dX5_init_68 rfl (by decide) (by decide) rfl ?_
  refine cn_goto (tgt := 52) F dX5_init_71 (by decide) ?_
  refine cn_iload_n (q := 0) F dX5_init_52 rfl rfl ?_
  refine cn_iconst (v := 5) F dX5_init_53 (by decide) ?_
  refine cn_geF (tgt := 74) F dX5_init_54 (by decide) (by decide) ?_
  refine cn_aload_n (q := 1) F dX5_init_57 rfl rfl ?_
  refine cn_get (p0 := 0) (ci := 9) (N := 8) (C := RX5) (T := TX5) F iaX5 rfl rfl 0 (by decide) (ml_tb 52 (by decide +kernel) rfl) rfl dX5_init_58 ?_
  refine cn_iload_n (q := 0) F dX5_init_61 rfl rfl ?_
  refine cn_gsvN F (by decide) dX5_init_62 ?_
  refine cn_iload_n (q := 0) F dX5_init_65 rfl rfl ?_
  refine cn_svld (j := 2) (x := 108) F (by decide) (by decide) (by decide) (by decide) dX5_init_66 ?_
  refine cn_iast (p0 := 1) (j := 2) (L2 := [(h0, .inr (9, [.ref q1, .ref q2, .ref q3, .int 0, .int 0, .int 0, .int 0, .int 0]))] ++ [(q1, .inl (g.2.2.1 0, 5, .inl (upd (upd (upd (fun _ => 0) 0 300) 1 144) 2 108)))] ++ [(q2, .inl (g.2.2.1 0, 4, .inl (fun _ => 0)))] ++ [(q3, .inl (g.2.2.1 2, 4, .inl (fun _ => 0)))]) F rfl (by decide) (by decide) (by decide) rfl dX5_init_67 ?_
  refine cn_iinc (q := 0) (v := 3) (ls2 := [(1, .int 3), (0, .ref h0)]) F dX5_init_68 rfl (by decide) (by decide) rfl ?_
  refine cn_goto (tgt := 52) F dX5_init_71 (by decide) ?_
  refine cn_iload_n (q := 0) F dX5_init_52 rfl rfl ?_
  refine cn_iconst (v := 5) F dX5_init_53 (by decide) ?_
  refine cn_geF (tgt := 74) F dX5_init_54 (by decide) (by decide) ?_
  refine cn_aload_n (q := 1) F dX5_init_57 rfl rfl ?_
  refine cn_get (p0 := 0) (ci := 9) (N := 8) (C := RX5) (T := TX5) F iaX5 rfl rfl 0 (by decide) (ml_tb 52 (by decide +kernel) rfl) rfl dX5_init_58 ?_
  refine cn_iload_n (q := 0) F dX5_init_61 rfl rfl ?_
  refine cn_gsvN F (by decide) dX5_init_62 ?_
  refine cn_iload_n (q := 0) F dX5_init_65 rfl rfl ?_
  refine cn_svld (j := 3) (x := 72) F (by decide) (by decide) (by decide) (by decide) dX5_init_66 ?_
  refine cn_iast (p0 := 1) (j := 3) (L2 := [(h0, .inr (9, [.ref q1, .ref q2, .ref q3, .int 0, .int 0, .int 0, .int 0, .int 0]))] ++ [(q1, .inl (g.2.2.1 0, 5, .inl (upd (upd (upd (upd (fun _ => 0) 0 300) 1 144) 2 108) 3 72)))] ++ [(q2, .inl (g.2.2.1 0, 4, .inl (fun _ => 0)))] ++ [(q3, .inl (g.2.2.1 2, 4, .inl (fun _ => 0)))]) F rfl (by decide) (by decide) (by decide) rfl dX5_init_67 ?_
  refine cn_iinc (q := 0) (v := 4) (ls2 := [(1, .int 4), (0, .ref h0)]) F dX5_init_68 rfl (by decide) (by decide) rfl ?_
  refine cn_goto (tgt := 52) F dX5_init_71 (by decide) ?_
  refine cn_iload_n (q := 0) F dX5_init_52 rfl rfl ?_
  refine cn_iconst (v := 5) F dX5_init_53 (by decide) ?_
  refine cn_geF (tgt := 74) F dX5_init_54 (by decide) (by decide) ?_
  refine cn_aload_n (q := 1) F dX5_init_57 rfl rfl ?_
  refine cn_get (p0 := 0) (ci := 9) (N := 8) (C := RX5) (T := TX5) F iaX5 rfl rfl 0 (by decide) (ml_tb 52 (by decide +kernel) rfl) rfl dX5_init_58 ?_
  refine cn_iload_n (q := 0) F dX5_init_61 rfl rfl ?_
  refine cn_gsvN F (by decide) dX5_init_62 ?_
  refine cn_iload_n (q := 0) F dX5_init_65 rfl rfl ?_
  refine cn_svld (j := 4) (x := 60) F (by decide) (by decide) (by decide) (by decide) dX5_init_66 ?_
  refine cn_iast (p0 := 1) (j := 4) (L2 := [(h0, .inr (9, [.ref q1, .ref q2, .ref q3, .int 0, .int 0, .int 0, .int 0, .int 0]))] ++ [(q1, .inl (g.2.2.1 0, 5, .inl (upd (upd (upd (upd (upd (fun _ => 0) 0 300) 1 144) 2 108) 3 72) 4 60)))] ++ [(q2, .inl (g.2.2.1 0, 4, .inl (fun _ => 0)))] ++ [(q3, .inl (g.2.2.1 2, 4, .inl (fun _ => 0)))]) F rfl (by decide) (by decide) (by decide) rfl dX5_init_67 ?_
  refine cn_iinc (q := 0) (v := 5) (ls2 := [(1, .int 5), (0, .ref h0)]) F dX5_init_68 rfl (by decide) (by decide) rfl ?_
  refine cn_goto (tgt := 52) F dX5_init_71 (by decide) ?_
  refine cn_iload_n (q := 0) F dX5_init_52 rfl rfl ?_
  refine cn_iconst (v := 5) F dX5_init_53 (by decide) ?_
  refine cn_geT (tgt := 74) F dX5_init_54 (by decide) (by decide) ?_
  exact cn_vret F (fun k => [h0, q1, q2, q3].getD k 0) rfl rfl (by decide) (by decide) dX5_init_74
set_option maxHeartbeats 4000000 in
set_option maxRecDepth 100000 in
theorem X4_init_k (g : ml_G) (h0 : Nat) : cn_C yX4_init cX4_init 1 1 5 300 g [.ref h0] h0 [(h0, .inr (8, [.null, .int 0, .int 0, .int 0, .int 0, .null, .null, .null, .null]))] (cn_pScript g) := by
  refine cn_of [(0, .ref h0)] (by decide) rfl (Nat.le_of_ble_eq_true rfl) rfl (fun E A F => ?_)
  refine cn_aload_n (q := 0) F dX4_init_0 rfl rfl ?_
  refine cn_obj F (ml_tb 192 (by decide +kernel) rfl) (ml_tb 36 (by decide +kernel) rfl) (ml_tb 37 (by decide +kernel) rfl) (by decide) dX4_init_1 ?_
  refine cn_aload_n (q := 0) F dX4_init_4 rfl rfl ?_
  refine cn_bipush (v := 60) F dX4_init_5 (by decide) ?_
  refine cn_newa (t := 1) (N := 60) (ty := .char) F (ml_tb 151 (by decide +kernel) rfl) rfl rfl rfl (by decide) (by decide) (by decide) (by decide) (by decide) dX4_init_7 (fun q1 => ?_)
  refine cn_putF (p0 := 0) (ci := 8) (N := 9) (C := RX4) (T := TX4) (ty0 := tyX4) (L2 := [(h0, .inr (8, [.ref q1, .int 0, .int 0, .int 0, .int 0, .null, .null, .null, .null]))] ++ [(q1, .inl (g.2.2.1 1, 60, .inl (fun _ => 0)))]) F iaX4 tyX4_ok nmX4 rfl rfl 0 (by decide) (ml_tb 193 (by decide +kernel) rfl) rfl rfl rfl rfl (by simp) rfl dX4_init_9 ?_
  refine cn_aload_n (q := 0) F dX4_init_12 rfl rfl ?_
  refine cn_iconst (v := 0) F dX4_init_13 (by decide) ?_
  refine cn_put (p0 := 0) (ci := 8) (N := 9) (C := RX4) (T := TX4) (ty0 := tyX4) (L2 := [(h0, .inr (8, [.ref q1, .int 0, .int 0, .int 0, .int 0, .null, .null, .null, .null]))] ++ [(q1, .inl (g.2.2.1 1, 60, .inl (fun _ => 0)))]) F iaX4 tyX4_ok nmX4 rfl rfl 1 (by decide) (ml_tb 194 (by decide +kernel) rfl) rfl rfl rfl (by simp) rfl dX4_init_14 ?_
  refine cn_aload_n (q := 0) F dX4_init_17 rfl rfl ?_
  refine cn_iconst (v := 0) F dX4_init_18 (by decide) ?_
  refine cn_put (p0 := 0) (ci := 8) (N := 9) (C := RX4) (T := TX4) (ty0 := tyX4) (L2 := [(h0, .inr (8, [.ref q1, .int 0, .int 0, .int 0, .int 0, .null, .null, .null, .null]))] ++ [(q1, .inl (g.2.2.1 1, 60, .inl (fun _ => 0)))]) F iaX4 tyX4_ok nmX4 rfl rfl 2 (by decide) (ml_tb 195 (by decide +kernel) rfl) rfl rfl rfl (by simp) rfl dX4_init_19 ?_
  refine cn_aload_n (q := 0) F dX4_init_22 rfl rfl ?_
  refine cn_iconst (v := 0) F dX4_init_23 (by decide) ?_
  refine cn_put (p0 := 0) (ci := 8) (N := 9) (C := RX4) (T := TX4) (ty0 := tyX4) (L2 := [(h0, .inr (8, [.ref q1, .int 0, .int 0, .int 0, .int 0, .null, .null, .null, .null]))] ++ [(q1, .inl (g.2.2.1 1, 60, .inl (fun _ => 0)))]) F iaX4 tyX4_ok nmX4 rfl rfl 3 (by decide) (ml_tb 196 (by decide +kernel) rfl) rfl rfl rfl (by simp) rfl dX4_init_24 ?_
  refine cn_aload_n (q := 0) F dX4_init_27 rfl rfl ?_
  refine cn_iconst (v := 0) F dX4_init_28 (by decide) ?_
  refine cn_put (p0 := 0) (ci := 8) (N := 9) (C := RX4) (T := TX4) (ty0 := tyX4) (L2 := [(h0, .inr (8, [.ref q1, .int 0, .int 0, .int 0, .int 0, .null, .null, .null, .null]))] ++ [(q1, .inl (g.2.2.1 1, 60, .inl (fun _ => 0)))]) F iaX4 tyX4_ok nmX4 rfl rfl 4 (by decide) (ml_tb 197 (by decide +kernel) rfl) rfl rfl rfl (by simp) rfl dX4_init_29 ?_
  refine cn_aload_n (q := 0) F dX4_init_32 rfl rfl ?_
  refine cn_bipush (v := 60) F dX4_init_33 (by decide) ?_
  refine cn_newa (t := 0) (N := 60) (ty := .int) F (ml_tb 87 (by decide +kernel) rfl) rfl rfl rfl (by decide) (by decide) (by decide) (by decide) (by decide) dX4_init_35 (fun q2 => ?_)
  refine cn_putF (p0 := 0) (ci := 8) (N := 9) (C := RX4) (T := TX4) (ty0 := tyX4) (L2 := [(h0, .inr (8, [.ref q1, .int 0, .int 0, .int 0, .int 0, .ref q2, .null, .null, .null]))] ++ [(q1, .inl (g.2.2.1 1, 60, .inl (fun _ => 0)))] ++ [(q2, .inl (g.2.2.1 0, 60, .inl (fun _ => 0)))]) F iaX4 tyX4_ok nmX4 rfl rfl 5 (by decide) (ml_tb 198 (by decide +kernel) rfl) rfl rfl rfl rfl (by simp) rfl dX4_init_37 ?_
  refine cn_aload_n (q := 0) F dX4_init_40 rfl rfl ?_
  refine cn_bipush (v := 60) F dX4_init_41 (by decide) ?_
  refine cn_newa (t := 0) (N := 60) (ty := .int) F (ml_tb 87 (by decide +kernel) rfl) rfl rfl rfl (by decide) (by decide) (by decide) (by decide) (by decide) dX4_init_43 (fun q3 => ?_)
  refine cn_putF (p0 := 0) (ci := 8) (N := 9) (C := RX4) (T := TX4) (ty0 := tyX4) (L2 := [(h0, .inr (8, [.ref q1, .int 0, .int 0, .int 0, .int 0, .ref q2, .ref q3, .null, .null]))] ++ [(q1, .inl (g.2.2.1 1, 60, .inl (fun _ => 0)))] ++ [(q2, .inl (g.2.2.1 0, 60, .inl (fun _ => 0)))] ++ [(q3, .inl (g.2.2.1 0, 60, .inl (fun _ => 0)))]) F iaX4 tyX4_ok nmX4 rfl rfl 6 (by decide) (ml_tb 199 (by decide +kernel) rfl) rfl rfl rfl rfl (by simp) rfl dX4_init_45 ?_
  refine cn_aload_n (q := 0) F dX4_init_48 rfl rfl ?_
  refine cn_bipush (v := 60) F dX4_init_49 (by decide) ?_
  refine cn_newa (t := 0) (N := 60) (ty := .int) F (ml_tb 87 (by decide +kernel) rfl) rfl rfl rfl (by decide) (by decide) (by decide) (by decide) (by decide) dX4_init_51 (fun q4 => ?_)
  refine cn_putF (p0 := 0) (ci := 8) (N := 9) (C := RX4) (T := TX4) (ty0 := tyX4) (L2 := [(h0, .inr (8, [.ref q1, .int 0, .int 0, .int 0, .int 0, .ref q2, .ref q3, .ref q4, .null]))] ++ [(q1, .inl (g.2.2.1 1, 60, .inl (fun _ => 0)))] ++ [(q2, .inl (g.2.2.1 0, 60, .inl (fun _ => 0)))] ++ [(q3, .inl (g.2.2.1 0, 60, .inl (fun _ => 0)))] ++ [(q4, .inl (g.2.2.1 0, 60, .inl (fun _ => 0)))]) F iaX4 tyX4_ok nmX4 rfl rfl 7 (by decide) (ml_tb 200 (by decide +kernel) rfl) rfl rfl rfl rfl (by simp) rfl dX4_init_53 ?_
  refine cn_aload_n (q := 0) F dX4_init_56 rfl rfl ?_
  refine cn_bipush (v := 60) F dX4_init_57 (by decide) ?_
  refine cn_newa (t := 0) (N := 60) (ty := .int) F (ml_tb 87 (by decide +kernel) rfl) rfl rfl rfl (by decide) (by decide) (by decide) (by decide) (by decide) dX4_init_59 (fun q5 => ?_)
  refine cn_putF (p0 := 0) (ci := 8) (N := 9) (C := RX4) (T := TX4) (ty0 := tyX4) (L2 := [(h0, .inr (8, [.ref q1, .int 0, .int 0, .int 0, .int 0, .ref q2, .ref q3, .ref q4, .ref q5]))] ++ [(q1, .inl (g.2.2.1 1, 60, .inl (fun _ => 0)))] ++ [(q2, .inl (g.2.2.1 0, 60, .inl (fun _ => 0)))] ++ [(q3, .inl (g.2.2.1 0, 60, .inl (fun _ => 0)))] ++ [(q4, .inl (g.2.2.1 0, 60, .inl (fun _ => 0)))] ++ [(q5, .inl (g.2.2.1 0, 60, .inl (fun _ => 0)))]) F iaX4 tyX4_ok nmX4 rfl rfl 8 (by decide) (ml_tb 201 (by decide +kernel) rfl) rfl rfl rfl rfl (by simp) rfl dX4_init_61 ?_
  exact cn_vret F (fun k => [h0, q1, q2, q3, q4, q5].getD k 0) rfl rfl (by decide) (by decide) dX4_init_64
set_option maxHeartbeats 4000000 in
set_option maxRecDepth 100000 in
theorem X2_init_k (g : ml_G) (h0 : Nat) : cn_C yX2_init cX2_init 1 2 14 92 g [.ref h0] h0 [(h0, .inr (6, [.null, .null, .null, .int 0]))] (cn_pFlight g) := by
  refine cn_of [(0, .ref h0)] (by decide) rfl (Nat.le_of_ble_eq_true rfl) rfl (fun E A F => ?_)
  refine cn_aload_n (q := 0) F dX2_init_0 rfl rfl ?_
  refine cn_obj F (ml_tb 43 (by decide +kernel) rfl) (ml_tb 36 (by decide +kernel) rfl) (ml_tb 37 (by decide +kernel) rfl) (by decide) dX2_init_1 ?_
  refine cn_aload_n (q := 0) F dX2_init_4 rfl rfl ?_
  refine cn_new (ci := 9) (N := 8) (C := RX5) (T := TX5) (fs := [.null, .null, .null, .int 0, .int 0, .int 0, .int 0, .int 0]) F tyX5 iaX5 tyX5_ok (ml_tb 44 (by decide +kernel) rfl) (ml_tb 45 (by decide +kernel) rfl) (ml_tb 3 (by decide +kernel) rfl) rfl (by decide) (by decide) (by decide) dX2_init_5 (fun q1 => ?_)
  refine cn_dup F dX2_init_8 rfl ?_
  refine cn_call (k := 1) (n := 8) (st := [.ref q1, .ref h0]) (z := 0) (mc2 := 3) (ms2 := 13) (lv2 := 1) (L0 := [(h0, .inr (6, [.null, .null, .null, .int 0]))]) (post := cn_pWater g) (av := []) F (X5_init_k g _) ⟨ml_tb 48 (by decide +kernel) rfl, ml_tb 3 (by decide +kernel) rfl, by decide⟩ (ml_tb 46 (by decide +kernel) rfl) ⟨by decide +kernel, by decide +kernel, by decide +kernel⟩ (by decide) (by decide) (by decide) rfl rfl (ml_tb 47 (by decide +kernel) rfl) rfl (Nat.le_of_ble_eq_true rfl) dX2_init_9 (fun f2 ef2 => ?_)
  subst ef2
  refine cn_putF (p0 := 0) (ci := 6) (N := 4) (C := RX2) (T := TX2) (ty0 := tyX2) (L2 := [(h0, .inr (6, [.ref (f2 0), .null, .null, .int 0]))] ++ cn_pWater g f2) F iaX2 tyX2_ok nmX2 rfl rfl 0 (by decide) (ml_tb 152 (by decide +kernel) rfl) rfl rfl rfl rfl (by simp) rfl dX2_init_12 ?_
  refine cn_aload_n (q := 0) F dX2_init_15 rfl rfl ?_
  refine cn_new (ci := 5) (N := 8) (C := RX1) (T := TX1) (fs := [.int 0, .int 0, .null, .null, .null, .null, .null, .null]) F tyX1 iaX1 tyX1_ok (ml_tb 89 (by decide +kernel) rfl) (ml_tb 90 (by decide +kernel) rfl) (ml_tb 4 (by decide +kernel) rfl) rfl (by decide) (by decide) (by decide) dX2_init_16 (fun q3 => ?_)
  refine cn_dup F dX2_init_19 rfl ?_
  refine cn_callN (k := 5) (n := 29) (st := [.ref q3, .ref h0]) (z := 0) (mc2 := 6) (ms2 := 43) (lv2 := 1) (L0 := [(h0, .inr (6, [.ref (f2 0), .null, .null, .int 0]))] ++ cn_pWater g f2) (post := cn_pFleet g) (av := []) F (X1_init_k g _) ⟨ml_tb 93 (by decide +kernel) rfl, ml_tb 4 (by decide +kernel) rfl, by decide⟩ (by decide) ⟨by decide +kernel, by decide +kernel, by decide +kernel⟩ (by decide) (by decide) (by decide) rfl rfl (ml_tb 92 (by decide +kernel) rfl) rfl (Nat.le_of_ble_eq_true rfl) dX2_init_20 (fun f4 ef4 => ?_)
  subst ef4
  refine cn_putF (p0 := 0) (ci := 6) (N := 4) (C := RX2) (T := TX2) (ty0 := tyX2) (L2 := [(h0, .inr (6, [.ref (f2 0), .ref (f4 0), .null, .int 0]))] ++ cn_pWater g f2 ++ cn_pFleet g f4) F iaX2 tyX2_ok nmX2 rfl rfl 1 (by decide) (ml_tb 154 (by decide +kernel) rfl) rfl rfl rfl rfl (by simp) rfl dX2_init_23 ?_
  refine cn_aload_n (q := 0) F dX2_init_26 rfl rfl ?_
  refine cn_new (ci := 4) (N := 4) (C := RX0) (T := TX0) (fs := [.null, .null, .int 0, .int 0]) F tyX0 iaX0 tyX0_ok (ml_tb 129 (by decide +kernel) rfl) (ml_tb 130 (by decide +kernel) rfl) (ml_tb 5 (by decide +kernel) rfl) rfl (by decide) (by decide) (by decide) dX2_init_27 (fun q5 => ?_)
  refine cn_dup F dX2_init_30 rfl ?_
  refine cn_callN (k := 12) (n := 76) (st := [.ref q5, .ref h0]) (z := 0) (mc2 := 2) (ms2 := 16) (lv2 := 1) (L0 := [(h0, .inr (6, [.ref (f2 0), .ref (f4 0), .null, .int 0]))] ++ cn_pWater g f2 ++ cn_pFleet g f4) (post := cn_pLog g) (av := []) F (X0_init_k g _) ⟨ml_tb 133 (by decide +kernel) rfl, ml_tb 5 (by decide +kernel) rfl, by decide⟩ (by decide) ⟨by decide +kernel, by decide +kernel, by decide +kernel⟩ (by decide) (by decide) (by decide) rfl rfl (ml_tb 132 (by decide +kernel) rfl) rfl (Nat.le_of_ble_eq_true rfl) dX2_init_31 (fun f6 ef6 => ?_)
  subst ef6
  refine cn_putF (p0 := 0) (ci := 6) (N := 4) (C := RX2) (T := TX2) (ty0 := tyX2) (L2 := [(h0, .inr (6, [.ref (f2 0), .ref (f4 0), .ref (f6 0), .int 0]))] ++ cn_pWater g f2 ++ cn_pFleet g f4 ++ cn_pLog g f6) F iaX2 tyX2_ok nmX2 rfl rfl 2 (by decide) (ml_tb 156 (by decide +kernel) rfl) rfl rfl rfl rfl (by simp) rfl dX2_init_34 ?_
  refine cn_aload_n (q := 0) F dX2_init_37 rfl rfl ?_
  refine cn_iconst (v := 0) F dX2_init_38 (by decide) ?_
  refine cn_put (p0 := 0) (ci := 6) (N := 4) (C := RX2) (T := TX2) (ty0 := tyX2) (L2 := [(h0, .inr (6, [.ref (f2 0), .ref (f4 0), .ref (f6 0), .int 0]))] ++ cn_pWater g f2 ++ cn_pFleet g f4 ++ cn_pLog g f6) F iaX2 tyX2_ok nmX2 rfl rfl 3 (by decide) (ml_tb 158 (by decide +kernel) rfl) rfl rfl rfl (by simp) rfl dX2_init_39 ?_
  exact cn_vret F (fun k => [h0, f2 0, f2 1, f2 2, f2 3, f4 0, f4 1, f4 2, f4 3, f4 4, f4 5, f4 6, f6 0, f6 1, f6 2].getD k 0) rfl rfl (by decide) (by decide) dX2_init_42
set_option maxHeartbeats 4000000 in
set_option maxRecDepth 100000 in
theorem J5_init_d00df_k (g : ml_G) (h0 : Nat) : cn_C yJ5_init_d00df cJ5_init_d00df 2 1 1 16 g [.ref h0, .int 16] h0 [(h0, .inr (1, [.null, .int 0, .int 0, .int 0]))] (cn_pSB g) := by
  refine cn_of [(0, .ref h0), (1, .int 16)] (by decide) rfl (Nat.le_of_ble_eq_true rfl) rfl (fun E A F => ?_)
  refine cn_aload_n (q := 0) F dJ5_init_d00df_0 rfl rfl ?_
  refine cn_obj F (ml_tb 229 (by decide +kernel) rfl) (ml_tb 36 (by decide +kernel) rfl) (ml_tb 37 (by decide +kernel) rfl) (by decide) dJ5_init_d00df_1 ?_
  refine cn_gcp F (ml_tb 230 (by decide +kernel) rfl) dJ5_init_d00df_4 ?_
  refine cn_ifeqF (tgt := 25) F dJ5_init_d00df_7 (by decide) (by decide) ?_
  refine cn_aload_n (q := 0) F dJ5_init_d00df_10 rfl rfl ?_
  refine cn_iload_n (q := 1) F dJ5_init_d00df_11 rfl rfl ?_
  refine cn_newa (t := 4) (N := 16) (ty := .byte) F (ml_tb 253 (by decide +kernel) rfl) rfl rfl rfl (by decide) (by decide) (by decide) (by decide) (by decide) dJ5_init_d00df_12 (fun q1 => ?_)
  refine cn_put (p0 := 0) (ci := 1) (N := 4) (C := RJ4) (T := TJ4) (ty0 := tyJ4) (L2 := [(h0, .inr (1, [.ref q1, .int 0, .int 0, .int 0]))] ++ [(q1, .inl (g.2.2.1 4, 16, .inl (fun _ => 0)))]) F iaJ4 tyJ4_ok nmJ4 rfl rfl 0 (by decide) (ml_tb 239 (by decide +kernel) rfl) rfl rfl rfl (by simp) rfl dJ5_init_d00df_14 ?_
  refine cn_aload_n (q := 0) F dJ5_init_d00df_17 rfl rfl ?_
  refine cn_iconst (v := 0) F dJ5_init_d00df_18 (by decide) ?_
  refine cn_put (p0 := 0) (ci := 1) (N := 4) (C := RJ4) (T := TJ4) (ty0 := tyJ4) (L2 := [(h0, .inr (1, [.ref q1, .int 0, .int 0, .int 0]))] ++ [(q1, .inl (g.2.2.1 4, 16, .inl (fun _ => 0)))]) F iaJ4 tyJ4_ok nmJ4 rfl rfl 1 (by decide) (ml_tb 240 (by decide +kernel) rfl) rfl rfl rfl (by simp) rfl dJ5_init_d00df_19 ?_
  refine cn_goto (tgt := 38) F dJ5_init_d00df_22 (by decide) ?_
  exact cn_vret F (fun k => [h0, q1].getD k 0) rfl rfl (by decide) (by decide) dJ5_init_d00df_38
set_option maxHeartbeats 4000000 in
set_option maxRecDepth 100000 in
theorem J4_init_da8c8_k (g : ml_G) (h0 : Nat) : cn_C yJ4_init_da8c8 cJ4_init_da8c8 1 2 1 16 g [.ref h0] h0 [(h0, .inr (1, [.null, .int 0, .int 0, .int 0]))] (cn_pSB g) := by
  refine cn_of [(0, .ref h0)] (by decide) rfl (Nat.le_of_ble_eq_true rfl) rfl (fun E A F => ?_)
  refine cn_aload_n (q := 0) F dJ4_init_da8c8_0 rfl rfl ?_
  refine cn_bipush (v := 16) F dJ4_init_da8c8_1 (by decide) ?_
  refine cn_call (k := 0) (n := 0) (st := []) (z := 1) (mc2 := 1) (ms2 := 16) (lv2 := 1) (L0 := []) (post := cn_pSB g) (av := [.int 16]) F (J5_init_d00df_k g _) ⟨ml_tb 228 (by decide +kernel) rfl, ml_tb 8 (by decide +kernel) rfl, by decide⟩ (ml_tb 226 (by decide +kernel) rfl) ⟨by decide +kernel, by decide +kernel, by decide +kernel⟩ (by decide) (by decide) (by decide) rfl rfl (ml_tb 227 (by decide +kernel) rfl) rfl (Nat.le_of_ble_eq_true rfl) dJ4_init_da8c8_3 (fun f1 ef1 => ?_)
  subst ef1
  exact cn_vret F (fun k => [f1 0, f1 1].getD k 0) rfl rfl (by decide) (by decide) dJ4_init_da8c8_6
set_option maxHeartbeats 4000000 in
set_option maxRecDepth 100000 in
theorem X3_init_k (g : ml_G) (h0 : Nat) : cn_C yX3_init cX3_init 2 3 121 776 g [.ref h0] h0 [(h0, .inr (7, [.null, .int 0, .int 0]))] (cn_pHist g) := by
  refine cn_of [(0, .ref h0)] (by decide) rfl (Nat.le_of_ble_eq_true rfl) rfl (fun E A F => ?_)
  refine cn_aload_n (q := 0) F dX3_init_0 rfl rfl ?_
  refine cn_obj F (ml_tb 173 (by decide +kernel) rfl) (ml_tb 36 (by decide +kernel) rfl) (ml_tb 37 (by decide +kernel) rfl) (by decide) dX3_init_1 ?_
  refine cn_aload_n (q := 0) F dX3_init_4 rfl rfl ?_
  refine cn_bipush (v := 8) F dX3_init_5 (by decide) ?_
  refine cn_newq (N := 8) F (ml_tb 174 (by decide +kernel) rfl) (by decide) (by decide) (by decide) (by decide) (by decide) dX3_init_7 (fun q1 => ?_)
  refine cn_putF (p0 := 0) (ci := 7) (N := 3) (C := RX3) (T := TX3) (ty0 := tyX3) (L2 := [(h0, .inr (7, [.ref q1, .int 0, .int 0]))] ++ [(q1, .inl (g.2.2.1 3, 8, .inr (.inr (.inr (.inr (fun _ => none))))))]) F iaX3 tyX3_ok nmX3 rfl rfl 0 (by decide) (ml_tb 177 (by decide +kernel) rfl) rfl rfl rfl rfl (by simp) rfl dX3_init_10 ?_
  refine cn_aload_n (q := 0) F dX3_init_13 rfl rfl ?_
  refine cn_iconst (v := 0) F dX3_init_14 (by decide) ?_
  refine cn_put (p0 := 0) (ci := 7) (N := 3) (C := RX3) (T := TX3) (ty0 := tyX3) (L2 := [(h0, .inr (7, [.ref q1, .int 0, .int 0]))] ++ [(q1, .inl (g.2.2.1 3, 8, .inr (.inr (.inr (.inr (fun _ => none))))))]) F iaX3 tyX3_ok nmX3 rfl rfl 1 (by decide) (ml_tb 178 (by decide +kernel) rfl) rfl rfl rfl (by simp) rfl dX3_init_15 ?_
  refine cn_aload_n (q := 0) F dX3_init_18 rfl rfl ?_
  refine cn_iconst (v := 0) F dX3_init_19 (by decide) ?_
  refine cn_put (p0 := 0) (ci := 7) (N := 3) (C := RX3) (T := TX3) (ty0 := tyX3) (L2 := [(h0, .inr (7, [.ref q1, .int 0, .int 0]))] ++ [(q1, .inl (g.2.2.1 3, 8, .inr (.inr (.inr (.inr (fun _ => none))))))]) F iaX3 tyX3_ok nmX3 rfl rfl 2 (by decide) (ml_tb 179 (by decide +kernel) rfl) rfl rfl rfl (by simp) rfl dX3_init_20 ?_
  refine cn_iconst (v := 0) F dX3_init_23 (by decide) ?_
  refine cn_istore_n (ls2 := [(1, .int 0), (0, .ref h0)]) F dX3_init_24 rfl (by decide) rfl ?_
  refine cn_iload_n (q := 0) F dX3_init_25 rfl rfl ?_
  refine cn_bipush (v := 8) F dX3_init_26 (by decide) ?_
  refine cn_geF (tgt := 50) F dX3_init_28 (by decide) (by decide) ?_
  refine cn_aload_n (q := 1) F dX3_init_31 rfl rfl ?_
  refine cn_get (p0 := 0) (ci := 7) (N := 3) (C := RX3) (T := TX3) F iaX3 rfl rfl 0 (by decide) (ml_tb 177 (by decide +kernel) rfl) rfl dX3_init_32 ?_
  refine cn_iload_n (q := 0) F dX3_init_35 rfl rfl ?_
  refine cn_new (ci := 6) (N := 4) (C := RX2) (T := TX2) (fs := [.null, .null, .null, .int 0]) F tyX2 iaX2 tyX2_ok (ml_tb 174 (by decide +kernel) rfl) (ml_tb 39 (by decide +kernel) rfl) (ml_tb 2 (by decide +kernel) rfl) rfl (by decide) (by decide) (by decide) dX3_init_36 (fun q2 => ?_)
  refine cn_dup F dX3_init_39 rfl ?_
  refine cn_callN (k := 2) (n := 12) (st := [.ref q2, .int 0, .ref q1]) (z := 0) (mc2 := 14) (ms2 := 92) (lv2 := 2) (L0 := [(h0, .inr (7, [.ref q1, .int 0, .int 0]))] ++ [(q1, .inl (g.2.2.1 3, 8, .inr (.inr (.inr (.inr (fun _ => none))))))]) (post := cn_pFlight g) (av := []) F (X2_init_k g _) ⟨ml_tb 42 (by decide +kernel) rfl, ml_tb 2 (by decide +kernel) rfl, by decide⟩ (by decide) ⟨by decide +kernel, by decide +kernel, by decide +kernel⟩ (by decide) (by decide) (by decide) rfl rfl (ml_tb 41 (by decide +kernel) rfl) rfl (Nat.le_of_ble_eq_true rfl) dX3_init_40 (fun f3 ef3 => ?_)
  subst ef3
  refine cn_aast (p0 := 1) (pv := 2) (j := 0) (L2 := [(h0, .inr (7, [.ref q1, .int 0, .int 0]))] ++ [(q1, .inl (g.2.2.1 3, 8, .inr (.inr (.inr (.inr (va_up (fun _ => none) 0 (some (f3 0))))))))] ++ cn_pFlight g f3) F rfl rfl (by decide) (by decide) (by decide) rfl dX3_init_43 ?_
  refine cn_iinc (q := 0) (v := 1) (ls2 := [(1, .int 1), (0, .ref h0)]) F dX3_init_44 rfl (by decide) (by decide) rfl ?_
  refine cn_goto (tgt := 25) F dX3_init_47 (by decide) ?_
  refine cn_iload_n (q := 0) F dX3_init_25 rfl rfl ?_
  refine cn_bipush (v := 8) F dX3_init_26 (by decide) ?_
  refine cn_geF (tgt := 50) F dX3_init_28 (by decide) (by decide) ?_
  refine cn_aload_n (q := 1) F dX3_init_31 rfl rfl ?_
  refine cn_get (p0 := 0) (ci := 7) (N := 3) (C := RX3) (T := TX3) F iaX3 rfl rfl 0 (by decide) (ml_tb 177 (by decide +kernel) rfl) rfl dX3_init_32 ?_
  refine cn_iload_n (q := 0) F dX3_init_35 rfl rfl ?_
  refine cn_new (ci := 6) (N := 4) (C := RX2) (T := TX2) (fs := [.null, .null, .null, .int 0]) F tyX2 iaX2 tyX2_ok (ml_tb 174 (by decide +kernel) rfl) (ml_tb 39 (by decide +kernel) rfl) (ml_tb 2 (by decide +kernel) rfl) rfl (by decide) (by decide) (by decide) dX3_init_36 (fun q4 => ?_)
  refine cn_dup F dX3_init_39 rfl ?_
  refine cn_callN (k := 17) (n := 108) (st := [.ref q4, .int 1, .ref q1]) (z := 0) (mc2 := 14) (ms2 := 92) (lv2 := 2) (L0 := [(h0, .inr (7, [.ref q1, .int 0, .int 0]))] ++ [(q1, .inl (g.2.2.1 3, 8, .inr (.inr (.inr (.inr (va_up (fun _ => none) 0 (some (f3 0))))))))] ++ cn_pFlight g f3) (post := cn_pFlight g) (av := []) F (X2_init_k g _) ⟨ml_tb 42 (by decide +kernel) rfl, ml_tb 2 (by decide +kernel) rfl, by decide⟩ (by decide) ⟨by decide +kernel, by decide +kernel, by decide +kernel⟩ (by decide) (by decide) (by decide) rfl rfl (ml_tb 41 (by decide +kernel) rfl) rfl (Nat.le_of_ble_eq_true rfl) dX3_init_40 (fun f5 ef5 => ?_)
  subst ef5
  refine cn_aast (p0 := 1) (pv := 17) (j := 1) (L2 := [(h0, .inr (7, [.ref q1, .int 0, .int 0]))] ++ [(q1, .inl (g.2.2.1 3, 8, .inr (.inr (.inr (.inr (va_up (va_up (fun _ => none) 0 (some (f3 0))) 1 (some (f5 0))))))))] ++ cn_pFlight g f3 ++ cn_pFlight g f5) F rfl rfl (by decide) (by decide) (by decide) rfl dX3_init_43 ?_
  refine cn_iinc (q := 0) (v := 2) (ls2 := [(1, .int 2), (0, .ref h0)]) F dX3_init_44 rfl (by decide) (by decide) rfl ?_
  refine cn_goto (tgt := 25) F dX3_init_47 (by decide) ?_
  refine cn_iload_n (q := 0) F dX3_init_25 rfl rfl ?_
  refine cn_bipush (v := 8) F dX3_init_26 (by decide) ?_
  refine cn_geF (tgt := 50) F dX3_init_28 (by decide) (by decide) ?_
  refine cn_aload_n (q := 1) F dX3_init_31 rfl rfl ?_
  refine cn_get (p0 := 0) (ci := 7) (N := 3) (C := RX3) (T := TX3) F iaX3 rfl rfl 0 (by decide) (ml_tb 177 (by decide +kernel) rfl) rfl dX3_init_32 ?_
  refine cn_iload_n (q := 0) F dX3_init_35 rfl rfl ?_
  refine cn_new (ci := 6) (N := 4) (C := RX2) (T := TX2) (fs := [.null, .null, .null, .int 0]) F tyX2 iaX2 tyX2_ok (ml_tb 174 (by decide +kernel) rfl) (ml_tb 39 (by decide +kernel) rfl) (ml_tb 2 (by decide +kernel) rfl) rfl (by decide) (by decide) (by decide) dX3_init_36 (fun q6 => ?_)
  refine cn_dup F dX3_init_39 rfl ?_
  refine cn_callN (k := 32) (n := 204) (st := [.ref q6, .int 2, .ref q1]) (z := 0) (mc2 := 14) (ms2 := 92) (lv2 := 2) (L0 := [(h0, .inr (7, [.ref q1, .int 0, .int 0]))] ++ [(q1, .inl (g.2.2.1 3, 8, .inr (.inr (.inr (.inr (va_up (va_up (fun _ => none) 0 (some (f3 0))) 1 (some (f5 0))))))))] ++ cn_pFlight g f3 ++ cn_pFlight g f5) (post := cn_pFlight g) (av := []) F (X2_init_k g _) ⟨ml_tb 42 (by decide +kernel) rfl, ml_tb 2 (by decide +kernel) rfl, by decide⟩ (by decide) ⟨by decide +kernel, by decide +kernel, by decide +kernel⟩ (by decide) (by decide) (by decide) rfl rfl (ml_tb 41 (by decide +kernel) rfl) rfl (Nat.le_of_ble_eq_true rfl) dX3_init_40 (fun f7 ef7 => ?_)
  subst ef7
  refine cn_aast (p0 := 1) (pv := 32) (j := 2) (L2 := [(h0, .inr (7, [.ref q1, .int 0, .int 0]))] ++ [(q1, .inl (g.2.2.1 3, 8, .inr (.inr (.inr (.inr (va_up (va_up (va_up (fun _ => none) 0 (some (f3 0))) 1 (some (f5 0))) 2 (some (f7 0))))))))] ++ cn_pFlight g f3 ++ cn_pFlight g f5 ++ cn_pFlight g f7) F rfl rfl (by decide) (by decide) (by decide) rfl dX3_init_43 ?_
  refine cn_iinc (q := 0) (v := 3) (ls2 := [(1, .int 3), (0, .ref h0)]) F dX3_init_44 rfl (by decide) (by decide) rfl ?_
  refine cn_goto (tgt := 25) F dX3_init_47 (by decide) ?_
  refine cn_iload_n (q := 0) F dX3_init_25 rfl rfl ?_
  refine cn_bipush (v := 8) F dX3_init_26 (by decide) ?_
  refine cn_geF (tgt := 50) F dX3_init_28 (by decide) (by decide) ?_
  refine cn_aload_n (q := 1) F dX3_init_31 rfl rfl ?_
  refine cn_get (p0 := 0) (ci := 7) (N := 3) (C := RX3) (T := TX3) F iaX3 rfl rfl 0 (by decide) (ml_tb 177 (by decide +kernel) rfl) rfl dX3_init_32 ?_
  refine cn_iload_n (q := 0) F dX3_init_35 rfl rfl ?_
  refine cn_new (ci := 6) (N := 4) (C := RX2) (T := TX2) (fs := [.null, .null, .null, .int 0]) F tyX2 iaX2 tyX2_ok (ml_tb 174 (by decide +kernel) rfl) (ml_tb 39 (by decide +kernel) rfl) (ml_tb 2 (by decide +kernel) rfl) rfl (by decide) (by decide) (by decide) dX3_init_36 (fun q8 => ?_)
  refine cn_dup F dX3_init_39 rfl ?_
  refine cn_callN (k := 47) (n := 300) (st := [.ref q8, .int 3, .ref q1]) (z := 0) (mc2 := 14) (ms2 := 92) (lv2 := 2) (L0 := [(h0, .inr (7, [.ref q1, .int 0, .int 0]))] ++ [(q1, .inl (g.2.2.1 3, 8, .inr (.inr (.inr (.inr (va_up (va_up (va_up (fun _ => none) 0 (some (f3 0))) 1 (some (f5 0))) 2 (some (f7 0))))))))] ++ cn_pFlight g f3 ++ cn_pFlight g f5 ++ cn_pFlight g f7) (post := cn_pFlight g) (av := []) F (X2_init_k g _) ⟨ml_tb 42 (by decide +kernel) rfl, ml_tb 2 (by decide +kernel) rfl, by decide⟩ (by decide) ⟨by decide +kernel, by decide +kernel, by decide +kernel⟩ (by decide) (by decide) (by decide) rfl rfl (ml_tb 41 (by decide +kernel) rfl) rfl (Nat.le_of_ble_eq_true rfl) dX3_init_40 (fun f9 ef9 => ?_)
  subst ef9
  refine cn_aast (p0 := 1) (pv := 47) (j := 3) (L2 := [(h0, .inr (7, [.ref q1, .int 0, .int 0]))] ++ [(q1, .inl (g.2.2.1 3, 8, .inr (.inr (.inr (.inr (va_up (va_up (va_up (va_up (fun _ => none) 0 (some (f3 0))) 1 (some (f5 0))) 2 (some (f7 0))) 3 (some (f9 0))))))))] ++ cn_pFlight g f3 ++ cn_pFlight g f5 ++ cn_pFlight g f7 ++ cn_pFlight g f9) F rfl rfl (by decide) (by decide) (by decide) rfl dX3_init_43 ?_
  refine cn_iinc (q := 0) (v := 4) (ls2 := [(1, .int 4), (0, .ref h0)]) F dX3_init_44 rfl (by decide) (by decide) rfl ?_
  refine cn_goto (tgt := 25) F dX3_init_47 (by decide) ?_
  refine cn_iload_n (q := 0) F dX3_init_25 rfl rfl ?_
  refine cn_bipush (v := 8) F dX3_init_26 (by decide) ?_
  refine cn_geF (tgt := 50) F dX3_init_28 (by decide) (by decide) ?_
  refine cn_aload_n (q := 1) F dX3_init_31 rfl rfl ?_
  refine cn_get (p0 := 0) (ci := 7) (N := 3) (C := RX3) (T := TX3) F iaX3 rfl rfl 0 (by decide) (ml_tb 177 (by decide +kernel) rfl) rfl dX3_init_32 ?_
  refine cn_iload_n (q := 0) F dX3_init_35 rfl rfl ?_
  refine cn_new (ci := 6) (N := 4) (C := RX2) (T := TX2) (fs := [.null, .null, .null, .int 0]) F tyX2 iaX2 tyX2_ok (ml_tb 174 (by decide +kernel) rfl) (ml_tb 39 (by decide +kernel) rfl) (ml_tb 2 (by decide +kernel) rfl) rfl (by decide) (by decide) (by decide) dX3_init_36 (fun q10 => ?_)
  refine cn_dup F dX3_init_39 rfl ?_
  refine cn_callN (k := 62) (n := 396) (st := [.ref q10, .int 4, .ref q1]) (z := 0) (mc2 := 14) (ms2 := 92) (lv2 := 2) (L0 := [(h0, .inr (7, [.ref q1, .int 0, .int 0]))] ++ [(q1, .inl (g.2.2.1 3, 8, .inr (.inr (.inr (.inr (va_up (va_up (va_up (va_up (fun _ => none) 0 (some (f3 0))) 1 (some (f5 0))) 2 (some (f7 0))) 3 (some (f9 0))))))))] ++ cn_pFlight g f3 ++ cn_pFlight g f5 ++ cn_pFlight g f7 ++ cn_pFlight g f9) (post := cn_pFlight g) (av := []) F (X2_init_k g _) ⟨ml_tb 42 (by decide +kernel) rfl, ml_tb 2 (by decide +kernel) rfl, by decide⟩ (by decide) ⟨by decide +kernel, by decide +kernel, by decide +kernel⟩ (by decide) (by decide) (by decide) rfl rfl (ml_tb 41 (by decide +kernel) rfl) rfl (Nat.le_of_ble_eq_true rfl) dX3_init_40 (fun f11 ef11 => ?_)
  subst ef11
  refine cn_aast (p0 := 1) (pv := 62) (j := 4) (L2 := [(h0, .inr (7, [.ref q1, .int 0, .int 0]))] ++ [(q1, .inl (g.2.2.1 3, 8, .inr (.inr (.inr (.inr (va_up (va_up (va_up (va_up (va_up (fun _ => none) 0 (some (f3 0))) 1 (some (f5 0))) 2 (some (f7 0))) 3 (some (f9 0))) 4 (some (f11 0))))))))] ++ cn_pFlight g f3 ++ cn_pFlight g f5 ++ cn_pFlight g f7 ++ cn_pFlight g f9 ++ cn_pFlight g f11) F rfl rfl (by decide) (by decide) (by decide) rfl dX3_init_43 ?_
  refine cn_iinc (q := 0) (v := 5) (ls2 := [(1, .int 5), (0, .ref h0)]) F dX3_init_44 rfl (by decide) (by decide) rfl ?_
  refine cn_goto (tgt := 25) F dX3_init_47 (by decide) ?_
  refine cn_iload_n (q := 0) F dX3_init_25 rfl rfl ?_
  refine cn_bipush (v := 8) F dX3_init_26 (by decide) ?_
  refine cn_geF (tgt := 50) F dX3_init_28 (by decide) (by decide) ?_
  refine cn_aload_n (q := 1) F dX3_init_31 rfl rfl ?_
  refine cn_get (p0 := 0) (ci := 7) (N := 3) (C := RX3) (T := TX3) F iaX3 rfl rfl 0 (by decide) (ml_tb 177 (by decide +kernel) rfl) rfl dX3_init_32 ?_
  refine cn_iload_n (q := 0) F dX3_init_35 rfl rfl ?_
  refine cn_new (ci := 6) (N := 4) (C := RX2) (T := TX2) (fs := [.null, .null, .null, .int 0]) F tyX2 iaX2 tyX2_ok (ml_tb 174 (by decide +kernel) rfl) (ml_tb 39 (by decide +kernel) rfl) (ml_tb 2 (by decide +kernel) rfl) rfl (by decide) (by decide) (by decide) dX3_init_36 (fun q12 => ?_)
  refine cn_dup F dX3_init_39 rfl ?_
  refine cn_callN (k := 77) (n := 492) (st := [.ref q12, .int 5, .ref q1]) (z := 0) (mc2 := 14) (ms2 := 92) (lv2 := 2) (L0 := [(h0, .inr (7, [.ref q1, .int 0, .int 0]))] ++ [(q1, .inl (g.2.2.1 3, 8, .inr (.inr (.inr (.inr (va_up (va_up (va_up (va_up (va_up (fun _ => none) 0 (some (f3 0))) 1 (some (f5 0))) 2 (some (f7 0))) 3 (some (f9 0))) 4 (some (f11 0))))))))] ++ cn_pFlight g f3 ++ cn_pFlight g f5 ++ cn_pFlight g f7 ++ cn_pFlight g f9 ++ cn_pFlight g f11) (post := cn_pFlight g) (av := []) F (X2_init_k g _) ⟨ml_tb 42 (by decide +kernel) rfl, ml_tb 2 (by decide +kernel) rfl, by decide⟩ (by decide) ⟨by decide +kernel, by decide +kernel, by decide +kernel⟩ (by decide) (by decide) (by decide) rfl rfl (ml_tb 41 (by decide +kernel) rfl) rfl (Nat.le_of_ble_eq_true rfl) dX3_init_40 (fun f13 ef13 => ?_)
  subst ef13
  refine cn_aast (p0 := 1) (pv := 77) (j := 5) (L2 := [(h0, .inr (7, [.ref q1, .int 0, .int 0]))] ++ [(q1, .inl (g.2.2.1 3, 8, .inr (.inr (.inr (.inr (va_up (va_up (va_up (va_up (va_up (va_up (fun _ => none) 0 (some (f3 0))) 1 (some (f5 0))) 2 (some (f7 0))) 3 (some (f9 0))) 4 (some (f11 0))) 5 (some (f13 0))))))))] ++ cn_pFlight g f3 ++ cn_pFlight g f5 ++ cn_pFlight g f7 ++ cn_pFlight g f9 ++ cn_pFlight g f11 ++ cn_pFlight g f13) F rfl rfl (by decide) (by decide) (by decide) rfl dX3_init_43 ?_
  refine cn_iinc (q := 0) (v := 6) (ls2 := [(1, .int 6), (0, .ref h0)]) F dX3_init_44 rfl (by decide) (by decide) rfl ?_
  refine cn_goto (tgt := 25) F dX3_init_47 (by decide) ?_
  refine cn_iload_n (q := 0) F dX3_init_25 rfl rfl ?_
  refine cn_bipush (v := 8) F dX3_init_26 (by decide) ?_
  refine cn_geF (tgt := 50) F dX3_init_28 (by decide) (by decide) ?_
  refine cn_aload_n (q := 1) F dX3_init_31 rfl rfl ?_
  refine cn_get (p0 := 0) (ci := 7) (N := 3) (C := RX3) (T := TX3) F iaX3 rfl rfl 0 (by decide) (ml_tb 177 (by decide +kernel) rfl) rfl dX3_init_32 ?_
  refine cn_iload_n (q := 0) F dX3_init_35 rfl rfl ?_
  refine cn_new (ci := 6) (N := 4) (C := RX2) (T := TX2) (fs := [.null, .null, .null, .int 0]) F tyX2 iaX2 tyX2_ok (ml_tb 174 (by decide +kernel) rfl) (ml_tb 39 (by decide +kernel) rfl) (ml_tb 2 (by decide +kernel) rfl) rfl (by decide) (by decide) (by decide) dX3_init_36 (fun q14 => ?_)
  refine cn_dup F dX3_init_39 rfl ?_
  refine cn_callN (k := 92) (n := 588) (st := [.ref q14, .int 6, .ref q1]) (z := 0) (mc2 := 14) (ms2 := 92) (lv2 := 2) (L0 := [(h0, .inr (7, [.ref q1, .int 0, .int 0]))] ++ [(q1, .inl (g.2.2.1 3, 8, .inr (.inr (.inr (.inr (va_up (va_up (va_up (va_up (va_up (va_up (fun _ => none) 0 (some (f3 0))) 1 (some (f5 0))) 2 (some (f7 0))) 3 (some (f9 0))) 4 (some (f11 0))) 5 (some (f13 0))))))))] ++ cn_pFlight g f3 ++ cn_pFlight g f5 ++ cn_pFlight g f7 ++ cn_pFlight g f9 ++ cn_pFlight g f11 ++ cn_pFlight g f13) (post := cn_pFlight g) (av := []) F (X2_init_k g _) ⟨ml_tb 42 (by decide +kernel) rfl, ml_tb 2 (by decide +kernel) rfl, by decide⟩ (by decide) ⟨by decide +kernel, by decide +kernel, by decide +kernel⟩ (by decide) (by decide) (by decide) rfl rfl (ml_tb 41 (by decide +kernel) rfl) rfl (Nat.le_of_ble_eq_true rfl) dX3_init_40 (fun f15 ef15 => ?_)
  subst ef15
  refine cn_aast (p0 := 1) (pv := 92) (j := 6) (L2 := [(h0, .inr (7, [.ref q1, .int 0, .int 0]))] ++ [(q1, .inl (g.2.2.1 3, 8, .inr (.inr (.inr (.inr (va_up (va_up (va_up (va_up (va_up (va_up (va_up (fun _ => none) 0 (some (f3 0))) 1 (some (f5 0))) 2 (some (f7 0))) 3 (some (f9 0))) 4 (some (f11 0))) 5 (some (f13 0))) 6 (some (f15 0))))))))] ++ cn_pFlight g f3 ++ cn_pFlight g f5 ++ cn_pFlight g f7 ++ cn_pFlight g f9 ++ cn_pFlight g f11 ++ cn_pFlight g f13 ++ cn_pFlight g f15) F rfl rfl (by decide) (by decide) (by decide) rfl dX3_init_43 ?_
  refine cn_iinc (q := 0) (v := 7) (ls2 := [(1, .int 7), (0, .ref h0)]) F dX3_init_44 rfl (by decide) (by decide) rfl ?_
  refine cn_goto (tgt := 25) F dX3_init_47 (by decide) ?_
  refine cn_iload_n (q := 0) F dX3_init_25 rfl rfl ?_
  refine cn_bipush (v := 8) F dX3_init_26 (by decide) ?_
  refine cn_geF (tgt := 50) F dX3_init_28 (by decide) (by decide) ?_
  refine cn_aload_n (q := 1) F dX3_init_31 rfl rfl ?_
  refine cn_get (p0 := 0) (ci := 7) (N := 3) (C := RX3) (T := TX3) F iaX3 rfl rfl 0 (by decide) (ml_tb 177 (by decide +kernel) rfl) rfl dX3_init_32 ?_
  refine cn_iload_n (q := 0) F dX3_init_35 rfl rfl ?_
  refine cn_new (ci := 6) (N := 4) (C := RX2) (T := TX2) (fs := [.null, .null, .null, .int 0]) F tyX2 iaX2 tyX2_ok (ml_tb 174 (by decide +kernel) rfl) (ml_tb 39 (by decide +kernel) rfl) (ml_tb 2 (by decide +kernel) rfl) rfl (by decide) (by decide) (by decide) dX3_init_36 (fun q16 => ?_)
  refine cn_dup F dX3_init_39 rfl ?_
  refine cn_callN (k := 107) (n := 684) (st := [.ref q16, .int 7, .ref q1]) (z := 0) (mc2 := 14) (ms2 := 92) (lv2 := 2) (L0 := [(h0, .inr (7, [.ref q1, .int 0, .int 0]))] ++ [(q1, .inl (g.2.2.1 3, 8, .inr (.inr (.inr (.inr (va_up (va_up (va_up (va_up (va_up (va_up (va_up (fun _ => none) 0 (some (f3 0))) 1 (some (f5 0))) 2 (some (f7 0))) 3 (some (f9 0))) 4 (some (f11 0))) 5 (some (f13 0))) 6 (some (f15 0))))))))] ++ cn_pFlight g f3 ++ cn_pFlight g f5 ++ cn_pFlight g f7 ++ cn_pFlight g f9 ++ cn_pFlight g f11 ++ cn_pFlight g f13 ++ cn_pFlight g f15) (post := cn_pFlight g) (av := []) F (X2_init_k g _) ⟨ml_tb 42 (by decide +kernel) rfl, ml_tb 2 (by decide +kernel) rfl, by decide⟩ (by decide) ⟨by decide +kernel, by decide +kernel, by decide +kernel⟩ (by decide) (by decide) (by decide) rfl rfl (ml_tb 41 (by decide +kernel) rfl) rfl (Nat.le_of_ble_eq_true rfl) dX3_init_40 (fun f17 ef17 => ?_)
  subst ef17
  refine cn_aast (p0 := 1) (pv := 107) (j := 7) (L2 := [(h0, .inr (7, [.ref q1, .int 0, .int 0]))] ++ [(q1, .inl (g.2.2.1 3, 8, .inr (.inr (.inr (.inr (va_up (va_up (va_up (va_up (va_up (va_up (va_up (va_up (fun _ => none) 0 (some (f3 0))) 1 (some (f5 0))) 2 (some (f7 0))) 3 (some (f9 0))) 4 (some (f11 0))) 5 (some (f13 0))) 6 (some (f15 0))) 7 (some (f17 0))))))))] ++ cn_pFlight g f3 ++ cn_pFlight g f5 ++ cn_pFlight g f7 ++ cn_pFlight g f9 ++ cn_pFlight g f11 ++ cn_pFlight g f13 ++ cn_pFlight g f15 ++ cn_pFlight g f17) F rfl rfl (by decide) (by decide) (by decide) rfl dX3_init_43 ?_
  refine cn_iinc (q := 0) (v := 8) (ls2 := [(1, .int 8), (0, .ref h0)]) F dX3_init_44 rfl (by decide) (by decide) rfl ?_
  refine cn_goto (tgt := 25) F dX3_init_47 (by decide) ?_
  refine cn_iload_n (q := 0) F dX3_init_25 rfl rfl ?_
  refine cn_bipush (v := 8) F dX3_init_26 (by decide) ?_
  refine cn_geT (tgt := 50) F dX3_init_28 (by decide) (by decide) ?_
  refine cn_cast (L2 := [(h0, .inr (7, [.ref q1, .int 0, .int 0]))] ++ [(q1, .inl (g.2.2.1 3, 8, .inr (.inr (.inr (.inr (fun i => some ([f3 0, f5 0, f7 0, f9 0, f11 0, f13 0, f15 0, f17 0].getD i 0)))))))] ++ cn_pFlight g f3 ++ cn_pFlight g f5 ++ cn_pFlight g f7 ++ cn_pFlight g f9 ++ cn_pFlight g f11 ++ cn_pFlight g f13 ++ cn_pFlight g f15 ++ cn_pFlight g f17) (fun H h => cn_arr (fun i hi => ?_) h) (fun h => cn_arrD h) ?_
  · rcases (show i = 0 ∨ i = 1 ∨ i = 2 ∨ i = 3 ∨ i = 4 ∨ i = 5 ∨ i = 6 ∨ i = 7 by omega) with rfl | rfl | rfl | rfl | rfl | rfl | rfl | rfl <;> rfl
  exact cn_vret F (fun k => [h0, q1, f3 0, f3 1, f3 2, f3 3, f3 4, f3 5, f3 6, f3 7, f3 8, f3 9, f3 10, f3 11, f3 12, f3 13, f3 14, f5 0, f5 1, f5 2, f5 3, f5 4, f5 5, f5 6, f5 7, f5 8, f5 9, f5 10, f5 11, f5 12, f5 13, f5 14, f7 0, f7 1, f7 2, f7 3, f7 4, f7 5, f7 6, f7 7, f7 8, f7 9, f7 10, f7 11, f7 12, f7 13, f7 14, f9 0, f9 1, f9 2, f9 3, f9 4, f9 5, f9 6, f9 7, f9 8, f9 9, f9 10, f9 11, f9 12, f9 13, f9 14, f11 0, f11 1, f11 2, f11 3, f11 4, f11 5, f11 6, f11 7, f11 8, f11 9, f11 10, f11 11, f11 12, f11 13, f11 14, f13 0, f13 1, f13 2, f13 3, f13 4, f13 5, f13 6, f13 7, f13 8, f13 9, f13 10, f13 11, f13 12, f13 13, f13 14, f15 0, f15 1, f15 2, f15 3, f15 4, f15 5, f15 6, f15 7, f15 8, f15 9, f15 10, f15 11, f15 12, f15 13, f15 14, f17 0, f17 1, f17 2, f17 3, f17 4, f17 5, f17 6, f17 7, f17 8, f17 9, f17 10, f17 11, f17 12, f17 13, f17 14].getD k 0) rfl rfl (by decide) (by decide) dX3_init_50
set_option maxHeartbeats 4000000 in
set_option maxRecDepth 100000 in
theorem X6_init_k (g : ml_G) (h0 : Nat) : cn_C yX6_init cX6_init 1 4 175 1396 g [.ref h0] h0 [(h0, .inr (10, [.null, .null, .null, .int 0, .null, .null, .null, .int 0, .int 0]))] (cn_pCL g) := by
  refine cn_of [(0, .ref h0)] (by decide) rfl (Nat.le_of_ble_eq_true rfl) rfl (fun E A F => ?_)
  refine cn_aload_n (q := 0) F dX6_init_0 rfl rfl ?_
  refine cn_obj F (ml_tb 35 (by decide +kernel) rfl) (ml_tb 36 (by decide +kernel) rfl) (ml_tb 37 (by decide +kernel) rfl) (by decide) dX6_init_1 ?_
  refine cn_aload_n (q := 0) F dX6_init_4 rfl rfl ?_
  refine cn_new (ci := 6) (N := 4) (C := RX2) (T := TX2) (fs := [.null, .null, .null, .int 0]) F tyX2 iaX2 tyX2_ok (ml_tb 38 (by decide +kernel) rfl) (ml_tb 39 (by decide +kernel) rfl) (ml_tb 2 (by decide +kernel) rfl) rfl (by decide) (by decide) (by decide) dX6_init_5 (fun q1 => ?_)
  refine cn_dup F dX6_init_8 rfl ?_
  refine cn_callN (k := 1) (n := 4) (st := [.ref q1, .ref h0]) (z := 0) (mc2 := 14) (ms2 := 92) (lv2 := 2) (L0 := [(h0, .inr (10, [.null, .null, .null, .int 0, .null, .null, .null, .int 0, .int 0]))]) (post := cn_pFlight g) (av := []) F (X2_init_k g _) ⟨ml_tb 42 (by decide +kernel) rfl, ml_tb 2 (by decide +kernel) rfl, by decide⟩ (by decide) ⟨by decide +kernel, by decide +kernel, by decide +kernel⟩ (by decide) (by decide) (by decide) rfl rfl (ml_tb 41 (by decide +kernel) rfl) rfl (Nat.le_of_ble_eq_true rfl) dX6_init_9 (fun f2 ef2 => ?_)
  subst ef2
  refine cn_putF (p0 := 0) (ci := 10) (N := 9) (C := RX6) (T := TX6) (ty0 := tyX6) (L2 := [(h0, .inr (10, [.ref (f2 0), .null, .null, .int 0, .null, .null, .null, .int 0, .int 0]))] ++ cn_pFlight g f2) F iaX6 tyX6_ok nmX6 rfl rfl 0 (by decide) (ml_tb 254 (by decide +kernel) rfl) rfl rfl rfl rfl (by simp) rfl dX6_init_12 ?_
  refine cn_aload_n (q := 0) F dX6_init_15 rfl rfl ?_
  refine cn_new (ci := 6) (N := 4) (C := RX2) (T := TX2) (fs := [.null, .null, .null, .int 0]) F tyX2 iaX2 tyX2_ok (ml_tb 38 (by decide +kernel) rfl) (ml_tb 39 (by decide +kernel) rfl) (ml_tb 2 (by decide +kernel) rfl) rfl (by decide) (by decide) (by decide) dX6_init_16 (fun q3 => ?_)
  refine cn_dup F dX6_init_19 rfl ?_
  refine cn_callN (k := 16) (n := 100) (st := [.ref q3, .ref h0]) (z := 0) (mc2 := 14) (ms2 := 92) (lv2 := 2) (L0 := [(h0, .inr (10, [.ref (f2 0), .null, .null, .int 0, .null, .null, .null, .int 0, .int 0]))] ++ cn_pFlight g f2) (post := cn_pFlight g) (av := []) F (X2_init_k g _) ⟨ml_tb 42 (by decide +kernel) rfl, ml_tb 2 (by decide +kernel) rfl, by decide⟩ (by decide) ⟨by decide +kernel, by decide +kernel, by decide +kernel⟩ (by decide) (by decide) (by decide) rfl rfl (ml_tb 41 (by decide +kernel) rfl) rfl (Nat.le_of_ble_eq_true rfl) dX6_init_20 (fun f4 ef4 => ?_)
  subst ef4
  refine cn_putF (p0 := 0) (ci := 10) (N := 9) (C := RX6) (T := TX6) (ty0 := tyX6) (L2 := [(h0, .inr (10, [.ref (f2 0), .ref (f4 0), .null, .int 0, .null, .null, .null, .int 0, .int 0]))] ++ cn_pFlight g f2 ++ cn_pFlight g f4) F iaX6 tyX6_ok nmX6 rfl rfl 1 (by decide) (ml_tb 255 (by decide +kernel) rfl) rfl rfl rfl rfl (by simp) rfl dX6_init_23 ?_
  refine cn_aload_n (q := 0) F dX6_init_26 rfl rfl ?_
  refine cn_new (ci := 6) (N := 4) (C := RX2) (T := TX2) (fs := [.null, .null, .null, .int 0]) F tyX2 iaX2 tyX2_ok (ml_tb 38 (by decide +kernel) rfl) (ml_tb 39 (by decide +kernel) rfl) (ml_tb 2 (by decide +kernel) rfl) rfl (by decide) (by decide) (by decide) dX6_init_27 (fun q5 => ?_)
  refine cn_dup F dX6_init_30 rfl ?_
  refine cn_callN (k := 31) (n := 196) (st := [.ref q5, .ref h0]) (z := 0) (mc2 := 14) (ms2 := 92) (lv2 := 2) (L0 := [(h0, .inr (10, [.ref (f2 0), .ref (f4 0), .null, .int 0, .null, .null, .null, .int 0, .int 0]))] ++ cn_pFlight g f2 ++ cn_pFlight g f4) (post := cn_pFlight g) (av := []) F (X2_init_k g _) ⟨ml_tb 42 (by decide +kernel) rfl, ml_tb 2 (by decide +kernel) rfl, by decide⟩ (by decide) ⟨by decide +kernel, by decide +kernel, by decide +kernel⟩ (by decide) (by decide) (by decide) rfl rfl (ml_tb 41 (by decide +kernel) rfl) rfl (Nat.le_of_ble_eq_true rfl) dX6_init_31 (fun f6 ef6 => ?_)
  subst ef6
  refine cn_putF (p0 := 0) (ci := 10) (N := 9) (C := RX6) (T := TX6) (ty0 := tyX6) (L2 := [(h0, .inr (10, [.ref (f2 0), .ref (f4 0), .ref (f6 0), .int 0, .null, .null, .null, .int 0, .int 0]))] ++ cn_pFlight g f2 ++ cn_pFlight g f4 ++ cn_pFlight g f6) F iaX6 tyX6_ok nmX6 rfl rfl 2 (by decide) (ml_tb 256 (by decide +kernel) rfl) rfl rfl rfl rfl (by simp) rfl dX6_init_34 ?_
  refine cn_aload_n (q := 0) F dX6_init_37 rfl rfl ?_
  refine cn_iconst (v := 0) F dX6_init_38 (by decide) ?_
  refine cn_put (p0 := 0) (ci := 10) (N := 9) (C := RX6) (T := TX6) (ty0 := tyX6) (L2 := [(h0, .inr (10, [.ref (f2 0), .ref (f4 0), .ref (f6 0), .int 0, .null, .null, .null, .int 0, .int 0]))] ++ cn_pFlight g f2 ++ cn_pFlight g f4 ++ cn_pFlight g f6) F iaX6 tyX6_ok nmX6 rfl rfl 3 (by decide) (ml_tb 257 (by decide +kernel) rfl) rfl rfl rfl (by simp) rfl dX6_init_39 ?_
  refine cn_aload_n (q := 0) F dX6_init_42 rfl rfl ?_
  refine cn_new (ci := 7) (N := 3) (C := RX3) (T := TX3) (fs := [.null, .int 0, .int 0]) F tyX3 iaX3 tyX3_ok (ml_tb 168 (by decide +kernel) rfl) (ml_tb 169 (by decide +kernel) rfl) (ml_tb 6 (by decide +kernel) rfl) rfl (by decide) (by decide) (by decide) dX6_init_43 (fun q7 => ?_)
  refine cn_dup F dX6_init_46 rfl ?_
  refine cn_call (k := 46) (n := 291) (st := [.ref q7, .ref h0]) (z := 0) (mc2 := 121) (ms2 := 776) (lv2 := 3) (L0 := [(h0, .inr (10, [.ref (f2 0), .ref (f4 0), .ref (f6 0), .int 0, .null, .null, .null, .int 0, .int 0]))] ++ cn_pFlight g f2 ++ cn_pFlight g f4 ++ cn_pFlight g f6) (post := cn_pHist g) (av := []) F (X3_init_k g _) ⟨ml_tb 172 (by decide +kernel) rfl, ml_tb 6 (by decide +kernel) rfl, by decide⟩ (ml_tb 170 (by decide +kernel) rfl) ⟨by decide +kernel, by decide +kernel, by decide +kernel⟩ (by decide) (by decide) (by decide) rfl rfl (ml_tb 171 (by decide +kernel) rfl) rfl (Nat.le_of_ble_eq_true rfl) dX6_init_47 (fun f8 ef8 => ?_)
  subst ef8
  refine cn_putF (p0 := 0) (ci := 10) (N := 9) (C := RX6) (T := TX6) (ty0 := tyX6) (L2 := [(h0, .inr (10, [.ref (f2 0), .ref (f4 0), .ref (f6 0), .int 0, .ref (f8 0), .null, .null, .int 0, .int 0]))] ++ cn_pFlight g f2 ++ cn_pFlight g f4 ++ cn_pFlight g f6 ++ cn_pHist g f8) F iaX6 tyX6_ok nmX6 rfl rfl 4 (by decide) (ml_tb 258 (by decide +kernel) rfl) rfl rfl rfl rfl (by simp) rfl dX6_init_50 ?_
  refine cn_aload_n (q := 0) F dX6_init_53 rfl rfl ?_
  refine cn_new (ci := 8) (N := 9) (C := RX4) (T := TX4) (fs := [.null, .int 0, .int 0, .int 0, .int 0, .null, .null, .null, .null]) F tyX4 iaX4 tyX4_ok (ml_tb 187 (by decide +kernel) rfl) (ml_tb 188 (by decide +kernel) rfl) (ml_tb 7 (by decide +kernel) rfl) rfl (by decide) (by decide) (by decide) dX6_init_54 (fun q9 => ?_)
  refine cn_dup F dX6_init_57 rfl ?_
  refine cn_callN (k := 168) (n := 1076) (st := [.ref q9, .ref h0]) (z := 0) (mc2 := 5) (ms2 := 300) (lv2 := 1) (L0 := [(h0, .inr (10, [.ref (f2 0), .ref (f4 0), .ref (f6 0), .int 0, .ref (f8 0), .null, .null, .int 0, .int 0]))] ++ cn_pFlight g f2 ++ cn_pFlight g f4 ++ cn_pFlight g f6 ++ cn_pHist g f8) (post := cn_pScript g) (av := []) F (X4_init_k g _) ⟨ml_tb 191 (by decide +kernel) rfl, ml_tb 7 (by decide +kernel) rfl, by decide⟩ (by decide) ⟨by decide +kernel, by decide +kernel, by decide +kernel⟩ (by decide) (by decide) (by decide) rfl rfl (ml_tb 190 (by decide +kernel) rfl) rfl (Nat.le_of_ble_eq_true rfl) dX6_init_58 (fun f10 ef10 => ?_)
  subst ef10
  refine cn_putF (p0 := 0) (ci := 10) (N := 9) (C := RX6) (T := TX6) (ty0 := tyX6) (L2 := [(h0, .inr (10, [.ref (f2 0), .ref (f4 0), .ref (f6 0), .int 0, .ref (f8 0), .ref (f10 0), .null, .int 0, .int 0]))] ++ cn_pFlight g f2 ++ cn_pFlight g f4 ++ cn_pFlight g f6 ++ cn_pHist g f8 ++ cn_pScript g f10) F iaX6 tyX6_ok nmX6 rfl rfl 5 (by decide) (ml_tb 259 (by decide +kernel) rfl) rfl rfl rfl rfl (by simp) rfl dX6_init_61 ?_
  refine cn_aload_n (q := 0) F dX6_init_64 rfl rfl ?_
  refine cn_new (ci := 1) (N := 4) (C := RJ4) (T := TJ4) (fs := [.null, .int 0, .int 0, .int 0]) F tyJ4 iaJ4 tyJ4_ok (ml_tb 221 (by decide +kernel) rfl) (ml_tb 222 (by decide +kernel) rfl) (ml_tb 9 (by decide +kernel) rfl) rfl (by decide) (by decide) (by decide) dX6_init_65 (fun q11 => ?_)
  refine cn_dup F dX6_init_68 rfl ?_
  refine cn_call (k := 174) (n := 1380) (st := [.ref q11, .ref h0]) (z := 0) (mc2 := 1) (ms2 := 16) (lv2 := 2) (L0 := [(h0, .inr (10, [.ref (f2 0), .ref (f4 0), .ref (f6 0), .int 0, .ref (f8 0), .ref (f10 0), .null, .int 0, .int 0]))] ++ cn_pFlight g f2 ++ cn_pFlight g f4 ++ cn_pFlight g f6 ++ cn_pHist g f8 ++ cn_pScript g f10) (post := cn_pSB g) (av := []) F (J4_init_da8c8_k g _) ⟨ml_tb 225 (by decide +kernel) rfl, ml_tb 9 (by decide +kernel) rfl, by decide⟩ (ml_tb 223 (by decide +kernel) rfl) ⟨by decide +kernel, by decide +kernel, by decide +kernel⟩ (by decide) (by decide) (by decide) rfl rfl (ml_tb 224 (by decide +kernel) rfl) rfl (Nat.le_of_ble_eq_true rfl) dX6_init_69 (fun f12 ef12 => ?_)
  subst ef12
  refine cn_putF (p0 := 0) (ci := 10) (N := 9) (C := RX6) (T := TX6) (ty0 := tyX6) (L2 := [(h0, .inr (10, [.ref (f2 0), .ref (f4 0), .ref (f6 0), .int 0, .ref (f8 0), .ref (f10 0), .ref (f12 0), .int 0, .int 0]))] ++ cn_pFlight g f2 ++ cn_pFlight g f4 ++ cn_pFlight g f6 ++ cn_pHist g f8 ++ cn_pScript g f10 ++ cn_pSB g f12) F iaX6 tyX6_ok nmX6 rfl rfl 6 (by decide) (ml_tb 260 (by decide +kernel) rfl) rfl rfl rfl rfl (by simp) rfl dX6_init_72 ?_
  refine cn_aload_n (q := 0) F dX6_init_75 rfl rfl ?_
  refine cn_iconst (v := -1) F dX6_init_76 (by decide) ?_
  refine cn_put (p0 := 0) (ci := 10) (N := 9) (C := RX6) (T := TX6) (ty0 := tyX6) (L2 := [(h0, .inr (10, [.ref (f2 0), .ref (f4 0), .ref (f6 0), .int 0, .ref (f8 0), .ref (f10 0), .ref (f12 0), .int (-1), .int 0]))] ++ cn_pFlight g f2 ++ cn_pFlight g f4 ++ cn_pFlight g f6 ++ cn_pHist g f8 ++ cn_pScript g f10 ++ cn_pSB g f12) F iaX6 tyX6_ok nmX6 rfl rfl 7 (by decide) (ml_tb 261 (by decide +kernel) rfl) rfl rfl rfl (by simp) rfl dX6_init_77 ?_
  refine cn_aload_n (q := 0) F dX6_init_80 rfl rfl ?_
  refine cn_iconst (v := -1) F dX6_init_81 (by decide) ?_
  refine cn_put (p0 := 0) (ci := 10) (N := 9) (C := RX6) (T := TX6) (ty0 := tyX6) (L2 := [(h0, .inr (10, [.ref (f2 0), .ref (f4 0), .ref (f6 0), .int 0, .ref (f8 0), .ref (f10 0), .ref (f12 0), .int (-1), .int (-1)]))] ++ cn_pFlight g f2 ++ cn_pFlight g f4 ++ cn_pFlight g f6 ++ cn_pHist g f8 ++ cn_pScript g f10 ++ cn_pSB g f12) F iaX6 tyX6_ok nmX6 rfl rfl 8 (by decide) (ml_tb 262 (by decide +kernel) rfl) rfl rfl rfl (by simp) rfl dX6_init_82 ?_
  exact cn_vret F (fun k => [h0, f2 0, f2 1, f2 2, f2 3, f2 4, f2 5, f2 6, f2 7, f2 8, f2 9, f2 10, f2 11, f2 12, f2 13, f2 14, f4 0, f4 1, f4 2, f4 3, f4 4, f4 5, f4 6, f4 7, f4 8, f4 9, f4 10, f4 11, f4 12, f4 13, f4 14, f6 0, f6 1, f6 2, f6 3, f6 4, f6 5, f6 6, f6 7, f6 8, f6 9, f6 10, f6 11, f6 12, f6 13, f6 14, f8 0, f8 1, f8 2, f8 3, f8 4, f8 5, f8 6, f8 7, f8 8, f8 9, f8 10, f8 11, f8 12, f8 13, f8 14, f8 15, f8 16, f8 17, f8 18, f8 19, f8 20, f8 21, f8 22, f8 23, f8 24, f8 25, f8 26, f8 27, f8 28, f8 29, f8 30, f8 31, f8 32, f8 33, f8 34, f8 35, f8 36, f8 37, f8 38, f8 39, f8 40, f8 41, f8 42, f8 43, f8 44, f8 45, f8 46, f8 47, f8 48, f8 49, f8 50, f8 51, f8 52, f8 53, f8 54, f8 55, f8 56, f8 57, f8 58, f8 59, f8 60, f8 61, f8 62, f8 63, f8 64, f8 65, f8 66, f8 67, f8 68, f8 69, f8 70, f8 71, f8 72, f8 73, f8 74, f8 75, f8 76, f8 77, f8 78, f8 79, f8 80, f8 81, f8 82, f8 83, f8 84, f8 85, f8 86, f8 87, f8 88, f8 89, f8 90, f8 91, f8 92, f8 93, f8 94, f8 95, f8 96, f8 97, f8 98, f8 99, f8 100, f8 101, f8 102, f8 103, f8 104, f8 105, f8 106, f8 107, f8 108, f8 109, f8 110, f8 111, f8 112, f8 113, f8 114, f8 115, f8 116, f8 117, f8 118, f8 119, f8 120, f8 121, f10 0, f10 1, f10 2, f10 3, f10 4, f10 5, f12 0, f12 1].getD k 0) rfl rfl (by decide) (by decide) dX6_init_85
