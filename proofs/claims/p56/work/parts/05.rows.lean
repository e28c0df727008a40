abbrev ml_ok (i : Int32) (n : Nat) : Prop := ¬ i < 0 ∧ i.toNatClampNeg < n
theorem ml_ok_in {i : Int32} {n : Nat} (h : ml_ok i n) : vp_in i n := fun q => q.elim h.1 (fun q => Nat.not_le.mpr h.2 q)
abbrev ml_R : Type := (Int32 ⊕ Nat) × ml_M
/-- a call's result goes on, a throw leaves -/
def ml_bd (x : Option ml_R) (B : Int32 → ml_M → Option ml_R) : Option ml_R := match x with
  | none => none
  | some (.inl r, M) => B r M
  | some (.inr e, M) => some (.inr e, M)
theorem ml_if {α : Type} {c : Prop} {A : Option α} {r : α} {d : Decidable c} (h : (@ite _ c d A none) = some r) : c ∧ A = some r := by
  by_cases q : c
  · exact ⟨q, by rw [if_pos q] at h; exact h⟩
  · rw [if_neg q] at h; cases h
theorem ml_iconst {E : ml_E} {g : ml_G} {cc : ByteArray} {own : String} {nL lv mc ms : Nat} {ret : Option FieldType} {tb : List ExceptionTableEntry} {Q : State → Prop} {k n pc : Nat} {ls : List (Nat × Value)} {st : List Value} {M : ml_M} {z : Int} {v : Int32} (F : ml_F E g cc own nL lv mc ms ret tb) (hd : decode cc pc = .ok (.iconst z, 1)) (hv : Int32.ofInt z = v) (K : ml_J E g nL Q k n (pc + 1) ls (.int v :: st) M) : ml_J E g nL Q k n (pc) ls (st) M := by
  obtain ⟨p, e, R, s, m, args, below, meth, c⟩ := E
  obtain ⟨⟨hx, hb, ht, ho, hm, hlk⟩, ⟨hK, ⟨M0, hD0⟩, hX, hz, htr⟩, ⟨hR1, hR2, hR3, hR4⟩, hret, htb⟩ := F
  have hD : va_D (ml_A g) (ml_wm g M) := ml_D_any hD0
  intro H locs la hP hS hl
  exact lv_iconst hx hb hd hv (K H locs la hP hS hl)
theorem ml_bipush {E : ml_E} {g : ml_G} {cc : ByteArray} {own : String} {nL lv mc ms : Nat} {ret : Option FieldType} {tb : List ExceptionTableEntry} {Q : State → Prop} {k n pc : Nat} {ls : List (Nat × Value)} {st : List Value} {M : ml_M} {z : Int} {v : Int32} (F : ml_F E g cc own nL lv mc ms ret tb) (hd : decode cc pc = .ok (.bipush z, 2)) (hv : (Int8.ofInt z).toInt32 = v) (K : ml_J E g nL Q k n (pc + 2) ls (.int v :: st) M) : ml_J E g nL Q k n (pc) ls (st) M := by
  obtain ⟨p, e, R, s, m, args, below, meth, c⟩ := E
  obtain ⟨⟨hx, hb, ht, ho, hm, hlk⟩, ⟨hK, ⟨M0, hD0⟩, hX, hz, htr⟩, ⟨hR1, hR2, hR3, hR4⟩, hret, htb⟩ := F
  have hD : va_D (ml_A g) (ml_wm g M) := ml_D_any hD0
  intro H locs la hP hS hl
  exact lv_bipush hx hb hd hv (K H locs la hP hS hl)
theorem ml_sipush {E : ml_E} {g : ml_G} {cc : ByteArray} {own : String} {nL lv mc ms : Nat} {ret : Option FieldType} {tb : List ExceptionTableEntry} {Q : State → Prop} {k n pc : Nat} {ls : List (Nat × Value)} {st : List Value} {M : ml_M} {z : Int} {v : Int32} (F : ml_F E g cc own nL lv mc ms ret tb) (hd : decode cc pc = .ok (.sipush z, 3)) (hv : (Int16.ofInt z).toInt32 = v) (K : ml_J E g nL Q k n (pc + 3) ls (.int v :: st) M) : ml_J E g nL Q k n (pc) ls (st) M := by
  obtain ⟨p, e, R, s, m, args, below, meth, c⟩ := E
  obtain ⟨⟨hx, hb, ht, ho, hm, hlk⟩, ⟨hK, ⟨M0, hD0⟩, hX, hz, htr⟩, ⟨hR1, hR2, hR3, hR4⟩, hret, htb⟩ := F
  have hD : va_D (ml_A g) (ml_wm g M) := ml_D_any hD0
  intro H locs la hP hS hl
  exact lv_sipush hx hb hd hv (K H locs la hP hS hl)
theorem ml_lconst {E : ml_E} {g : ml_G} {cc : ByteArray} {own : String} {nL lv mc ms : Nat} {ret : Option FieldType} {tb : List ExceptionTableEntry} {Q : State → Prop} {k n pc : Nat} {ls : List (Nat × Value)} {st : List Value} {M : ml_M} {z : Fin 2} {v : Int64} (F : ml_F E g cc own nL lv mc ms ret tb) (hd : decode cc pc = .ok (.lconst z, 1)) (hv : Int64.ofNat (z : Nat) = v) (K : ml_J E g nL Q k n (pc + 1) ls (.long v :: st) M) : ml_J E g nL Q k n (pc) ls (st) M := by
  obtain ⟨p, e, R, s, m, args, below, meth, c⟩ := E
  obtain ⟨⟨hx, hb, ht, ho, hm, hlk⟩, ⟨hK, ⟨M0, hD0⟩, hX, hz, htr⟩, ⟨hR1, hR2, hR3, hR4⟩, hret, htb⟩ := F
  have hD : va_D (ml_A g) (ml_wm g M) := ml_D_any hD0
  intro H locs la hP hS hl
  exact lv_lconst hx hb hd hv (K H locs la hP hS hl)
theorem ml_iload_n {E : ml_E} {g : ml_G} {cc : ByteArray} {own : String} {nL lv mc ms : Nat} {ret : Option FieldType} {tb : List ExceptionTableEntry} {Q : State → Prop} {k n pc : Nat} {ls : List (Nat × Value)} {st : List Value} {M : ml_M} {kk : Fin 4} {i q : Nat} {x : Int32} (F : ml_F E g cc own nL lv mc ms ret tb) (hd : decode cc pc = .ok (.iload_n kk, 1)) (hi : (kk : Nat) = i) (hq : ls[q]? = some (i, .int x)) (K : ml_J E g nL Q k n (pc + 1) ls (.int x :: st) M) : ml_J E g nL Q k n (pc) ls (st) M := by
  obtain ⟨p, e, R, s, m, args, below, meth, c⟩ := E
  obtain ⟨⟨hx, hb, ht, ho, hm, hlk⟩, ⟨hK, ⟨M0, hD0⟩, hX, hz, htr⟩, ⟨hR1, hR2, hR3, hR4⟩, hret, htb⟩ := F
  have hD : va_D (ml_A g) (ml_wm g M) := ml_D_any hD0
  intro H locs la hP hS hl
  exact lv_iload_n hx hb hd hi (lv_at hl q hq) (K H locs la hP hS hl)
theorem ml_iload {E : ml_E} {g : ml_G} {cc : ByteArray} {own : String} {nL lv mc ms : Nat} {ret : Option FieldType} {tb : List ExceptionTableEntry} {Q : State → Prop} {k n pc : Nat} {ls : List (Nat × Value)} {st : List Value} {M : ml_M} {i q : Nat} {x : Int32} (F : ml_F E g cc own nL lv mc ms ret tb) (hd : decode cc pc = .ok (.iload i, 2)) (hq : ls[q]? = some (i, .int x)) (K : ml_J E g nL Q k n (pc + 2) ls (.int x :: st) M) : ml_J E g nL Q k n (pc) ls (st) M := by
  obtain ⟨p, e, R, s, m, args, below, meth, c⟩ := E
  obtain ⟨⟨hx, hb, ht, ho, hm, hlk⟩, ⟨hK, ⟨M0, hD0⟩, hX, hz, htr⟩, ⟨hR1, hR2, hR3, hR4⟩, hret, htb⟩ := F
  have hD : va_D (ml_A g) (ml_wm g M) := ml_D_any hD0
  intro H locs la hP hS hl
  exact lv_iload hx hb hd (lv_at hl q hq) (K H locs la hP hS hl)
theorem ml_aload_n {E : ml_E} {g : ml_G} {cc : ByteArray} {own : String} {nL lv mc ms : Nat} {ret : Option FieldType} {tb : List ExceptionTableEntry} {Q : State → Prop} {k n pc : Nat} {ls : List (Nat × Value)} {st : List Value} {M : ml_M} {kk : Fin 4} {i q : Nat} {x : Nat} (F : ml_F E g cc own nL lv mc ms ret tb) (hd : decode cc pc = .ok (.aload_n kk, 1)) (hi : (kk : Nat) = i) (hq : ls[q]? = some (i, .ref x)) (K : ml_J E g nL Q k n (pc + 1) ls (.ref x :: st) M) : ml_J E g nL Q k n (pc) ls (st) M := by
  obtain ⟨p, e, R, s, m, args, below, meth, c⟩ := E
  obtain ⟨⟨hx, hb, ht, ho, hm, hlk⟩, ⟨hK, ⟨M0, hD0⟩, hX, hz, htr⟩, ⟨hR1, hR2, hR3, hR4⟩, hret, htb⟩ := F
  have hD : va_D (ml_A g) (ml_wm g M) := ml_D_any hD0
  intro H locs la hP hS hl
  exact lv_aload_n hx hb hd hi (lv_at hl q hq) (K H locs la hP hS hl)
theorem ml_aload {E : ml_E} {g : ml_G} {cc : ByteArray} {own : String} {nL lv mc ms : Nat} {ret : Option FieldType} {tb : List ExceptionTableEntry} {Q : State → Prop} {k n pc : Nat} {ls : List (Nat × Value)} {st : List Value} {M : ml_M} {i q : Nat} {x : Nat} (F : ml_F E g cc own nL lv mc ms ret tb) (hd : decode cc pc = .ok (.aload i, 2)) (hq : ls[q]? = some (i, .ref x)) (K : ml_J E g nL Q k n (pc + 2) ls (.ref x :: st) M) : ml_J E g nL Q k n (pc) ls (st) M := by
  obtain ⟨p, e, R, s, m, args, below, meth, c⟩ := E
  obtain ⟨⟨hx, hb, ht, ho, hm, hlk⟩, ⟨hK, ⟨M0, hD0⟩, hX, hz, htr⟩, ⟨hR1, hR2, hR3, hR4⟩, hret, htb⟩ := F
  have hD : va_D (ml_A g) (ml_wm g M) := ml_D_any hD0
  intro H locs la hP hS hl
  exact lv_aload hx hb hd (lv_at hl q hq) (K H locs la hP hS hl)
theorem ml_dload {E : ml_E} {g : ml_G} {cc : ByteArray} {own : String} {nL lv mc ms : Nat} {ret : Option FieldType} {tb : List ExceptionTableEntry} {Q : State → Prop} {k n pc : Nat} {ls : List (Nat × Value)} {st : List Value} {M : ml_M} {i q : Nat} {x : UInt64} (F : ml_F E g cc own nL lv mc ms ret tb) (hd : decode cc pc = .ok (.dload i, 2)) (hq : ls[q]? = some (i, .double x)) (K : ml_J E g nL Q k n (pc + 2) ls (.double x :: st) M) : ml_J E g nL Q k n (pc) ls (st) M := by
  obtain ⟨p, e, R, s, m, args, below, meth, c⟩ := E
  obtain ⟨⟨hx, hb, ht, ho, hm, hlk⟩, ⟨hK, ⟨M0, hD0⟩, hX, hz, htr⟩, ⟨hR1, hR2, hR3, hR4⟩, hret, htb⟩ := F
  have hD : va_D (ml_A g) (ml_wm g M) := ml_D_any hD0
  intro H locs la hP hS hl
  exact lv_dload hx hb hd (lv_at hl q hq) (K H locs la hP hS hl)
abbrev ml_put (ls : List (Nat × Value)) (i : Nat) (v : Value) : List (Nat × Value) := (i, v) :: ls.filter (fun q => !(q.1 == i) && !(q.1 + 1 == i && q.2.category == 2))
theorem ml_istore_n {E : ml_E} {g : ml_G} {cc : ByteArray} {own : String} {nL lv mc ms : Nat} {ret : Option FieldType} {tb : List ExceptionTableEntry} {Q : State → Prop} {k n pc : Nat} {ls : List (Nat × Value)} {st : List Value} {M : ml_M} {kk : Fin 4} {i : Nat} {x : Int32} {ls2 : List (Nat × Value)} (F : ml_F E g cc own nL lv mc ms ret tb) (hd : decode cc pc = .ok (.istore_n kk, 1)) (hi : (kk : Nat) = i) (hn : i < nL) (hq : ml_put ls i (.int x) = ls2) (K : ml_J E g nL Q k n (pc + 1) ls2 (st) M) : ml_J E g nL Q k n (pc) ls (.int x :: st) M := by
  obtain ⟨p, e, R, s, m, args, below, meth, c⟩ := E
  obtain ⟨⟨hx, hb, ht, ho, hm, hlk⟩, ⟨hK, ⟨M0, hD0⟩, hX, hz, htr⟩, ⟨hR1, hR2, hR3, hR4⟩, hret, htb⟩ := F
  have hD : va_D (ml_A g) (ml_wm g M) := ml_D_any hD0
  intro H locs la hP hS hl
  exact lv_istore_n hx hb hd hi hl hn hq (fun la2 hl2 => K H locs la2 hP hS hl2)
theorem ml_istore {E : ml_E} {g : ml_G} {cc : ByteArray} {own : String} {nL lv mc ms : Nat} {ret : Option FieldType} {tb : List ExceptionTableEntry} {Q : State → Prop} {k n pc : Nat} {ls : List (Nat × Value)} {st : List Value} {M : ml_M} {i : Nat} {x : Int32} {ls2 : List (Nat × Value)} (F : ml_F E g cc own nL lv mc ms ret tb) (hd : decode cc pc = .ok (.istore i, 2)) (hn : i < nL) (hq : ml_put ls i (.int x) = ls2) (K : ml_J E g nL Q k n (pc + 2) ls2 (st) M) : ml_J E g nL Q k n (pc) ls (.int x :: st) M := by
  obtain ⟨p, e, R, s, m, args, below, meth, c⟩ := E
  obtain ⟨⟨hx, hb, ht, ho, hm, hlk⟩, ⟨hK, ⟨M0, hD0⟩, hX, hz, htr⟩, ⟨hR1, hR2, hR3, hR4⟩, hret, htb⟩ := F
  have hD : va_D (ml_A g) (ml_wm g M) := ml_D_any hD0
  intro H locs la hP hS hl
  exact lv_istore hx hb hd hl hn hq (fun la2 hl2 => K H locs la2 hP hS hl2)
theorem ml_astore_n {E : ml_E} {g : ml_G} {cc : ByteArray} {own : String} {nL lv mc ms : Nat} {ret : Option FieldType} {tb : List ExceptionTableEntry} {Q : State → Prop} {k n pc : Nat} {ls : List (Nat × Value)} {st : List Value} {M : ml_M} {kk : Fin 4} {i : Nat} {x : Nat} {ls2 : List (Nat × Value)} (F : ml_F E g cc own nL lv mc ms ret tb) (hd : decode cc pc = .ok (.astore_n kk, 1)) (hi : (kk : Nat) = i) (hn : i < nL) (hq : ml_put ls i (.ref x) = ls2) (K : ml_J E g nL Q k n (pc + 1) ls2 (st) M) : ml_J E g nL Q k n (pc) ls (.ref x :: st) M := by
  obtain ⟨p, e, R, s, m, args, below, meth, c⟩ := E
  obtain ⟨⟨hx, hb, ht, ho, hm, hlk⟩, ⟨hK, ⟨M0, hD0⟩, hX, hz, htr⟩, ⟨hR1, hR2, hR3, hR4⟩, hret, htb⟩ := F
  have hD : va_D (ml_A g) (ml_wm g M) := ml_D_any hD0
  intro H locs la hP hS hl
  exact lv_astore_n hx hb hd hi hl hn hq (fun la2 hl2 => K H locs la2 hP hS hl2)
theorem ml_astore {E : ml_E} {g : ml_G} {cc : ByteArray} {own : String} {nL lv mc ms : Nat} {ret : Option FieldType} {tb : List ExceptionTableEntry} {Q : State → Prop} {k n pc : Nat} {ls : List (Nat × Value)} {st : List Value} {M : ml_M} {i : Nat} {x : Nat} {ls2 : List (Nat × Value)} (F : ml_F E g cc own nL lv mc ms ret tb) (hd : decode cc pc = .ok (.astore i, 2)) (hn : i < nL) (hq : ml_put ls i (.ref x) = ls2) (K : ml_J E g nL Q k n (pc + 2) ls2 (st) M) : ml_J E g nL Q k n (pc) ls (.ref x :: st) M := by
  obtain ⟨p, e, R, s, m, args, below, meth, c⟩ := E
  obtain ⟨⟨hx, hb, ht, ho, hm, hlk⟩, ⟨hK, ⟨M0, hD0⟩, hX, hz, htr⟩, ⟨hR1, hR2, hR3, hR4⟩, hret, htb⟩ := F
  have hD : va_D (ml_A g) (ml_wm g M) := ml_D_any hD0
  intro H locs la hP hS hl
  exact lv_astore hx hb hd hl hn hq (fun la2 hl2 => K H locs la2 hP hS hl2)
theorem ml_iinc {E : ml_E} {g : ml_G} {cc : ByteArray} {own : String} {nL lv mc ms : Nat} {ret : Option FieldType} {tb : List ExceptionTableEntry} {Q : State → Prop} {k n pc : Nat} {ls : List (Nat × Value)} {st : List Value} {M : ml_M} {i q : Nat} {z : Int} {x v : Int32} {ls2 : List (Nat × Value)} (F : ml_F E g cc own nL lv mc ms ret tb) (hd : decode cc pc = .ok (.iinc i z, 3)) (hq : ls[q]? = some (i, .int x)) (hv : x + Int32.ofInt z = v) (hn : i < nL) (h2 : ml_put ls i (.int v) = ls2) (K : ml_J E g nL Q k n (pc + 3) ls2 (st) M) : ml_J E g nL Q k n (pc) ls (st) M := by
  obtain ⟨p, e, R, s, m, args, below, meth, c⟩ := E
  obtain ⟨⟨hx, hb, ht, ho, hm, hlk⟩, ⟨hK, ⟨M0, hD0⟩, hX, hz, htr⟩, ⟨hR1, hR2, hR3, hR4⟩, hret, htb⟩ := F
  have hD : va_D (ml_A g) (ml_wm g M) := ml_D_any hD0
  intro H locs la hP hS hl
  exact lv_iinc hx hb hd hl hq hv hn h2 (fun la2 hl2 => K H locs la2 hP hS hl2)
theorem ml_iadd {E : ml_E} {g : ml_G} {cc : ByteArray} {own : String} {nL lv mc ms : Nat} {ret : Option FieldType} {tb : List ExceptionTableEntry} {Q : State → Prop} {k n pc : Nat} {ls : List (Nat × Value)} {st : List Value} {M : ml_M} {x y : Int32} (F : ml_F E g cc own nL lv mc ms ret tb) (hd : decode cc pc = .ok (.iadd, 1)) (K : ml_J E g nL Q k n (pc + 1) ls (.int (x + y) :: st) M) : ml_J E g nL Q k n (pc) ls (.int y :: .int x :: st) M := by
  obtain ⟨p, e, R, s, m, args, below, meth, c⟩ := E
  obtain ⟨⟨hx, hb, ht, ho, hm, hlk⟩, ⟨hK, ⟨M0, hD0⟩, hX, hz, htr⟩, ⟨hR1, hR2, hR3, hR4⟩, hret, htb⟩ := F
  have hD : va_D (ml_A g) (ml_wm g M) := ml_D_any hD0
  intro H locs la hP hS hl
  exact lv_iadd hx hb hd (K H locs la hP hS hl)
theorem ml_isub {E : ml_E} {g : ml_G} {cc : ByteArray} {own : String} {nL lv mc ms : Nat} {ret : Option FieldType} {tb : List ExceptionTableEntry} {Q : State → Prop} {k n pc : Nat} {ls : List (Nat × Value)} {st : List Value} {M : ml_M} {x y : Int32} (F : ml_F E g cc own nL lv mc ms ret tb) (hd : decode cc pc = .ok (.isub, 1)) (K : ml_J E g nL Q k n (pc + 1) ls (.int (x - y) :: st) M) : ml_J E g nL Q k n (pc) ls (.int y :: .int x :: st) M := by
  obtain ⟨p, e, R, s, m, args, below, meth, c⟩ := E
  obtain ⟨⟨hx, hb, ht, ho, hm, hlk⟩, ⟨hK, ⟨M0, hD0⟩, hX, hz, htr⟩, ⟨hR1, hR2, hR3, hR4⟩, hret, htb⟩ := F
  have hD : va_D (ml_A g) (ml_wm g M) := ml_D_any hD0
  intro H locs la hP hS hl
  exact lv_isub hx hb hd (K H locs la hP hS hl)
theorem ml_imul {E : ml_E} {g : ml_G} {cc : ByteArray} {own : String} {nL lv mc ms : Nat} {ret : Option FieldType} {tb : List ExceptionTableEntry} {Q : State → Prop} {k n pc : Nat} {ls : List (Nat × Value)} {st : List Value} {M : ml_M} {x y : Int32} (F : ml_F E g cc own nL lv mc ms ret tb) (hd : decode cc pc = .ok (.imul, 1)) (K : ml_J E g nL Q k n (pc + 1) ls (.int (x * y) :: st) M) : ml_J E g nL Q k n (pc) ls (.int y :: .int x :: st) M := by
  obtain ⟨p, e, R, s, m, args, below, meth, c⟩ := E
  obtain ⟨⟨hx, hb, ht, ho, hm, hlk⟩, ⟨hK, ⟨M0, hD0⟩, hX, hz, htr⟩, ⟨hR1, hR2, hR3, hR4⟩, hret, htb⟩ := F
  have hD : va_D (ml_A g) (ml_wm g M) := ml_D_any hD0
  intro H locs la hP hS hl
  exact lv_imul hx hb hd (K H locs la hP hS hl)
theorem ml_iand {E : ml_E} {g : ml_G} {cc : ByteArray} {own : String} {nL lv mc ms : Nat} {ret : Option FieldType} {tb : List ExceptionTableEntry} {Q : State → Prop} {k n pc : Nat} {ls : List (Nat × Value)} {st : List Value} {M : ml_M} {x y : Int32} (F : ml_F E g cc own nL lv mc ms ret tb) (hd : decode cc pc = .ok (.iand, 1)) (K : ml_J E g nL Q k n (pc + 1) ls (.int (x &&& y) :: st) M) : ml_J E g nL Q k n (pc) ls (.int y :: .int x :: st) M := by
  obtain ⟨p, e, R, s, m, args, below, meth, c⟩ := E
  obtain ⟨⟨hx, hb, ht, ho, hm, hlk⟩, ⟨hK, ⟨M0, hD0⟩, hX, hz, htr⟩, ⟨hR1, hR2, hR3, hR4⟩, hret, htb⟩ := F
  have hD : va_D (ml_A g) (ml_wm g M) := ml_D_any hD0
  intro H locs la hP hS hl
  exact lv_iand hx hb hd (K H locs la hP hS hl)
theorem ml_ior {E : ml_E} {g : ml_G} {cc : ByteArray} {own : String} {nL lv mc ms : Nat} {ret : Option FieldType} {tb : List ExceptionTableEntry} {Q : State → Prop} {k n pc : Nat} {ls : List (Nat × Value)} {st : List Value} {M : ml_M} {x y : Int32} (F : ml_F E g cc own nL lv mc ms ret tb) (hd : decode cc pc = .ok (.ior, 1)) (K : ml_J E g nL Q k n (pc + 1) ls (.int (x ||| y) :: st) M) : ml_J E g nL Q k n (pc) ls (.int y :: .int x :: st) M := by
  obtain ⟨p, e, R, s, m, args, below, meth, c⟩ := E
  obtain ⟨⟨hx, hb, ht, ho, hm, hlk⟩, ⟨hK, ⟨M0, hD0⟩, hX, hz, htr⟩, ⟨hR1, hR2, hR3, hR4⟩, hret, htb⟩ := F
  have hD : va_D (ml_A g) (ml_wm g M) := ml_D_any hD0
  intro H locs la hP hS hl
  exact lv_ior hx hb hd (K H locs la hP hS hl)
theorem ml_ishl {E : ml_E} {g : ml_G} {cc : ByteArray} {own : String} {nL lv mc ms : Nat} {ret : Option FieldType} {tb : List ExceptionTableEntry} {Q : State → Prop} {k n pc : Nat} {ls : List (Nat × Value)} {st : List Value} {M : ml_M} {x y : Int32} (F : ml_F E g cc own nL lv mc ms ret tb) (hd : decode cc pc = .ok (.ishl, 1)) (K : ml_J E g nL Q k n (pc + 1) ls (.int (x <<< (y &&& 31)) :: st) M) : ml_J E g nL Q k n (pc) ls (.int y :: .int x :: st) M := by
  obtain ⟨p, e, R, s, m, args, below, meth, c⟩ := E
  obtain ⟨⟨hx, hb, ht, ho, hm, hlk⟩, ⟨hK, ⟨M0, hD0⟩, hX, hz, htr⟩, ⟨hR1, hR2, hR3, hR4⟩, hret, htb⟩ := F
  have hD : va_D (ml_A g) (ml_wm g M) := ml_D_any hD0
  intro H locs la hP hS hl
  exact lv_ishl hx hb hd (K H locs la hP hS hl)
theorem ml_ishr {E : ml_E} {g : ml_G} {cc : ByteArray} {own : String} {nL lv mc ms : Nat} {ret : Option FieldType} {tb : List ExceptionTableEntry} {Q : State → Prop} {k n pc : Nat} {ls : List (Nat × Value)} {st : List Value} {M : ml_M} {x y : Int32} (F : ml_F E g cc own nL lv mc ms ret tb) (hd : decode cc pc = .ok (.ishr, 1)) (K : ml_J E g nL Q k n (pc + 1) ls (.int (x >>> (y &&& 31)) :: st) M) : ml_J E g nL Q k n (pc) ls (.int y :: .int x :: st) M := by
  obtain ⟨p, e, R, s, m, args, below, meth, c⟩ := E
  obtain ⟨⟨hx, hb, ht, ho, hm, hlk⟩, ⟨hK, ⟨M0, hD0⟩, hX, hz, htr⟩, ⟨hR1, hR2, hR3, hR4⟩, hret, htb⟩ := F
  have hD : va_D (ml_A g) (ml_wm g M) := ml_D_any hD0
  intro H locs la hP hS hl
  exact lv_ishr hx hb hd (K H locs la hP hS hl)
theorem ml_idiv {E : ml_E} {g : ml_G} {cc : ByteArray} {own : String} {nL lv mc ms : Nat} {ret : Option FieldType} {tb : List ExceptionTableEntry} {Q : State → Prop} {k n pc : Nat} {ls : List (Nat × Value)} {st : List Value} {M : ml_M} {x y : Int32} (F : ml_F E g cc own nL lv mc ms ret tb) (hd : decode cc pc = .ok (.idiv, 1)) (hne : ¬ y = 0) (K : ml_J E g nL Q k n (pc + 1) ls (.int (x / y) :: st) M) : ml_J E g nL Q k n (pc) ls (.int y :: .int x :: st) M := by
  obtain ⟨p, e, R, s, m, args, below, meth, c⟩ := E
  obtain ⟨⟨hx, hb, ht, ho, hm, hlk⟩, ⟨hK, ⟨M0, hD0⟩, hX, hz, htr⟩, ⟨hR1, hR2, hR3, hR4⟩, hret, htb⟩ := F
  have hD : va_D (ml_A g) (ml_wm g M) := ml_D_any hD0
  intro H locs la hP hS hl
  exact lv_idiv hx hb hd hne (K H locs la hP hS hl)
theorem ml_irem {E : ml_E} {g : ml_G} {cc : ByteArray} {own : String} {nL lv mc ms : Nat} {ret : Option FieldType} {tb : List ExceptionTableEntry} {Q : State → Prop} {k n pc : Nat} {ls : List (Nat × Value)} {st : List Value} {M : ml_M} {x y : Int32} (F : ml_F E g cc own nL lv mc ms ret tb) (hd : decode cc pc = .ok (.irem, 1)) (hne : ¬ y = 0) (K : ml_J E g nL Q k n (pc + 1) ls (.int (x - x / y * y) :: st) M) : ml_J E g nL Q k n (pc) ls (.int y :: .int x :: st) M := by
  obtain ⟨p, e, R, s, m, args, below, meth, c⟩ := E
  obtain ⟨⟨hx, hb, ht, ho, hm, hlk⟩, ⟨hK, ⟨M0, hD0⟩, hX, hz, htr⟩, ⟨hR1, hR2, hR3, hR4⟩, hret, htb⟩ := F
  have hD : va_D (ml_A g) (ml_wm g M) := ml_D_any hD0
  intro H locs la hP hS hl
  exact lv_irem hx hb hd hne (K H locs la hP hS hl)
theorem ml_ineg {E : ml_E} {g : ml_G} {cc : ByteArray} {own : String} {nL lv mc ms : Nat} {ret : Option FieldType} {tb : List ExceptionTableEntry} {Q : State → Prop} {k n pc : Nat} {ls : List (Nat × Value)} {st : List Value} {M : ml_M} {x : Int32} (F : ml_F E g cc own nL lv mc ms ret tb) (hd : decode cc pc = .ok (.ineg, 1)) (K : ml_J E g nL Q k n (pc + 1) ls (.int (-x) :: st) M) : ml_J E g nL Q k n (pc) ls (.int x :: st) M := by
  obtain ⟨p, e, R, s, m, args, below, meth, c⟩ := E
  obtain ⟨⟨hx, hb, ht, ho, hm, hlk⟩, ⟨hK, ⟨M0, hD0⟩, hX, hz, htr⟩, ⟨hR1, hR2, hR3, hR4⟩, hret, htb⟩ := F
  have hD : va_D (ml_A g) (ml_wm g M) := ml_D_any hD0
  intro H locs la hP hS hl
  exact lv_ineg hx hb hd (K H locs la hP hS hl)
theorem ml_i2c {E : ml_E} {g : ml_G} {cc : ByteArray} {own : String} {nL lv mc ms : Nat} {ret : Option FieldType} {tb : List ExceptionTableEntry} {Q : State → Prop} {k n pc : Nat} {ls : List (Nat × Value)} {st : List Value} {M : ml_M} {x : Int32} (F : ml_F E g cc own nL lv mc ms ret tb) (hd : decode cc pc = .ok (.i2c, 1)) (K : ml_J E g nL Q k n (pc + 1) ls (.int (x.toUInt32 % 65536).toInt32 :: st) M) : ml_J E g nL Q k n (pc) ls (.int x :: st) M := by
  obtain ⟨p, e, R, s, m, args, below, meth, c⟩ := E
  obtain ⟨⟨hx, hb, ht, ho, hm, hlk⟩, ⟨hK, ⟨M0, hD0⟩, hX, hz, htr⟩, ⟨hR1, hR2, hR3, hR4⟩, hret, htb⟩ := F
  have hD : va_D (ml_A g) (ml_wm g M) := ml_D_any hD0
  intro H locs la hP hS hl
  exact lv_i2c hx hb hd rfl (K H locs la hP hS hl)
theorem ml_i2b {E : ml_E} {g : ml_G} {cc : ByteArray} {own : String} {nL lv mc ms : Nat} {ret : Option FieldType} {tb : List ExceptionTableEntry} {Q : State → Prop} {k n pc : Nat} {ls : List (Nat × Value)} {st : List Value} {M : ml_M} {x : Int32} (F : ml_F E g cc own nL lv mc ms ret tb) (hd : decode cc pc = .ok (.i2b, 1)) (K : ml_J E g nL Q k n (pc + 1) ls (.int x.toInt8.toInt32 :: st) M) : ml_J E g nL Q k n (pc) ls (.int x :: st) M := by
  obtain ⟨p, e, R, s, m, args, below, meth, c⟩ := E
  obtain ⟨⟨hx, hb, ht, ho, hm, hlk⟩, ⟨hK, ⟨M0, hD0⟩, hX, hz, htr⟩, ⟨hR1, hR2, hR3, hR4⟩, hret, htb⟩ := F
  have hD : va_D (ml_A g) (ml_wm g M) := ml_D_any hD0
  intro H locs la hP hS hl
  exact lv_i2b hx hb hd rfl (K H locs la hP hS hl)
theorem ml_i2l {E : ml_E} {g : ml_G} {cc : ByteArray} {own : String} {nL lv mc ms : Nat} {ret : Option FieldType} {tb : List ExceptionTableEntry} {Q : State → Prop} {k n pc : Nat} {ls : List (Nat × Value)} {st : List Value} {M : ml_M} {x : Int32} (F : ml_F E g cc own nL lv mc ms ret tb) (hd : decode cc pc = .ok (.i2l, 1)) (K : ml_J E g nL Q k n (pc + 1) ls (.long x.toInt64 :: st) M) : ml_J E g nL Q k n (pc) ls (.int x :: st) M := by
  obtain ⟨p, e, R, s, m, args, below, meth, c⟩ := E
  obtain ⟨⟨hx, hb, ht, ho, hm, hlk⟩, ⟨hK, ⟨M0, hD0⟩, hX, hz, htr⟩, ⟨hR1, hR2, hR3, hR4⟩, hret, htb⟩ := F
  have hD : va_D (ml_A g) (ml_wm g M) := ml_D_any hD0
  intro H locs la hP hS hl
  exact lv_i2l hx hb hd rfl (K H locs la hP hS hl)
theorem ml_dup {E : ml_E} {g : ml_G} {cc : ByteArray} {own : String} {nL lv mc ms : Nat} {ret : Option FieldType} {tb : List ExceptionTableEntry} {Q : State → Prop} {k n pc : Nat} {ls : List (Nat × Value)} {st : List Value} {M : ml_M} {va : Value} (F : ml_F E g cc own nL lv mc ms ret tb) (hd : decode cc pc = .ok (.dup, 1)) (h1 : va.category = 1) (K : ml_J E g nL Q k n (pc + 1) ls (va :: va :: st) M) : ml_J E g nL Q k n (pc) ls (va :: st) M := by
  obtain ⟨p, e, R, s, m, args, below, meth, c⟩ := E
  obtain ⟨⟨hx, hb, ht, ho, hm, hlk⟩, ⟨hK, ⟨M0, hD0⟩, hX, hz, htr⟩, ⟨hR1, hR2, hR3, hR4⟩, hret, htb⟩ := F
  have hD : va_D (ml_A g) (ml_wm g M) := ml_D_any hD0
  intro H locs la hP hS hl
  exact lv_dup hx hb hd h1 (K H locs la hP hS hl)
theorem ml_pop {E : ml_E} {g : ml_G} {cc : ByteArray} {own : String} {nL lv mc ms : Nat} {ret : Option FieldType} {tb : List ExceptionTableEntry} {Q : State → Prop} {k n pc : Nat} {ls : List (Nat × Value)} {st : List Value} {M : ml_M} {va : Value} (F : ml_F E g cc own nL lv mc ms ret tb) (hd : decode cc pc = .ok (.pop, 1)) (h1 : va.category = 1) (K : ml_J E g nL Q k n (pc + 1) ls (st) M) : ml_J E g nL Q k n (pc) ls (va :: st) M := by
  obtain ⟨p, e, R, s, m, args, below, meth, c⟩ := E
  obtain ⟨⟨hx, hb, ht, ho, hm, hlk⟩, ⟨hK, ⟨M0, hD0⟩, hX, hz, htr⟩, ⟨hR1, hR2, hR3, hR4⟩, hret, htb⟩ := F
  have hD : va_D (ml_A g) (ml_wm g M) := ml_D_any hD0
  intro H locs la hP hS hl
  exact lv_pop hx hb hd h1 (K H locs la hP hS hl)
theorem ml_dup2 {E : ml_E} {g : ml_G} {cc : ByteArray} {own : String} {nL lv mc ms : Nat} {ret : Option FieldType} {tb : List ExceptionTableEntry} {Q : State → Prop} {k n pc : Nat} {ls : List (Nat × Value)} {st : List Value} {M : ml_M} {va vb : Value} (F : ml_F E g cc own nL lv mc ms ret tb) (hd : decode cc pc = .ok (.dup2, 1)) (h1 : va.category = 1) (h2 : vb.category = 1) (K : ml_J E g nL Q k n (pc + 1) ls (va :: vb :: va :: vb :: st) M) : ml_J E g nL Q k n (pc) ls (va :: vb :: st) M := by
  obtain ⟨p, e, R, s, m, args, below, meth, c⟩ := E
  obtain ⟨⟨hx, hb, ht, ho, hm, hlk⟩, ⟨hK, ⟨M0, hD0⟩, hX, hz, htr⟩, ⟨hR1, hR2, hR3, hR4⟩, hret, htb⟩ := F
  have hD : va_D (ml_A g) (ml_wm g M) := ml_D_any hD0
  intro H locs la hP hS hl
  exact lv_dup2_11 hx hb hd h1 h2 (K H locs la hP hS hl)
theorem ml_dup_x1 {E : ml_E} {g : ml_G} {cc : ByteArray} {own : String} {nL lv mc ms : Nat} {ret : Option FieldType} {tb : List ExceptionTableEntry} {Q : State → Prop} {k n pc : Nat} {ls : List (Nat × Value)} {st : List Value} {M : ml_M} {va vb : Value} (F : ml_F E g cc own nL lv mc ms ret tb) (hd : decode cc pc = .ok (.dup_x1, 1)) (h1 : va.category = 1) (h2 : vb.category = 1) (K : ml_J E g nL Q k n (pc + 1) ls (va :: vb :: va :: st) M) : ml_J E g nL Q k n (pc) ls (va :: vb :: st) M := by
  obtain ⟨p, e, R, s, m, args, below, meth, c⟩ := E
  obtain ⟨⟨hx, hb, ht, ho, hm, hlk⟩, ⟨hK, ⟨M0, hD0⟩, hX, hz, htr⟩, ⟨hR1, hR2, hR3, hR4⟩, hret, htb⟩ := F
  have hD : va_D (ml_A g) (ml_wm g M) := ml_D_any hD0
  intro H locs la hP hS hl
  exact lv_dup_x1 hx hb hd h1 h2 (K H locs la hP hS hl)
theorem ml_if_eq {E : ml_E} {g : ml_G} {cc : ByteArray} {own : String} {nL lv mc ms : Nat} {ret : Option FieldType} {tb : List ExceptionTableEntry} {Q : State → Prop} {k n pc : Nat} {ls : List (Nat × Value)} {st : List Value} {M : ml_M} {α : Type} {A B : Option α} {r : α} {x : Int32} {dec : Decidable (x = 0)} {off : Int} {tgt : Nat} (F : ml_F E g cc own nL lv mc ms ret tb) (hd : decode cc pc = .ok (.ifCond .eq off, 3)) (hg : (pc : Int) + off = (tgt : Int)) (h : (@ite _ (x = 0) dec A B) = some r) (kt : x = 0 → A = some r → ml_J E g nL Q k n (tgt) ls (st) M) (kf : ¬ (x = 0) → B = some r → ml_J E g nL Q k n (pc + 3) ls (st) M) : ml_J E g nL Q k n (pc) ls (.int x :: st) M := by
  obtain ⟨p, e, R, s, m, args, below, meth, c⟩ := E
  obtain ⟨⟨hx, hb, ht, ho, hm, hlk⟩, ⟨hK, ⟨M0, hD0⟩, hX, hz, htr⟩, ⟨hR1, hR2, hR3, hR4⟩, hret, htb⟩ := F
  have hD : va_D (ml_A g) (ml_wm g M) := ml_D_any hD0
  intro H locs la hP hS hl
  exact lv_if_eq hx hb hd hg (fun q => kt q (by rw [if_pos q] at h; exact h) H locs la hP hS hl) (fun q => kf q (by rw [if_neg q] at h; exact h) H locs la hP hS hl)
theorem ml_if_eqT {E : ml_E} {g : ml_G} {cc : ByteArray} {own : String} {nL lv mc ms : Nat} {ret : Option FieldType} {tb : List ExceptionTableEntry} {Q : State → Prop} {k n pc : Nat} {ls : List (Nat × Value)} {st : List Value} {M : ml_M} {x : Int32} {off : Int} {tgt : Nat} (F : ml_F E g cc own nL lv mc ms ret tb) (hd : decode cc pc = .ok (.ifCond .eq off, 3)) (hg : (pc : Int) + off = (tgt : Int)) (q : x = 0) (K : ml_J E g nL Q k n (tgt) ls (st) M) : ml_J E g nL Q k n (pc) ls (.int x :: st) M := by
  obtain ⟨p, e, R, s, m, args, below, meth, c⟩ := E
  obtain ⟨⟨hx, hb, ht, ho, hm, hlk⟩, ⟨hK, ⟨M0, hD0⟩, hX, hz, htr⟩, ⟨hR1, hR2, hR3, hR4⟩, hret, htb⟩ := F
  have hD : va_D (ml_A g) (ml_wm g M) := ml_D_any hD0
  intro H locs la hP hS hl
  exact lv_if_eq hx hb hd hg (fun _ => K H locs la hP hS hl) (fun q2 => absurd q q2)
theorem ml_if_eqF {E : ml_E} {g : ml_G} {cc : ByteArray} {own : String} {nL lv mc ms : Nat} {ret : Option FieldType} {tb : List ExceptionTableEntry} {Q : State → Prop} {k n pc : Nat} {ls : List (Nat × Value)} {st : List Value} {M : ml_M} {x : Int32} {off : Int} {tgt : Nat} (F : ml_F E g cc own nL lv mc ms ret tb) (hd : decode cc pc = .ok (.ifCond .eq off, 3)) (hg : (pc : Int) + off = (tgt : Int)) (q : ¬ (x = 0)) (K : ml_J E g nL Q k n (pc + 3) ls (st) M) : ml_J E g nL Q k n (pc) ls (.int x :: st) M := by
  obtain ⟨p, e, R, s, m, args, below, meth, c⟩ := E
  obtain ⟨⟨hx, hb, ht, ho, hm, hlk⟩, ⟨hK, ⟨M0, hD0⟩, hX, hz, htr⟩, ⟨hR1, hR2, hR3, hR4⟩, hret, htb⟩ := F
  have hD : va_D (ml_A g) (ml_wm g M) := ml_D_any hD0
  intro H locs la hP hS hl
  exact lv_if_eq hx hb hd hg (fun q2 => absurd q2 q) (fun _ => K H locs la hP hS hl)
theorem ml_icmp_eq {E : ml_E} {g : ml_G} {cc : ByteArray} {own : String} {nL lv mc ms : Nat} {ret : Option FieldType} {tb : List ExceptionTableEntry} {Q : State → Prop} {k n pc : Nat} {ls : List (Nat × Value)} {st : List Value} {M : ml_M} {α : Type} {A B : Option α} {r : α} {x y : Int32} {dec : Decidable (x = y)} {off : Int} {tgt : Nat} (F : ml_F E g cc own nL lv mc ms ret tb) (hd : decode cc pc = .ok (.if_icmp .eq off, 3)) (hg : (pc : Int) + off = (tgt : Int)) (h : (@ite _ (x = y) dec A B) = some r) (kt : x = y → A = some r → ml_J E g nL Q k n (tgt) ls (st) M) (kf : ¬ (x = y) → B = some r → ml_J E g nL Q k n (pc + 3) ls (st) M) : ml_J E g nL Q k n (pc) ls (.int y :: .int x :: st) M := by
  obtain ⟨p, e, R, s, m, args, below, meth, c⟩ := E
  obtain ⟨⟨hx, hb, ht, ho, hm, hlk⟩, ⟨hK, ⟨M0, hD0⟩, hX, hz, htr⟩, ⟨hR1, hR2, hR3, hR4⟩, hret, htb⟩ := F
  have hD : va_D (ml_A g) (ml_wm g M) := ml_D_any hD0
  intro H locs la hP hS hl
  exact lv_icmp_eq hx hb hd hg (fun q => kt q (by rw [if_pos q] at h; exact h) H locs la hP hS hl) (fun q => kf q (by rw [if_neg q] at h; exact h) H locs la hP hS hl)
theorem ml_icmp_eqT {E : ml_E} {g : ml_G} {cc : ByteArray} {own : String} {nL lv mc ms : Nat} {ret : Option FieldType} {tb : List ExceptionTableEntry} {Q : State → Prop} {k n pc : Nat} {ls : List (Nat × Value)} {st : List Value} {M : ml_M} {x y : Int32} {off : Int} {tgt : Nat} (F : ml_F E g cc own nL lv mc ms ret tb) (hd : decode cc pc = .ok (.if_icmp .eq off, 3)) (hg : (pc : Int) + off = (tgt : Int)) (q : x = y) (K : ml_J E g nL Q k n (tgt) ls (st) M) : ml_J E g nL Q k n (pc) ls (.int y :: .int x :: st) M := by
  obtain ⟨p, e, R, s, m, args, below, meth, c⟩ := E
  obtain ⟨⟨hx, hb, ht, ho, hm, hlk⟩, ⟨hK, ⟨M0, hD0⟩, hX, hz, htr⟩, ⟨hR1, hR2, hR3, hR4⟩, hret, htb⟩ := F
  have hD : va_D (ml_A g) (ml_wm g M) := ml_D_any hD0
  intro H locs la hP hS hl
  exact lv_icmp_eq hx hb hd hg (fun _ => K H locs la hP hS hl) (fun q2 => absurd q q2)
theorem ml_icmp_eqF {E : ml_E} {g : ml_G} {cc : ByteArray} {own : String} {nL lv mc ms : Nat} {ret : Option FieldType} {tb : List ExceptionTableEntry} {Q : State → Prop} {k n pc : Nat} {ls : List (Nat × Value)} {st : List Value} {M : ml_M} {x y : Int32} {off : Int} {tgt : Nat} (F : ml_F E g cc own nL lv mc ms ret tb) (hd : decode cc pc = .ok (.if_icmp .eq off, 3)) (hg : (pc : Int) + off = (tgt : Int)) (q : ¬ (x = y)) (K : ml_J E g nL Q k n (pc + 3) ls (st) M) : ml_J E g nL Q k n (pc) ls (.int y :: .int x :: st) M := by
  obtain ⟨p, e, R, s, m, args, below, meth, c⟩ := E
  obtain ⟨⟨hx, hb, ht, ho, hm, hlk⟩, ⟨hK, ⟨M0, hD0⟩, hX, hz, htr⟩, ⟨hR1, hR2, hR3, hR4⟩, hret, htb⟩ := F
  have hD : va_D (ml_A g) (ml_wm g M) := ml_D_any hD0
  intro H locs la hP hS hl
  exact lv_icmp_eq hx hb hd hg (fun q2 => absurd q2 q) (fun _ => K H locs la hP hS hl)
theorem ml_if_ne {E : ml_E} {g : ml_G} {cc : ByteArray} {own : String} {nL lv mc ms : Nat} {ret : Option FieldType} {tb : List ExceptionTableEntry} {Q : State → Prop} {k n pc : Nat} {ls : List (Nat × Value)} {st : List Value} {M : ml_M} {α : Type} {A B : Option α} {r : α} {x : Int32} {dec : Decidable (x = 0)} {off : Int} {tgt : Nat} (F : ml_F E g cc own nL lv mc ms ret tb) (hd : decode cc pc = .ok (.ifCond .ne off, 3)) (hg : (pc : Int) + off = (tgt : Int)) (h : (@ite _ (x = 0) dec A B) = some r) (kt : ¬ (x = 0) → B = some r → ml_J E g nL Q k n (tgt) ls (st) M) (kf : x = 0 → A = some r → ml_J E g nL Q k n (pc + 3) ls (st) M) : ml_J E g nL Q k n (pc) ls (.int x :: st) M := by
  obtain ⟨p, e, R, s, m, args, below, meth, c⟩ := E
  obtain ⟨⟨hx, hb, ht, ho, hm, hlk⟩, ⟨hK, ⟨M0, hD0⟩, hX, hz, htr⟩, ⟨hR1, hR2, hR3, hR4⟩, hret, htb⟩ := F
  have hD : va_D (ml_A g) (ml_wm g M) := ml_D_any hD0
  intro H locs la hP hS hl
  exact lv_if_ne hx hb hd hg (fun q => kt q (by rw [if_neg q] at h; exact h) H locs la hP hS hl) (fun q => kf q (by rw [if_pos q] at h; exact h) H locs la hP hS hl)
theorem ml_if_neT {E : ml_E} {g : ml_G} {cc : ByteArray} {own : String} {nL lv mc ms : Nat} {ret : Option FieldType} {tb : List ExceptionTableEntry} {Q : State → Prop} {k n pc : Nat} {ls : List (Nat × Value)} {st : List Value} {M : ml_M} {x : Int32} {off : Int} {tgt : Nat} (F : ml_F E g cc own nL lv mc ms ret tb) (hd : decode cc pc = .ok (.ifCond .ne off, 3)) (hg : (pc : Int) + off = (tgt : Int)) (q : ¬ (x = 0)) (K : ml_J E g nL Q k n (tgt) ls (st) M) : ml_J E g nL Q k n (pc) ls (.int x :: st) M := by
  obtain ⟨p, e, R, s, m, args, below, meth, c⟩ := E
  obtain ⟨⟨hx, hb, ht, ho, hm, hlk⟩, ⟨hK, ⟨M0, hD0⟩, hX, hz, htr⟩, ⟨hR1, hR2, hR3, hR4⟩, hret, htb⟩ := F
  have hD : va_D (ml_A g) (ml_wm g M) := ml_D_any hD0
  intro H locs la hP hS hl
  exact lv_if_ne hx hb hd hg (fun _ => K H locs la hP hS hl) (fun q2 => absurd q (fun z => z q2))
theorem ml_if_neF {E : ml_E} {g : ml_G} {cc : ByteArray} {own : String} {nL lv mc ms : Nat} {ret : Option FieldType} {tb : List ExceptionTableEntry} {Q : State → Prop} {k n pc : Nat} {ls : List (Nat × Value)} {st : List Value} {M : ml_M} {x : Int32} {off : Int} {tgt : Nat} (F : ml_F E g cc own nL lv mc ms ret tb) (hd : decode cc pc = .ok (.ifCond .ne off, 3)) (hg : (pc : Int) + off = (tgt : Int)) (q : x = 0) (K : ml_J E g nL Q k n (pc + 3) ls (st) M) : ml_J E g nL Q k n (pc) ls (.int x :: st) M := by
  obtain ⟨p, e, R, s, m, args, below, meth, c⟩ := E
  obtain ⟨⟨hx, hb, ht, ho, hm, hlk⟩, ⟨hK, ⟨M0, hD0⟩, hX, hz, htr⟩, ⟨hR1, hR2, hR3, hR4⟩, hret, htb⟩ := F
  have hD : va_D (ml_A g) (ml_wm g M) := ml_D_any hD0
  intro H locs la hP hS hl
  exact lv_if_ne hx hb hd hg (fun q2 => absurd q q2) (fun _ => K H locs la hP hS hl)
theorem ml_icmp_ne {E : ml_E} {g : ml_G} {cc : ByteArray} {own : String} {nL lv mc ms : Nat} {ret : Option FieldType} {tb : List ExceptionTableEntry} {Q : State → Prop} {k n pc : Nat} {ls : List (Nat × Value)} {st : List Value} {M : ml_M} {α : Type} {A B : Option α} {r : α} {x y : Int32} {dec : Decidable (x = y)} {off : Int} {tgt : Nat} (F : ml_F E g cc own nL lv mc ms ret tb) (hd : decode cc pc = .ok (.if_icmp .ne off, 3)) (hg : (pc : Int) + off = (tgt : Int)) (h : (@ite _ (x = y) dec A B) = some r) (kt : ¬ (x = y) → B = some r → ml_J E g nL Q k n (tgt) ls (st) M) (kf : x = y → A = some r → ml_J E g nL Q k n (pc + 3) ls (st) M) : ml_J E g nL Q k n (pc) ls (.int y :: .int x :: st) M := by
  obtain ⟨p, e, R, s, m, args, below, meth, c⟩ := E
  obtain ⟨⟨hx, hb, ht, ho, hm, hlk⟩, ⟨hK, ⟨M0, hD0⟩, hX, hz, htr⟩, ⟨hR1, hR2, hR3, hR4⟩, hret, htb⟩ := F
  have hD : va_D (ml_A g) (ml_wm g M) := ml_D_any hD0
  intro H locs la hP hS hl
  exact lv_icmp_ne hx hb hd hg (fun q => kt q (by rw [if_neg q] at h; exact h) H locs la hP hS hl) (fun q => kf q (by rw [if_pos q] at h; exact h) H locs la hP hS hl)
theorem ml_icmp_neT {E : ml_E} {g : ml_G} {cc : ByteArray} {own : String} {nL lv mc ms : Nat} {ret : Option FieldType} {tb : List ExceptionTableEntry} {Q : State → Prop} {k n pc : Nat} {ls : List (Nat × Value)} {st : List Value} {M : ml_M} {x y : Int32} {off : Int} {tgt : Nat} (F : ml_F E g cc own nL lv mc ms ret tb) (hd : decode cc pc = .ok (.if_icmp .ne off, 3)) (hg : (pc : Int) + off = (tgt : Int)) (q : ¬ (x = y)) (K : ml_J E g nL Q k n (tgt) ls (st) M) : ml_J E g nL Q k n (pc) ls (.int y :: .int x :: st) M := by
  obtain ⟨p, e, R, s, m, args, below, meth, c⟩ := E
  obtain ⟨⟨hx, hb, ht, ho, hm, hlk⟩, ⟨hK, ⟨M0, hD0⟩, hX, hz, htr⟩, ⟨hR1, hR2, hR3, hR4⟩, hret, htb⟩ := F
  have hD : va_D (ml_A g) (ml_wm g M) := ml_D_any hD0
  intro H locs la hP hS hl
  exact lv_icmp_ne hx hb hd hg (fun _ => K H locs la hP hS hl) (fun q2 => absurd q (fun z => z q2))
theorem ml_icmp_neF {E : ml_E} {g : ml_G} {cc : ByteArray} {own : String} {nL lv mc ms : Nat} {ret : Option FieldType} {tb : List ExceptionTableEntry} {Q : State → Prop} {k n pc : Nat} {ls : List (Nat × Value)} {st : List Value} {M : ml_M} {x y : Int32} {off : Int} {tgt : Nat} (F : ml_F E g cc own nL lv mc ms ret tb) (hd : decode cc pc = .ok (.if_icmp .ne off, 3)) (hg : (pc : Int) + off = (tgt : Int)) (q : x = y) (K : ml_J E g nL Q k n (pc + 3) ls (st) M) : ml_J E g nL Q k n (pc) ls (.int y :: .int x :: st) M := by
  obtain ⟨p, e, R, s, m, args, below, meth, c⟩ := E
  obtain ⟨⟨hx, hb, ht, ho, hm, hlk⟩, ⟨hK, ⟨M0, hD0⟩, hX, hz, htr⟩, ⟨hR1, hR2, hR3, hR4⟩, hret, htb⟩ := F
  have hD : va_D (ml_A g) (ml_wm g M) := ml_D_any hD0
  intro H locs la hP hS hl
  exact lv_icmp_ne hx hb hd hg (fun q2 => absurd q q2) (fun _ => K H locs la hP hS hl)
theorem ml_if_lt {E : ml_E} {g : ml_G} {cc : ByteArray} {own : String} {nL lv mc ms : Nat} {ret : Option FieldType} {tb : List ExceptionTableEntry} {Q : State → Prop} {k n pc : Nat} {ls : List (Nat × Value)} {st : List Value} {M : ml_M} {α : Type} {A B : Option α} {r : α} {x : Int32} {dec : Decidable (x < 0)} {off : Int} {tgt : Nat} (F : ml_F E g cc own nL lv mc ms ret tb) (hd : decode cc pc = .ok (.ifCond .lt off, 3)) (hg : (pc : Int) + off = (tgt : Int)) (h : (@ite _ (x < 0) dec A B) = some r) (kt : x < 0 → A = some r → ml_J E g nL Q k n (tgt) ls (st) M) (kf : ¬ (x < 0) → B = some r → ml_J E g nL Q k n (pc + 3) ls (st) M) : ml_J E g nL Q k n (pc) ls (.int x :: st) M := by
  obtain ⟨p, e, R, s, m, args, below, meth, c⟩ := E
  obtain ⟨⟨hx, hb, ht, ho, hm, hlk⟩, ⟨hK, ⟨M0, hD0⟩, hX, hz, htr⟩, ⟨hR1, hR2, hR3, hR4⟩, hret, htb⟩ := F
  have hD : va_D (ml_A g) (ml_wm g M) := ml_D_any hD0
  intro H locs la hP hS hl
  exact lv_if_lt hx hb hd hg (fun q => kt q (by rw [if_pos q] at h; exact h) H locs la hP hS hl) (fun q => kf q (by rw [if_neg q] at h; exact h) H locs la hP hS hl)
theorem ml_if_ltT {E : ml_E} {g : ml_G} {cc : ByteArray} {own : String} {nL lv mc ms : Nat} {ret : Option FieldType} {tb : List ExceptionTableEntry} {Q : State → Prop} {k n pc : Nat} {ls : List (Nat × Value)} {st : List Value} {M : ml_M} {x : Int32} {off : Int} {tgt : Nat} (F : ml_F E g cc own nL lv mc ms ret tb) (hd : decode cc pc = .ok (.ifCond .lt off, 3)) (hg : (pc : Int) + off = (tgt : Int)) (q : x < 0) (K : ml_J E g nL Q k n (tgt) ls (st) M) : ml_J E g nL Q k n (pc) ls (.int x :: st) M := by
  obtain ⟨p, e, R, s, m, args, below, meth, c⟩ := E
  obtain ⟨⟨hx, hb, ht, ho, hm, hlk⟩, ⟨hK, ⟨M0, hD0⟩, hX, hz, htr⟩, ⟨hR1, hR2, hR3, hR4⟩, hret, htb⟩ := F
  have hD : va_D (ml_A g) (ml_wm g M) := ml_D_any hD0
  intro H locs la hP hS hl
  exact lv_if_lt hx hb hd hg (fun _ => K H locs la hP hS hl) (fun q2 => absurd q q2)
theorem ml_if_ltF {E : ml_E} {g : ml_G} {cc : ByteArray} {own : String} {nL lv mc ms : Nat} {ret : Option FieldType} {tb : List ExceptionTableEntry} {Q : State → Prop} {k n pc : Nat} {ls : List (Nat × Value)} {st : List Value} {M : ml_M} {x : Int32} {off : Int} {tgt : Nat} (F : ml_F E g cc own nL lv mc ms ret tb) (hd : decode cc pc = .ok (.ifCond .lt off, 3)) (hg : (pc : Int) + off = (tgt : Int)) (q : ¬ (x < 0)) (K : ml_J E g nL Q k n (pc + 3) ls (st) M) : ml_J E g nL Q k n (pc) ls (.int x :: st) M := by
  obtain ⟨p, e, R, s, m, args, below, meth, c⟩ := E
  obtain ⟨⟨hx, hb, ht, ho, hm, hlk⟩, ⟨hK, ⟨M0, hD0⟩, hX, hz, htr⟩, ⟨hR1, hR2, hR3, hR4⟩, hret, htb⟩ := F
  have hD : va_D (ml_A g) (ml_wm g M) := ml_D_any hD0
  intro H locs la hP hS hl
  exact lv_if_lt hx hb hd hg (fun q2 => absurd q2 q) (fun _ => K H locs la hP hS hl)
theorem ml_icmp_lt {E : ml_E} {g : ml_G} {cc : ByteArray} {own : String} {nL lv mc ms : Nat} {ret : Option FieldType} {tb : List ExceptionTableEntry} {Q : State → Prop} {k n pc : Nat} {ls : List (Nat × Value)} {st : List Value} {M : ml_M} {α : Type} {A B : Option α} {r : α} {x y : Int32} {dec : Decidable (x < y)} {off : Int} {tgt : Nat} (F : ml_F E g cc own nL lv mc ms ret tb) (hd : decode cc pc = .ok (.if_icmp .lt off, 3)) (hg : (pc : Int) + off = (tgt : Int)) (h : (@ite _ (x < y) dec A B) = some r) (kt : x < y → A = some r → ml_J E g nL Q k n (tgt) ls (st) M) (kf : ¬ (x < y) → B = some r → ml_J E g nL Q k n (pc + 3) ls (st) M) : ml_J E g nL Q k n (pc) ls (.int y :: .int x :: st) M := by
  obtain ⟨p, e, R, s, m, args, below, meth, c⟩ := E
  obtain ⟨⟨hx, hb, ht, ho, hm, hlk⟩, ⟨hK, ⟨M0, hD0⟩, hX, hz, htr⟩, ⟨hR1, hR2, hR3, hR4⟩, hret, htb⟩ := F
  have hD : va_D (ml_A g) (ml_wm g M) := ml_D_any hD0
  intro H locs la hP hS hl
  exact lv_icmp_lt hx hb hd hg (fun q => kt q (by rw [if_pos q] at h; exact h) H locs la hP hS hl) (fun q => kf q (by rw [if_neg q] at h; exact h) H locs la hP hS hl)
theorem ml_icmp_ltT {E : ml_E} {g : ml_G} {cc : ByteArray} {own : String} {nL lv mc ms : Nat} {ret : Option FieldType} {tb : List ExceptionTableEntry} {Q : State → Prop} {k n pc : Nat} {ls : List (Nat × Value)} {st : List Value} {M : ml_M} {x y : Int32} {off : Int} {tgt : Nat} (F : ml_F E g cc own nL lv mc ms ret tb) (hd : decode cc pc = .ok (.if_icmp .lt off, 3)) (hg : (pc : Int) + off = (tgt : Int)) (q : x < y) (K : ml_J E g nL Q k n (tgt) ls (st) M) : ml_J E g nL Q k n (pc) ls (.int y :: .int x :: st) M := by
  obtain ⟨p, e, R, s, m, args, below, meth, c⟩ := E
  obtain ⟨⟨hx, hb, ht, ho, hm, hlk⟩, ⟨hK, ⟨M0, hD0⟩, hX, hz, htr⟩, ⟨hR1, hR2, hR3, hR4⟩, hret, htb⟩ := F
  have hD : va_D (ml_A g) (ml_wm g M) := ml_D_any hD0
  intro H locs la hP hS hl
  exact lv_icmp_lt hx hb hd hg (fun _ => K H locs la hP hS hl) (fun q2 => absurd q q2)
theorem ml_icmp_ltF {E : ml_E} {g : ml_G} {cc : ByteArray} {own : String} {nL lv mc ms : Nat} {ret : Option FieldType} {tb : List ExceptionTableEntry} {Q : State → Prop} {k n pc : Nat} {ls : List (Nat × Value)} {st : List Value} {M : ml_M} {x y : Int32} {off : Int} {tgt : Nat} (F : ml_F E g cc own nL lv mc ms ret tb) (hd : decode cc pc = .ok (.if_icmp .lt off, 3)) (hg : (pc : Int) + off = (tgt : Int)) (q : ¬ (x < y)) (K : ml_J E g nL Q k n (pc + 3) ls (st) M) : ml_J E g nL Q k n (pc) ls (.int y :: .int x :: st) M := by
  obtain ⟨p, e, R, s, m, args, below, meth, c⟩ := E
  obtain ⟨⟨hx, hb, ht, ho, hm, hlk⟩, ⟨hK, ⟨M0, hD0⟩, hX, hz, htr⟩, ⟨hR1, hR2, hR3, hR4⟩, hret, htb⟩ := F
  have hD : va_D (ml_A g) (ml_wm g M) := ml_D_any hD0
  intro H locs la hP hS hl
  exact lv_icmp_lt hx hb hd hg (fun q2 => absurd q2 q) (fun _ => K H locs la hP hS hl)
theorem ml_if_ge {E : ml_E} {g : ml_G} {cc : ByteArray} {own : String} {nL lv mc ms : Nat} {ret : Option FieldType} {tb : List ExceptionTableEntry} {Q : State → Prop} {k n pc : Nat} {ls : List (Nat × Value)} {st : List Value} {M : ml_M} {α : Type} {A B : Option α} {r : α} {x : Int32} {dec : Decidable (0 ≤ x)} {off : Int} {tgt : Nat} (F : ml_F E g cc own nL lv mc ms ret tb) (hd : decode cc pc = .ok (.ifCond .ge off, 3)) (hg : (pc : Int) + off = (tgt : Int)) (h : (@ite _ (0 ≤ x) dec A B) = some r) (kt : 0 ≤ x → A = some r → ml_J E g nL Q k n (tgt) ls (st) M) (kf : ¬ (0 ≤ x) → B = some r → ml_J E g nL Q k n (pc + 3) ls (st) M) : ml_J E g nL Q k n (pc) ls (.int x :: st) M := by
  obtain ⟨p, e, R, s, m, args, below, meth, c⟩ := E
  obtain ⟨⟨hx, hb, ht, ho, hm, hlk⟩, ⟨hK, ⟨M0, hD0⟩, hX, hz, htr⟩, ⟨hR1, hR2, hR3, hR4⟩, hret, htb⟩ := F
  have hD : va_D (ml_A g) (ml_wm g M) := ml_D_any hD0
  intro H locs la hP hS hl
  exact lv_if_ge hx hb hd hg (fun q => kt q (by rw [if_pos q] at h; exact h) H locs la hP hS hl) (fun q => kf q (by rw [if_neg q] at h; exact h) H locs la hP hS hl)
theorem ml_if_geT {E : ml_E} {g : ml_G} {cc : ByteArray} {own : String} {nL lv mc ms : Nat} {ret : Option FieldType} {tb : List ExceptionTableEntry} {Q : State → Prop} {k n pc : Nat} {ls : List (Nat × Value)} {st : List Value} {M : ml_M} {x : Int32} {off : Int} {tgt : Nat} (F : ml_F E g cc own nL lv mc ms ret tb) (hd : decode cc pc = .ok (.ifCond .ge off, 3)) (hg : (pc : Int) + off = (tgt : Int)) (q : 0 ≤ x) (K : ml_J E g nL Q k n (tgt) ls (st) M) : ml_J E g nL Q k n (pc) ls (.int x :: st) M := by
  obtain ⟨p, e, R, s, m, args, below, meth, c⟩ := E
  obtain ⟨⟨hx, hb, ht, ho, hm, hlk⟩, ⟨hK, ⟨M0, hD0⟩, hX, hz, htr⟩, ⟨hR1, hR2, hR3, hR4⟩, hret, htb⟩ := F
  have hD : va_D (ml_A g) (ml_wm g M) := ml_D_any hD0
  intro H locs la hP hS hl
  exact lv_if_ge hx hb hd hg (fun _ => K H locs la hP hS hl) (fun q2 => absurd q q2)
theorem ml_if_geF {E : ml_E} {g : ml_G} {cc : ByteArray} {own : String} {nL lv mc ms : Nat} {ret : Option FieldType} {tb : List ExceptionTableEntry} {Q : State → Prop} {k n pc : Nat} {ls : List (Nat × Value)} {st : List Value} {M : ml_M} {x : Int32} {off : Int} {tgt : Nat} (F : ml_F E g cc own nL lv mc ms ret tb) (hd : decode cc pc = .ok (.ifCond .ge off, 3)) (hg : (pc : Int) + off = (tgt : Int)) (q : ¬ (0 ≤ x)) (K : ml_J E g nL Q k n (pc + 3) ls (st) M) : ml_J E g nL Q k n (pc) ls (.int x :: st) M := by
  obtain ⟨p, e, R, s, m, args, below, meth, c⟩ := E
  obtain ⟨⟨hx, hb, ht, ho, hm, hlk⟩, ⟨hK, ⟨M0, hD0⟩, hX, hz, htr⟩, ⟨hR1, hR2, hR3, hR4⟩, hret, htb⟩ := F
  have hD : va_D (ml_A g) (ml_wm g M) := ml_D_any hD0
  intro H locs la hP hS hl
  exact lv_if_ge hx hb hd hg (fun q2 => absurd q2 q) (fun _ => K H locs la hP hS hl)
theorem ml_icmp_ge {E : ml_E} {g : ml_G} {cc : ByteArray} {own : String} {nL lv mc ms : Nat} {ret : Option FieldType} {tb : List ExceptionTableEntry} {Q : State → Prop} {k n pc : Nat} {ls : List (Nat × Value)} {st : List Value} {M : ml_M} {α : Type} {A B : Option α} {r : α} {x y : Int32} {dec : Decidable (y ≤ x)} {off : Int} {tgt : Nat} (F : ml_F E g cc own nL lv mc ms ret tb) (hd : decode cc pc = .ok (.if_icmp .ge off, 3)) (hg : (pc : Int) + off = (tgt : Int)) (h : (@ite _ (y ≤ x) dec A B) = some r) (kt : y ≤ x → A = some r → ml_J E g nL Q k n (tgt) ls (st) M) (kf : ¬ (y ≤ x) → B = some r → ml_J E g nL Q k n (pc + 3) ls (st) M) : ml_J E g nL Q k n (pc) ls (.int y :: .int x :: st) M := by
  obtain ⟨p, e, R, s, m, args, below, meth, c⟩ := E
  obtain ⟨⟨hx, hb, ht, ho, hm, hlk⟩, ⟨hK, ⟨M0, hD0⟩, hX, hz, htr⟩, ⟨hR1, hR2, hR3, hR4⟩, hret, htb⟩ := F
  have hD : va_D (ml_A g) (ml_wm g M) := ml_D_any hD0
  intro H locs la hP hS hl
  exact lv_icmp_ge hx hb hd hg (fun q => kt q (by rw [if_pos q] at h; exact h) H locs la hP hS hl) (fun q => kf q (by rw [if_neg q] at h; exact h) H locs la hP hS hl)
theorem ml_icmp_geT {E : ml_E} {g : ml_G} {cc : ByteArray} {own : String} {nL lv mc ms : Nat} {ret : Option FieldType} {tb : List ExceptionTableEntry} {Q : State → Prop} {k n pc : Nat} {ls : List (Nat × Value)} {st : List Value} {M : ml_M} {x y : Int32} {off : Int} {tgt : Nat} (F : ml_F E g cc own nL lv mc ms ret tb) (hd : decode cc pc = .ok (.if_icmp .ge off, 3)) (hg : (pc : Int) + off = (tgt : Int)) (q : y ≤ x) (K : ml_J E g nL Q k n (tgt) ls (st) M) : ml_J E g nL Q k n (pc) ls (.int y :: .int x :: st) M := by
  obtain ⟨p, e, R, s, m, args, below, meth, c⟩ := E
  obtain ⟨⟨hx, hb, ht, ho, hm, hlk⟩, ⟨hK, ⟨M0, hD0⟩, hX, hz, htr⟩, ⟨hR1, hR2, hR3, hR4⟩, hret, htb⟩ := F
  have hD : va_D (ml_A g) (ml_wm g M) := ml_D_any hD0
  intro H locs la hP hS hl
  exact lv_icmp_ge hx hb hd hg (fun _ => K H locs la hP hS hl) (fun q2 => absurd q q2)
theorem ml_icmp_geF {E : ml_E} {g : ml_G} {cc : ByteArray} {own : String} {nL lv mc ms : Nat} {ret : Option FieldType} {tb : List ExceptionTableEntry} {Q : State → Prop} {k n pc : Nat} {ls : List (Nat × Value)} {st : List Value} {M : ml_M} {x y : Int32} {off : Int} {tgt : Nat} (F : ml_F E g cc own nL lv mc ms ret tb) (hd : decode cc pc = .ok (.if_icmp .ge off, 3)) (hg : (pc : Int) + off = (tgt : Int)) (q : ¬ (y ≤ x)) (K : ml_J E g nL Q k n (pc + 3) ls (st) M) : ml_J E g nL Q k n (pc) ls (.int y :: .int x :: st) M := by
  obtain ⟨p, e, R, s, m, args, below, meth, c⟩ := E
  obtain ⟨⟨hx, hb, ht, ho, hm, hlk⟩, ⟨hK, ⟨M0, hD0⟩, hX, hz, htr⟩, ⟨hR1, hR2, hR3, hR4⟩, hret, htb⟩ := F
  have hD : va_D (ml_A g) (ml_wm g M) := ml_D_any hD0
  intro H locs la hP hS hl
  exact lv_icmp_ge hx hb hd hg (fun q2 => absurd q2 q) (fun _ => K H locs la hP hS hl)
theorem ml_if_gt {E : ml_E} {g : ml_G} {cc : ByteArray} {own : String} {nL lv mc ms : Nat} {ret : Option FieldType} {tb : List ExceptionTableEntry} {Q : State → Prop} {k n pc : Nat} {ls : List (Nat × Value)} {st : List Value} {M : ml_M} {α : Type} {A B : Option α} {r : α} {x : Int32} {dec : Decidable (0 < x)} {off : Int} {tgt : Nat} (F : ml_F E g cc own nL lv mc ms ret tb) (hd : decode cc pc = .ok (.ifCond .gt off, 3)) (hg : (pc : Int) + off = (tgt : Int)) (h : (@ite _ (0 < x) dec A B) = some r) (kt : 0 < x → A = some r → ml_J E g nL Q k n (tgt) ls (st) M) (kf : ¬ (0 < x) → B = some r → ml_J E g nL Q k n (pc + 3) ls (st) M) : ml_J E g nL Q k n (pc) ls (.int x :: st) M := by
  obtain ⟨p, e, R, s, m, args, below, meth, c⟩ := E
  obtain ⟨⟨hx, hb, ht, ho, hm, hlk⟩, ⟨hK, ⟨M0, hD0⟩, hX, hz, htr⟩, ⟨hR1, hR2, hR3, hR4⟩, hret, htb⟩ := F
  have hD : va_D (ml_A g) (ml_wm g M) := ml_D_any hD0
  intro H locs la hP hS hl
  exact lv_if_gt hx hb hd hg (fun q => kt q (by rw [if_pos q] at h; exact h) H locs la hP hS hl) (fun q => kf q (by rw [if_neg q] at h; exact h) H locs la hP hS hl)
theorem ml_if_gtT {E : ml_E} {g : ml_G} {cc : ByteArray} {own : String} {nL lv mc ms : Nat} {ret : Option FieldType} {tb : List ExceptionTableEntry} {Q : State → Prop} {k n pc : Nat} {ls : List (Nat × Value)} {st : List Value} {M : ml_M} {x : Int32} {off : Int} {tgt : Nat} (F : ml_F E g cc own nL lv mc ms ret tb) (hd : decode cc pc = .ok (.ifCond .gt off, 3)) (hg : (pc : Int) + off = (tgt : Int)) (q : 0 < x) (K : ml_J E g nL Q k n (tgt) ls (st) M) : ml_J E g nL Q k n (pc) ls (.int x :: st) M := by
  obtain ⟨p, e, R, s, m, args, below, meth, c⟩ := E
  obtain ⟨⟨hx, hb, ht, ho, hm, hlk⟩, ⟨hK, ⟨M0, hD0⟩, hX, hz, htr⟩, ⟨hR1, hR2, hR3, hR4⟩, hret, htb⟩ := F
  have hD : va_D (ml_A g) (ml_wm g M) := ml_D_any hD0
  intro H locs la hP hS hl
  exact lv_if_gt hx hb hd hg (fun _ => K H locs la hP hS hl) (fun q2 => absurd q q2)
theorem ml_if_gtF {E : ml_E} {g : ml_G} {cc : ByteArray} {own : String} {nL lv mc ms : Nat} {ret : Option FieldType} {tb : List ExceptionTableEntry} {Q : State → Prop} {k n pc : Nat} {ls : List (Nat × Value)} {st : List Value} {M : ml_M} {x : Int32} {off : Int} {tgt : Nat} (F : ml_F E g cc own nL lv mc ms ret tb) (hd : decode cc pc = .ok (.ifCond .gt off, 3)) (hg : (pc : Int) + off = (tgt : Int)) (q : ¬ (0 < x)) (K : ml_J E g nL Q k n (pc + 3) ls (st) M) : ml_J E g nL Q k n (pc) ls (.int x :: st) M := by
  obtain ⟨p, e, R, s, m, args, below, meth, c⟩ := E
  obtain ⟨⟨hx, hb, ht, ho, hm, hlk⟩, ⟨hK, ⟨M0, hD0⟩, hX, hz, htr⟩, ⟨hR1, hR2, hR3, hR4⟩, hret, htb⟩ := F
  have hD : va_D (ml_A g) (ml_wm g M) := ml_D_any hD0
  intro H locs la hP hS hl
  exact lv_if_gt hx hb hd hg (fun q2 => absurd q2 q) (fun _ => K H locs la hP hS hl)
theorem ml_icmp_gt {E : ml_E} {g : ml_G} {cc : ByteArray} {own : String} {nL lv mc ms : Nat} {ret : Option FieldType} {tb : List ExceptionTableEntry} {Q : State → Prop} {k n pc : Nat} {ls : List (Nat × Value)} {st : List Value} {M : ml_M} {α : Type} {A B : Option α} {r : α} {x y : Int32} {dec : Decidable (y < x)} {off : Int} {tgt : Nat} (F : ml_F E g cc own nL lv mc ms ret tb) (hd : decode cc pc = .ok (.if_icmp .gt off, 3)) (hg : (pc : Int) + off = (tgt : Int)) (h : (@ite _ (y < x) dec A B) = some r) (kt : y < x → A = some r → ml_J E g nL Q k n (tgt) ls (st) M) (kf : ¬ (y < x) → B = some r → ml_J E g nL Q k n (pc + 3) ls (st) M) : ml_J E g nL Q k n (pc) ls (.int y :: .int x :: st) M := by
  obtain ⟨p, e, R, s, m, args, below, meth, c⟩ := E
  obtain ⟨⟨hx, hb, ht, ho, hm, hlk⟩, ⟨hK, ⟨M0, hD0⟩, hX, hz, htr⟩, ⟨hR1, hR2, hR3, hR4⟩, hret, htb⟩ := F
  have hD : va_D (ml_A g) (ml_wm g M) := ml_D_any hD0
  intro H locs la hP hS hl
  exact lv_icmp_gt hx hb hd hg (fun q => kt q (by rw [if_pos q] at h; exact h) H locs la hP hS hl) (fun q => kf q (by rw [if_neg q] at h; exact h) H locs la hP hS hl)
theorem ml_icmp_gtT {E : ml_E} {g : ml_G} {cc : ByteArray} {own : String} {nL lv mc ms : Nat} {ret : Option FieldType} {tb : List ExceptionTableEntry} {Q : State → Prop} {k n pc : Nat} {ls : List (Nat × Value)} {st : List Value} {M : ml_M} {x y : Int32} {off : Int} {tgt : Nat} (F : ml_F E g cc own nL lv mc ms ret tb) (hd : decode cc pc = .ok (.if_icmp .gt off, 3)) (hg : (pc : Int) + off = (tgt : Int)) (q : y < x) (K : ml_J E g nL Q k n (tgt) ls (st) M) : ml_J E g nL Q k n (pc) ls (.int y :: .int x :: st) M := by
  obtain ⟨p, e, R, s, m, args, below, meth, c⟩ := E
  obtain ⟨⟨hx, hb, ht, ho, hm, hlk⟩, ⟨hK, ⟨M0, hD0⟩, hX, hz, htr⟩, ⟨hR1, hR2, hR3, hR4⟩, hret, htb⟩ := F
  have hD : va_D (ml_A g) (ml_wm g M) := ml_D_any hD0
  intro H locs la hP hS hl
  exact lv_icmp_gt hx hb hd hg (fun _ => K H locs la hP hS hl) (fun q2 => absurd q q2)
theorem ml_icmp_gtF {E : ml_E} {g : ml_G} {cc : ByteArray} {own : String} {nL lv mc ms : Nat} {ret : Option FieldType} {tb : List ExceptionTableEntry} {Q : State → Prop} {k n pc : Nat} {ls : List (Nat × Value)} {st : List Value} {M : ml_M} {x y : Int32} {off : Int} {tgt : Nat} (F : ml_F E g cc own nL lv mc ms ret tb) (hd : decode cc pc = .ok (.if_icmp .gt off, 3)) (hg : (pc : Int) + off = (tgt : Int)) (q : ¬ (y < x)) (K : ml_J E g nL Q k n (pc + 3) ls (st) M) : ml_J E g nL Q k n (pc) ls (.int y :: .int x :: st) M := by
  obtain ⟨p, e, R, s, m, args, below, meth, c⟩ := E
  obtain ⟨⟨hx, hb, ht, ho, hm, hlk⟩, ⟨hK, ⟨M0, hD0⟩, hX, hz, htr⟩, ⟨hR1, hR2, hR3, hR4⟩, hret, htb⟩ := F
  have hD : va_D (ml_A g) (ml_wm g M) := ml_D_any hD0
  intro H locs la hP hS hl
  exact lv_icmp_gt hx hb hd hg (fun q2 => absurd q2 q) (fun _ => K H locs la hP hS hl)
theorem ml_if_le {E : ml_E} {g : ml_G} {cc : ByteArray} {own : String} {nL lv mc ms : Nat} {ret : Option FieldType} {tb : List ExceptionTableEntry} {Q : State → Prop} {k n pc : Nat} {ls : List (Nat × Value)} {st : List Value} {M : ml_M} {α : Type} {A B : Option α} {r : α} {x : Int32} {dec : Decidable (x ≤ 0)} {off : Int} {tgt : Nat} (F : ml_F E g cc own nL lv mc ms ret tb) (hd : decode cc pc = .ok (.ifCond .le off, 3)) (hg : (pc : Int) + off = (tgt : Int)) (h : (@ite _ (x ≤ 0) dec A B) = some r) (kt : x ≤ 0 → A = some r → ml_J E g nL Q k n (tgt) ls (st) M) (kf : ¬ (x ≤ 0) → B = some r → ml_J E g nL Q k n (pc + 3) ls (st) M) : ml_J E g nL Q k n (pc) ls (.int x :: st) M := by
  obtain ⟨p, e, R, s, m, args, below, meth, c⟩ := E
  obtain ⟨⟨hx, hb, ht, ho, hm, hlk⟩, ⟨hK, ⟨M0, hD0⟩, hX, hz, htr⟩, ⟨hR1, hR2, hR3, hR4⟩, hret, htb⟩ := F
  have hD : va_D (ml_A g) (ml_wm g M) := ml_D_any hD0
  intro H locs la hP hS hl
  exact lv_if_le hx hb hd hg (fun q => kt q (by rw [if_pos q] at h; exact h) H locs la hP hS hl) (fun q => kf q (by rw [if_neg q] at h; exact h) H locs la hP hS hl)
theorem ml_if_leT {E : ml_E} {g : ml_G} {cc : ByteArray} {own : String} {nL lv mc ms : Nat} {ret : Option FieldType} {tb : List ExceptionTableEntry} {Q : State → Prop} {k n pc : Nat} {ls : List (Nat × Value)} {st : List Value} {M : ml_M} {x : Int32} {off : Int} {tgt : Nat} (F : ml_F E g cc own nL lv mc ms ret tb) (hd : decode cc pc = .ok (.ifCond .le off, 3)) (hg : (pc : Int) + off = (tgt : Int)) (q : x ≤ 0) (K : ml_J E g nL Q k n (tgt) ls (st) M) : ml_J E g nL Q k n (pc) ls (.int x :: st) M := by
  obtain ⟨p, e, R, s, m, args, below, meth, c⟩ := E
  obtain ⟨⟨hx, hb, ht, ho, hm, hlk⟩, ⟨hK, ⟨M0, hD0⟩, hX, hz, htr⟩, ⟨hR1, hR2, hR3, hR4⟩, hret, htb⟩ := F
  have hD : va_D (ml_A g) (ml_wm g M) := ml_D_any hD0
  intro H locs la hP hS hl
  exact lv_if_le hx hb hd hg (fun _ => K H locs la hP hS hl) (fun q2 => absurd q q2)
theorem ml_if_leF {E : ml_E} {g : ml_G} {cc : ByteArray} {own : String} {nL lv mc ms : Nat} {ret : Option FieldType} {tb : List ExceptionTableEntry} {Q : State → Prop} {k n pc : Nat} {ls : List (Nat × Value)} {st : List Value} {M : ml_M} {x : Int32} {off : Int} {tgt : Nat} (F : ml_F E g cc own nL lv mc ms ret tb) (hd : decode cc pc = .ok (.ifCond .le off, 3)) (hg : (pc : Int) + off = (tgt : Int)) (q : ¬ (x ≤ 0)) (K : ml_J E g nL Q k n (pc + 3) ls (st) M) : ml_J E g nL Q k n (pc) ls (.int x :: st) M := by
  obtain ⟨p, e, R, s, m, args, below, meth, c⟩ := E
  obtain ⟨⟨hx, hb, ht, ho, hm, hlk⟩, ⟨hK, ⟨M0, hD0⟩, hX, hz, htr⟩, ⟨hR1, hR2, hR3, hR4⟩, hret, htb⟩ := F
  have hD : va_D (ml_A g) (ml_wm g M) := ml_D_any hD0
  intro H locs la hP hS hl
  exact lv_if_le hx hb hd hg (fun q2 => absurd q2 q) (fun _ => K H locs la hP hS hl)
theorem ml_icmp_le {E : ml_E} {g : ml_G} {cc : ByteArray} {own : String} {nL lv mc ms : Nat} {ret : Option FieldType} {tb : List ExceptionTableEntry} {Q : State → Prop} {k n pc : Nat} {ls : List (Nat × Value)} {st : List Value} {M : ml_M} {α : Type} {A B : Option α} {r : α} {x y : Int32} {dec : Decidable (x ≤ y)} {off : Int} {tgt : Nat} (F : ml_F E g cc own nL lv mc ms ret tb) (hd : decode cc pc = .ok (.if_icmp .le off, 3)) (hg : (pc : Int) + off = (tgt : Int)) (h : (@ite _ (x ≤ y) dec A B) = some r) (kt : x ≤ y → A = some r → ml_J E g nL Q k n (tgt) ls (st) M) (kf : ¬ (x ≤ y) → B = some r → ml_J E g nL Q k n (pc + 3) ls (st) M) : ml_J E g nL Q k n (pc) ls (.int y :: .int x :: st) M := by
  obtain ⟨p, e, R, s, m, args, below, meth, c⟩ := E
  obtain ⟨⟨hx, hb, ht, ho, hm, hlk⟩, ⟨hK, ⟨M0, hD0⟩, hX, hz, htr⟩, ⟨hR1, hR2, hR3, hR4⟩, hret, htb⟩ := F
  have hD : va_D (ml_A g) (ml_wm g M) := ml_D_any hD0
  intro H locs la hP hS hl
  exact lv_icmp_le hx hb hd hg (fun q => kt q (by rw [if_pos q] at h; exact h) H locs la hP hS hl) (fun q => kf q (by rw [if_neg q] at h; exact h) H locs la hP hS hl)
theorem ml_icmp_leT {E : ml_E} {g : ml_G} {cc : ByteArray} {own : String} {nL lv mc ms : Nat} {ret : Option FieldType} {tb : List ExceptionTableEntry} {Q : State → Prop} {k n pc : Nat} {ls : List (Nat × Value)} {st : List Value} {M : ml_M} {x y : Int32} {off : Int} {tgt : Nat} (F : ml_F E g cc own nL lv mc ms ret tb) (hd : decode cc pc = .ok (.if_icmp .le off, 3)) (hg : (pc : Int) + off = (tgt : Int)) (q : x ≤ y) (K : ml_J E g nL Q k n (tgt) ls (st) M) : ml_J E g nL Q k n (pc) ls (.int y :: .int x :: st) M := by
  obtain ⟨p, e, R, s, m, args, below, meth, c⟩ := E
  obtain ⟨⟨hx, hb, ht, ho, hm, hlk⟩, ⟨hK, ⟨M0, hD0⟩, hX, hz, htr⟩, ⟨hR1, hR2, hR3, hR4⟩, hret, htb⟩ := F
  have hD : va_D (ml_A g) (ml_wm g M) := ml_D_any hD0
  intro H locs la hP hS hl
  exact lv_icmp_le hx hb hd hg (fun _ => K H locs la hP hS hl) (fun q2 => absurd q q2)
theorem ml_icmp_leF {E : ml_E} {g : ml_G} {cc : ByteArray} {own : String} {nL lv mc ms : Nat} {ret : Option FieldType} {tb : List ExceptionTableEntry} {Q : State → Prop} {k n pc : Nat} {ls : List (Nat × Value)} {st : List Value} {M : ml_M} {x y : Int32} {off : Int} {tgt : Nat} (F : ml_F E g cc own nL lv mc ms ret tb) (hd : decode cc pc = .ok (.if_icmp .le off, 3)) (hg : (pc : Int) + off = (tgt : Int)) (q : ¬ (x ≤ y)) (K : ml_J E g nL Q k n (pc + 3) ls (st) M) : ml_J E g nL Q k n (pc) ls (.int y :: .int x :: st) M := by
  obtain ⟨p, e, R, s, m, args, below, meth, c⟩ := E
  obtain ⟨⟨hx, hb, ht, ho, hm, hlk⟩, ⟨hK, ⟨M0, hD0⟩, hX, hz, htr⟩, ⟨hR1, hR2, hR3, hR4⟩, hret, htb⟩ := F
  have hD : va_D (ml_A g) (ml_wm g M) := ml_D_any hD0
  intro H locs la hP hS hl
  exact lv_icmp_le hx hb hd hg (fun q2 => absurd q2 q) (fun _ => K H locs la hP hS hl)
theorem ml_goto {E : ml_E} {g : ml_G} {cc : ByteArray} {own : String} {nL lv mc ms : Nat} {ret : Option FieldType} {tb : List ExceptionTableEntry} {Q : State → Prop} {k n pc : Nat} {ls : List (Nat × Value)} {st : List Value} {M : ml_M} {off : Int} {tgt : Nat} (F : ml_F E g cc own nL lv mc ms ret tb) (hd : decode cc pc = .ok (.goto off, 3)) (hg : (pc : Int) + off = (tgt : Int)) (K : ml_J E g nL Q k n (tgt) ls (st) M) : ml_J E g nL Q k n (pc) ls (st) M := by
  obtain ⟨p, e, R, s, m, args, below, meth, c⟩ := E
  obtain ⟨⟨hx, hb, ht, ho, hm, hlk⟩, ⟨hK, ⟨M0, hD0⟩, hX, hz, htr⟩, ⟨hR1, hR2, hR3, hR4⟩, hret, htb⟩ := F
  have hD : va_D (ml_A g) (ml_wm g M) := ml_D_any hD0
  intro H locs la hP hS hl
  exact lv_goto hx hb hd hg (K H locs la hP hS hl)
theorem ml_lookup {E : ml_E} {g : ml_G} {cc : ByteArray} {own : String} {nL lv mc ms : Nat} {ret : Option FieldType} {tb : List ExceptionTableEntry} {Q : State → Prop} {k n pc : Nat} {ls : List (Nat × Value)} {st : List Value} {M : ml_M} {dflt : Int} {ps : Array (Int × Int)} {len : Nat} {x : Int32} {off : Int} {tgt : Nat} (F : ml_F E g cc own nL lv mc ms ret tb) (hd : decode cc pc = .ok (.lookupswitch dflt ps, len)) (hp : (ps.toList.zip (ps.toList.drop 1)).all (fun (a, next) => a.1 < next.1) = true) (hof : Op.lookupswitch.offset ps.toList dflt x.toInt = off) (hg : (pc : Int) + off = (tgt : Int)) (K : ml_J E g nL Q k n (tgt) ls (st) M) : ml_J E g nL Q k n (pc) ls (.int x :: st) M := by
  obtain ⟨p, e, R, s, m, args, below, meth, c⟩ := E
  obtain ⟨⟨hx, hb, ht, ho, hm, hlk⟩, ⟨hK, ⟨M0, hD0⟩, hX, hz, htr⟩, ⟨hR1, hR2, hR3, hR4⟩, hret, htb⟩ := F
  have hD : va_D (ml_A g) (ml_wm g M) := ml_D_any hD0
  intro H locs la hP hS hl
  exact lv_lookup hx hb hd hp hof hg (K H locs la hP hS hl)
theorem ml_tableIn {E : ml_E} {g : ml_G} {cc : ByteArray} {own : String} {nL lv mc ms : Nat} {ret : Option FieldType} {tb : List ExceptionTableEntry} {Q : State → Prop} {k n pc : Nat} {ls : List (Nat × Value)} {st : List Value} {M : ml_M} {dflt lo hi : Int} {offs : Array Int} {len : Nat} {x : Int32} {off : Int} {tgt : Nat} (F : ml_F E g cc own nL lv mc ms ret tb) (hd : decode cc pc = .ok (.tableswitch dflt lo hi offs, len)) (h1 : ¬ x.toInt < lo) (h2 : ¬ hi < x.toInt) (hof : offs[(x.toInt - lo).toNat]? = some off) (hg : (pc : Int) + off = (tgt : Int)) (K : ml_J E g nL Q k n (tgt) ls (st) M) : ml_J E g nL Q k n (pc) ls (.int x :: st) M := by
  obtain ⟨p, e, R, s, m, args, below, meth, c⟩ := E
  obtain ⟨⟨hx, hb, ht, ho, hm, hlk⟩, ⟨hK, ⟨M0, hD0⟩, hX, hz, htr⟩, ⟨hR1, hR2, hR3, hR4⟩, hret, htb⟩ := F
  have hD : va_D (ml_A g) (ml_wm g M) := ml_D_any hD0
  intro H locs la hP hS hl
  exact lv_tableIn hx hb hd h1 h2 hof hg (K H locs la hP hS hl)
theorem ml_tableOut {E : ml_E} {g : ml_G} {cc : ByteArray} {own : String} {nL lv mc ms : Nat} {ret : Option FieldType} {tb : List ExceptionTableEntry} {Q : State → Prop} {k n pc : Nat} {ls : List (Nat × Value)} {st : List Value} {M : ml_M} {dflt lo hi : Int} {offs : Array Int} {len : Nat} {x : Int32} {tgt : Nat} (F : ml_F E g cc own nL lv mc ms ret tb) (hd : decode cc pc = .ok (.tableswitch dflt lo hi offs, len)) (h1 : x.toInt < lo ∨ hi < x.toInt) (hg : (pc : Int) + dflt = (tgt : Int)) (K : ml_J E g nL Q k n (tgt) ls (st) M) : ml_J E g nL Q k n (pc) ls (.int x :: st) M := by
  obtain ⟨p, e, R, s, m, args, below, meth, c⟩ := E
  obtain ⟨⟨hx, hb, ht, ho, hm, hlk⟩, ⟨hK, ⟨M0, hD0⟩, hX, hz, htr⟩, ⟨hR1, hR2, hR3, hR4⟩, hret, htb⟩ := F
  have hD : va_D (ml_A g) (ml_wm g M) := ml_D_any hD0
  intro H locs la hP hS hl
  exact lv_tableOut hx hb hd h1 hg (K H locs la hP hS hl)
theorem ml_ifc {α : Type} {c P : Prop} {A B : Option α} {r : α} {d : Decidable c} (h : (@ite _ c d A B) = some r) (kt : c → A = some r → P) (kf : ¬ c → B = some r → P) : P := by
  by_cases q : c
  · exact kt q (by rw [if_pos q] at h; exact h)
  · exact kf q (by rw [if_neg q] at h; exact h)
theorem ml_ne_i {x k : Int32} (h : ¬ x = k) : ¬ k.toInt = x.toInt := fun e => h (Int32.toInt_inj.mp e.symm)
/-- an array's place: its type's number, its length -/
def ml_I (g : ml_G) (k t z : Nat) : Prop := ml_vp k ∧ ∀ m, ml_ct g k m = ml_ar g t z m
/-- an object's place -/
def ml_O (g : ml_G) (k ci : Nat) (fs : (Nat → Int32) → List Value) : Prop := ml_vp k ∧ ∀ m, ml_ct g k m = .inr (ci, fs m)
theorem ml_iald {E : ml_E} {g : ml_G} {cc : ByteArray} {own : String} {nL lv mc ms : Nat} {ret : Option FieldType} {tb : List ExceptionTableEntry} {Q : State → Prop} {k n pc : Nat} {ls : List (Nat × Value)} {st : List Value} {M : ml_M} {ka z : Nat} {i : Int32} {α : Type} {A : Option α} {r : α} {dec : Decidable (ml_ok i z)} (F : ml_F E g cc own nL lv mc ms ret tb) (I : ml_I g ka 0 z) (h : (@ite _ (ml_ok i z) dec A none) = some r) (hd : decode cc pc = .ok (.iaload, 1)) (K : A = some r → ml_J E g nL Q k n (pc + 1) ls (.int (M ka i.toNatClampNeg) :: st) M) : ml_J E g nL Q k n (pc) ls (.int i :: ml_rf g ka :: st) M := by
  obtain ⟨p, e, R, s, m, args, below, meth, c⟩ := E
  obtain ⟨⟨hx, hb, ht, ho, hm, hlk⟩, ⟨hK, ⟨M0, hD0⟩, hX, hz, htr⟩, ⟨hR1, hR2, hR3, hR4⟩, hret, htb⟩ := F
  have hD : va_D (ml_A g) (ml_wm g M) := ml_D_any hD0
  intro H locs la hP hS hl
  have hq := ml_if h
  exact va_iald (D := g.2.1) (cl := vwCl) (tys := ml_ty g) hx hb hK hP (ml_ix ka) 0 (by rw [ml_wm_at I.1, I.2]; rfl) rfl (ml_ok_in hq.1) hd (K hq.2 H locs la hP hS hl)
theorem ml_cald {E : ml_E} {g : ml_G} {cc : ByteArray} {own : String} {nL lv mc ms : Nat} {ret : Option FieldType} {tb : List ExceptionTableEntry} {Q : State → Prop} {k n pc : Nat} {ls : List (Nat × Value)} {st : List Value} {M : ml_M} {ka z : Nat} {i : Int32} {α : Type} {A : Option α} {r : α} {dec : Decidable (ml_ok i z)} (F : ml_F E g cc own nL lv mc ms ret tb) (I : ml_I g ka 1 z) (h : (@ite _ (ml_ok i z) dec A none) = some r) (hd : decode cc pc = .ok (.caload, 1)) (K : A = some r → ml_J E g nL Q k n (pc + 1) ls (.int (M ka i.toNatClampNeg) :: st) M) : ml_J E g nL Q k n (pc) ls (.int i :: ml_rf g ka :: st) M := by
  obtain ⟨p, e, R, s, m, args, below, meth, c⟩ := E
  obtain ⟨⟨hx, hb, ht, ho, hm, hlk⟩, ⟨hK, ⟨M0, hD0⟩, hX, hz, htr⟩, ⟨hR1, hR2, hR3, hR4⟩, hret, htb⟩ := F
  have hD : va_D (ml_A g) (ml_wm g M) := ml_D_any hD0
  intro H locs la hP hS hl
  have hq := ml_if h
  exact va_cald (D := g.2.1) (cl := vwCl) (tys := ml_ty g) hx hb hK hP (ml_ix ka) 1 (by rw [ml_wm_at I.1, I.2]; rfl) rfl (ml_ok_in hq.1) hd (K hq.2 H locs la hP hS hl)
theorem ml_zald {E : ml_E} {g : ml_G} {cc : ByteArray} {own : String} {nL lv mc ms : Nat} {ret : Option FieldType} {tb : List ExceptionTableEntry} {Q : State → Prop} {k n pc : Nat} {ls : List (Nat × Value)} {st : List Value} {M : ml_M} {ka z : Nat} {i : Int32} {α : Type} {A : Option α} {r : α} {dec : Decidable (ml_ok i z)} (F : ml_F E g cc own nL lv mc ms ret tb) (I : ml_I g ka 2 z) (h : (@ite _ (ml_ok i z) dec A none) = some r) (hd : decode cc pc = .ok (.baload, 1)) (K : A = some r → ml_J E g nL Q k n (pc + 1) ls (.int (M ka i.toNatClampNeg) :: st) M) : ml_J E g nL Q k n (pc) ls (.int i :: ml_rf g ka :: st) M := by
  obtain ⟨p, e, R, s, m, args, below, meth, c⟩ := E
  obtain ⟨⟨hx, hb, ht, ho, hm, hlk⟩, ⟨hK, ⟨M0, hD0⟩, hX, hz, htr⟩, ⟨hR1, hR2, hR3, hR4⟩, hret, htb⟩ := F
  have hD : va_D (ml_A g) (ml_wm g M) := ml_D_any hD0
  intro H locs la hP hS hl
  have hq := ml_if h
  exact va_zald (D := g.2.1) (cl := vwCl) (tys := ml_ty g) hx hb hK hP (ml_ix ka) 2 (by rw [ml_wm_at I.1, I.2]; rfl) rfl (ml_ok_in hq.1) hd (K hq.2 H locs la hP hS hl)
theorem ml_bald {E : ml_E} {g : ml_G} {cc : ByteArray} {own : String} {nL lv mc ms : Nat} {ret : Option FieldType} {tb : List ExceptionTableEntry} {Q : State → Prop} {k n pc : Nat} {ls : List (Nat × Value)} {st : List Value} {M : ml_M} {ka z : Nat} {i : Int32} {α : Type} {A : Option α} {r : α} {dec : Decidable (ml_ok i z)} (F : ml_F E g cc own nL lv mc ms ret tb) (I : ml_I g ka 4 z) (h : (@ite _ (ml_ok i z) dec A none) = some r) (hd : decode cc pc = .ok (.baload, 1)) (K : A = some r → ml_J E g nL Q k n (pc + 1) ls (.int (M ka i.toNatClampNeg) :: st) M) : ml_J E g nL Q k n (pc) ls (.int i :: ml_rf g ka :: st) M := by
  obtain ⟨p, e, R, s, m, args, below, meth, c⟩ := E
  obtain ⟨⟨hx, hb, ht, ho, hm, hlk⟩, ⟨hK, ⟨M0, hD0⟩, hX, hz, htr⟩, ⟨hR1, hR2, hR3, hR4⟩, hret, htb⟩ := F
  have hD : va_D (ml_A g) (ml_wm g M) := ml_D_any hD0
  intro H locs la hP hS hl
  have hq := ml_if h
  exact va_bald (D := g.2.1) (cl := vwCl) (tys := ml_ty g) hx hb hK hP (ml_ix ka) 4 (by rw [ml_wm_at I.1, I.2]; rfl) rfl (ml_ok_in hq.1) hd (K hq.2 H locs la hP hS hl)
theorem ml_iast {E : ml_E} {g : ml_G} {cc : ByteArray} {own : String} {nL lv mc ms : Nat} {ret : Option FieldType} {tb : List ExceptionTableEntry} {Q : State → Prop} {k n pc : Nat} {ls : List (Nat × Value)} {st : List Value} {M : ml_M} {ka z : Nat} {i x : Int32} {α : Type} {A : Option α} {r : α} {dec : Decidable (ml_ok i z)} (F : ml_F E g cc own nL lv mc ms ret tb) (I : ml_I g ka 0 z) (h : (@ite _ (ml_ok i z) dec A none) = some r) (hd : decode cc pc = .ok (.iastore, 1)) (K : A = some r → ml_J E g nL Q k n (pc + 1) ls (st) (ml_w M ka i.toNatClampNeg (x))) : ml_J E g nL Q k n (pc) ls (.int x :: .int i :: ml_rf g ka :: st) M := by
  obtain ⟨p, e, R, s, m, args, below, meth, c⟩ := E
  obtain ⟨⟨hx, hb, ht, ho, hm, hlk⟩, ⟨hK, ⟨M0, hD0⟩, hX, hz, htr⟩, ⟨hR1, hR2, hR3, hR4⟩, hret, htb⟩ := F
  have hD : va_D (ml_A g) (ml_wm g M) := ml_D_any hD0
  intro H locs la hP hS hl
  have hq := ml_if h
  refine va_iast (D := g.2.1) (cl := vwCl) (tys := ml_ty g) hx hb hK hP hD hS (ml_ix ka) 0 (by rw [ml_wm_at I.1, I.2]; rfl) rfl (ml_ok_in hq.1) hd (fun H1 locs1 hP1 hD1 hS1 => ?_)
  rw [ml_wm_set I.1 (j := i.toNatClampNeg) (x := x) (by rw [I.2]; rfl)] at hP1
  exact K hq.2 H1 locs1 la hP1 hS1 hl
theorem ml_cast {E : ml_E} {g : ml_G} {cc : ByteArray} {own : String} {nL lv mc ms : Nat} {ret : Option FieldType} {tb : List ExceptionTableEntry} {Q : State → Prop} {k n pc : Nat} {ls : List (Nat × Value)} {st : List Value} {M : ml_M} {ka z : Nat} {i x : Int32} {α : Type} {A : Option α} {r : α} {dec : Decidable (ml_ok i z)} (F : ml_F E g cc own nL lv mc ms ret tb) (I : ml_I g ka 1 z) (h : (@ite _ (ml_ok i z) dec A none) = some r) (hd : decode cc pc = .ok (.castore, 1)) (K : A = some r → ml_J E g nL Q k n (pc + 1) ls (st) (ml_w M ka i.toNatClampNeg (vp_nar .char x))) : ml_J E g nL Q k n (pc) ls (.int x :: .int i :: ml_rf g ka :: st) M := by
  obtain ⟨p, e, R, s, m, args, below, meth, c⟩ := E
  obtain ⟨⟨hx, hb, ht, ho, hm, hlk⟩, ⟨hK, ⟨M0, hD0⟩, hX, hz, htr⟩, ⟨hR1, hR2, hR3, hR4⟩, hret, htb⟩ := F
  have hD : va_D (ml_A g) (ml_wm g M) := ml_D_any hD0
  intro H locs la hP hS hl
  have hq := ml_if h
  refine va_cast (D := g.2.1) (cl := vwCl) (tys := ml_ty g) hx hb hK hP hD hS (ml_ix ka) 1 (by rw [ml_wm_at I.1, I.2]; rfl) rfl (ml_ok_in hq.1) hd (fun H1 locs1 hP1 hD1 hS1 => ?_)
  rw [ml_wm_set I.1 (j := i.toNatClampNeg) (x := vp_nar .char x) (by rw [I.2]; rfl)] at hP1
  exact K hq.2 H1 locs1 la hP1 hS1 hl
theorem ml_zast {E : ml_E} {g : ml_G} {cc : ByteArray} {own : String} {nL lv mc ms : Nat} {ret : Option FieldType} {tb : List ExceptionTableEntry} {Q : State → Prop} {k n pc : Nat} {ls : List (Nat × Value)} {st : List Value} {M : ml_M} {ka z : Nat} {i x : Int32} {α : Type} {A : Option α} {r : α} {dec : Decidable (ml_ok i z)} (F : ml_F E g cc own nL lv mc ms ret tb) (I : ml_I g ka 2 z) (h : (@ite _ (ml_ok i z) dec A none) = some r) (hd : decode cc pc = .ok (.bastore, 1)) (K : A = some r → ml_J E g nL Q k n (pc + 1) ls (st) (ml_w M ka i.toNatClampNeg (vp_nar .boolean x))) : ml_J E g nL Q k n (pc) ls (.int x :: .int i :: ml_rf g ka :: st) M := by
  obtain ⟨p, e, R, s, m, args, below, meth, c⟩ := E
  obtain ⟨⟨hx, hb, ht, ho, hm, hlk⟩, ⟨hK, ⟨M0, hD0⟩, hX, hz, htr⟩, ⟨hR1, hR2, hR3, hR4⟩, hret, htb⟩ := F
  have hD : va_D (ml_A g) (ml_wm g M) := ml_D_any hD0
  intro H locs la hP hS hl
  have hq := ml_if h
  refine va_zast (D := g.2.1) (cl := vwCl) (tys := ml_ty g) hx hb hK hP hD hS (ml_ix ka) 2 (by rw [ml_wm_at I.1, I.2]; rfl) rfl (ml_ok_in hq.1) hd (fun H1 locs1 hP1 hD1 hS1 => ?_)
  rw [ml_wm_set I.1 (j := i.toNatClampNeg) (x := vp_nar .boolean x) (by rw [I.2]; rfl)] at hP1
  exact K hq.2 H1 locs1 la hP1 hS1 hl
theorem ml_bast {E : ml_E} {g : ml_G} {cc : ByteArray} {own : String} {nL lv mc ms : Nat} {ret : Option FieldType} {tb : List ExceptionTableEntry} {Q : State → Prop} {k n pc : Nat} {ls : List (Nat × Value)} {st : List Value} {M : ml_M} {ka z : Nat} {i x : Int32} {α : Type} {A : Option α} {r : α} {dec : Decidable (ml_ok i z)} (F : ml_F E g cc own nL lv mc ms ret tb) (I : ml_I g ka 4 z) (h : (@ite _ (ml_ok i z) dec A none) = some r) (hd : decode cc pc = .ok (.bastore, 1)) (K : A = some r → ml_J E g nL Q k n (pc + 1) ls (st) (ml_w M ka i.toNatClampNeg (vp_nar .byte x))) : ml_J E g nL Q k n (pc) ls (.int x :: .int i :: ml_rf g ka :: st) M := by
  obtain ⟨p, e, R, s, m, args, below, meth, c⟩ := E
  obtain ⟨⟨hx, hb, ht, ho, hm, hlk⟩, ⟨hK, ⟨M0, hD0⟩, hX, hz, htr⟩, ⟨hR1, hR2, hR3, hR4⟩, hret, htb⟩ := F
  have hD : va_D (ml_A g) (ml_wm g M) := ml_D_any hD0
  intro H locs la hP hS hl
  have hq := ml_if h
  refine va_bast (D := g.2.1) (cl := vwCl) (tys := ml_ty g) hx hb hK hP hD hS (ml_ix ka) 4 (by rw [ml_wm_at I.1, I.2]; rfl) rfl (ml_ok_in hq.1) hd (fun H1 locs1 hP1 hD1 hS1 => ?_)
  rw [ml_wm_set I.1 (j := i.toNatClampNeg) (x := vp_nar .byte x) (by rw [I.2]; rfl)] at hP1
  exact K hq.2 H1 locs1 la hP1 hS1 hl
theorem ml_aald {E : ml_E} {g : ml_G} {cc : ByteArray} {own : String} {nL lv mc ms : Nat} {ret : Option FieldType} {tb : List ExceptionTableEntry} {Q : State → Prop} {k n pc : Nat} {ls : List (Nat × Value)} {st : List Value} {M : ml_M} {i : Int32} {α : Type} {A : Option α} {r : α} {dec : Decidable (ml_ok i 8)} (F : ml_F E g cc own nL lv mc ms ret tb) (h : (@ite _ (ml_ok i 8) dec A none) = some r) (hd : decode cc pc = .ok (.aaload, 1)) (K : A = some r → ml_J E g nL Q k n (pc + 1) ls (ml_rf g (ml_fl (3 + i.toNatClampNeg)) :: st) M) : ml_J E g nL Q k n (pc) ls (.int i :: ml_rf g 2 :: st) M := by
  obtain ⟨p, e, R, s, m, args, below, meth, c⟩ := E
  obtain ⟨⟨hx, hb, ht, ho, hm, hlk⟩, ⟨hK, ⟨M0, hD0⟩, hX, hz, htr⟩, ⟨hR1, hR2, hR3, hR4⟩, hret, htb⟩ := F
  have hD : va_D (ml_A g) (ml_wm g M) := ml_D_any hD0
  intro H locs la hP hS hl
  have hq := ml_if h
  exact va_aldq (D := g.2.1) (cl := vwCl) (tys := ml_ty g) hx hb hK hP (ml_ix 2) 3 (f := fun i => some (g.2.2.2.1 (ml_fl (3 + i)))) (by rw [ml_wm_at (by decide)]; rfl) rfl (ml_ok_in hq.1) hd (K hq.2 H locs la hP hS hl)
theorem ml_get {E : ml_E} {g : ml_G} {cc : ByteArray} {own : String} {nL lv mc ms : Nat} {ret : Option FieldType} {tb : List ExceptionTableEntry} {Q : State → Prop} {k n pc : Nat} {ls : List (Nat × Value)} {st : List Value} {M : ml_M} {kb ci idx : Nat} {fs : (Nat → Int32) → List Value} {C : String} {T : u_T} {N : Nat} {ref : String} {v : Value} (F : ml_F E g cc own nL lv mc ms ret tb) (O : ml_O g kb ci fs) (hc : vwCl[ci]? = some (C, T, N)) (hin : ∀ w ∈ u_ws C T N, w ∈ ml_all) (j : Nat) (hj : j < N) (hlk2 : Cond.fieldLink own idx ref (T j).2.1 (T j).2.2.1 ∈ ml_all) (hsm : (T j).1 = ref) (hv : (fs (M kb))[j]? = some v) (hd : decode cc pc = .ok (.getfield idx, 3)) (K : ml_J E g nL Q k n (pc + 3) ls (v :: st) M) : ml_J E g nL Q k n (pc) ls (ml_rf g kb :: st) M := by
  obtain ⟨p, e, R, s, m, args, below, meth, c⟩ := E
  obtain ⟨⟨hx, hb, ht, ho, hm, hlk⟩, ⟨hK, ⟨M0, hD0⟩, hX, hz, htr⟩, ⟨hR1, hR2, hR3, hR4⟩, hret, htb⟩ := F
  have hD : va_D (ml_A g) (ml_wm g M) := ml_D_any hD0
  intro H locs la hP hS hl
  subst hsm
  exact va_get (D := g.2.1) (cl := vwCl) (tys := ml_ty g) (C := C) (T := T) (N := N) hx hb ht hin ho hK hP (ml_ix kb) (by rw [ml_wm_at O.1, O.2]) hc j hj (ht _ hlk2) (fun _ h9 => h9) hv hd (K H locs la hP hS hl)
theorem ml_set {E : ml_E} {g : ml_G} {cc : ByteArray} {own : String} {nL lv mc ms : Nat} {ret : Option FieldType} {tb : List ExceptionTableEntry} {Q : State → Prop} {k n pc : Nat} {ls : List (Nat × Value)} {st : List Value} {M : ml_M} {kb ci idx : Nat} {fs : (Nat → Int32) → List Value} {C : String} {T : u_T} {N : Nat} {ref : String} {x : Int32} {ty : FieldType} {ty0 : Nat → FieldType} (F : ml_F E g cc own nL lv mc ms ret tb) (O : ml_O g kb ci fs) (hc : vwCl[ci]? = some (C, T, N)) (hin : ∀ w ∈ u_ws C T N, w ∈ ml_all) (hty : ∀ k, k < N → parseFieldDescriptor (T k).2.2.1 = some (ty0 k)) (hnm : ∀ a, a < N → ∀ b, b < N → a ≠ b → (T a).2.1 ≠ (T b).2.1) (j : Nat) (hj : j < N) (hlk2 : Cond.fieldLink own idx ref (T j).2.1 (T j).2.2.1 ∈ ml_all) (hsm : (T j).1 = ref) (hfin : (T j).2.2.2 = false) (hdd : ty0 j = ty) (hnr : narrow ty (.int x) = .int x) (hft : fits ty (.int x) = true) (hlen : j < (fs (M kb)).length) (hset : ∀ m, (fs m).set j (.int x) = fs (upd m j x)) (hd : decode cc pc = .ok (.putfield idx, 3)) (K : ml_J E g nL Q k n (pc + 3) ls (st) (ml_w M kb j x)) : ml_J E g nL Q k n (pc) ls (.int x :: ml_rf g kb :: st) M := by
  obtain ⟨p, e, R, s, m, args, below, meth, c⟩ := E
  obtain ⟨⟨hx, hb, ht, ho, hm, hlk⟩, ⟨hK, ⟨M0, hD0⟩, hX, hz, htr⟩, ⟨hR1, hR2, hR3, hR4⟩, hret, htb⟩ := F
  have hD : va_D (ml_A g) (ml_wm g M) := ml_D_any hD0
  intro H locs la hP hS hl
  subst hsm
  refine va_put (D := g.2.1) (cl := vwCl) (tys := ml_ty g) (C := C) (T := T) (N := N) hx hb ht hin ty0 hty hnm ho hK hP hD hS (ml_ix kb) (by rw [ml_wm_at O.1, O.2]) hc j hj (ht _ hlk2) (fun _ h9 => h9) hfin (hty j hj) (by rw [hdd]; exact hnr) (by rw [hdd]; exact hft) hlen hd (fun H1 locs1 hP1 hD1 hS1 => ?_)
  rw [ml_wm_set O.1 (j := j) (x := x) (by rw [O.2, hset])] at hP1
  exact K H1 locs1 la hP1 hS1 hl
theorem ml_gsv {E : ml_E} {g : ml_G} {cc : ByteArray} {own : String} {nL lv mc ms : Nat} {ret : Option FieldType} {tb : List ExceptionTableEntry} {Q : State → Prop} {k n pc : Nat} {ls : List (Nat × Value)} {st : List Value} {M : ml_M} {idx : Nat} (F : ml_F E g cc own nL lv mc ms ret tb) (hlk2 : Cond.fieldLink own idx RX6 "START_VOLUMES" "[I" ∈ ml_all) (hd : decode cc pc = .ok (.getstatic idx, 3)) (K : ml_J E g nL Q k n (pc + 3) ls (.ref (g.2.2.2.2.1 0) :: st) M) : ml_J E g nL Q k n (pc) ls (st) M := by
  obtain ⟨p, e, R, s, m, args, below, meth, c⟩ := E
  obtain ⟨⟨hx, hb, ht, ho, hm, hlk⟩, ⟨hK, ⟨M0, hD0⟩, hX, hz, htr⟩, ⟨hR1, hR2, hR3, hR4⟩, hret, htb⟩ := F
  have hD : va_D (ml_A g) (ml_wm g M) := ml_D_any hD0
  intro H locs la hP hS hl
  exact va_gets hx hb hX.1.1.1 hS ho (ht _ hlk2) (fun _ h9 => h9) hd (K H locs la hP hS hl)
theorem ml_gcs {E : ml_E} {g : ml_G} {cc : ByteArray} {own : String} {nL lv mc ms : Nat} {ret : Option FieldType} {tb : List ExceptionTableEntry} {Q : State → Prop} {k n pc : Nat} {ls : List (Nat × Value)} {st : List Value} {M : ml_M} {idx : Nat} (F : ml_F E g cc own nL lv mc ms ret tb) (hlk2 : Cond.fieldLink own idx RX6 "COLOUR_SIGNS" "[C" ∈ ml_all) (hd : decode cc pc = .ok (.getstatic idx, 3)) (K : ml_J E g nL Q k n (pc + 3) ls (.ref (g.2.2.2.2.1 1) :: st) M) : ml_J E g nL Q k n (pc) ls (st) M := by
  obtain ⟨p, e, R, s, m, args, below, meth, c⟩ := E
  obtain ⟨⟨hx, hb, ht, ho, hm, hlk⟩, ⟨hK, ⟨M0, hD0⟩, hX, hz, htr⟩, ⟨hR1, hR2, hR3, hR4⟩, hret, htb⟩ := F
  have hD : va_D (ml_A g) (ml_wm g M) := ml_D_any hD0
  intro H locs la hP hS hl
  exact va_gets hx hb hX.1.2.1.1 hS ho (ht _ hlk2) (fun _ h9 => h9) hd (K H locs la hP hS hl)
theorem ml_gsvN {E : ml_E} {g : ml_G} {cc : ByteArray} {own : String} {nL lv mc ms : Nat} {ret : Option FieldType} {tb : List ExceptionTableEntry} {Q : State → Prop} {k n pc : Nat} {ls : List (Nat × Value)} {st : List Value} {M : ml_M} {idx : Nat} (F : ml_F E g cc own nL lv mc ms ret tb) (hlk2 : Cond.fieldLinkNest own idx RX6 "START_VOLUMES" "[I" RX6 ∈ ml_nest) (hd : decode cc pc = .ok (.getstatic idx, 3)) (K : ml_J E g nL Q k n (pc + 3) ls (.ref (g.2.2.2.2.1 0) :: st) M) : ml_J E g nL Q k n (pc) ls (st) M := by
  obtain ⟨p, e, R, s, m, args, below, meth, c⟩ := E
  obtain ⟨⟨hx, hb, ht, ho, hm, hlk⟩, ⟨hK, ⟨M0, hD0⟩, hX, hz, htr⟩, ⟨hR1, hR2, hR3, hR4⟩, hret, htb⟩ := F
  have hD : va_D (ml_A g) (ml_wm g M) := ml_D_any hD0
  intro H locs la hP hS hl
  exact va_getsN hx hb hX.1.1.1 hS ho (va_Nw.use rfl (hX.2.1 _ hlk2)) (fun _ h9 => h9) hd (K H locs la hP hS hl)
theorem ml_gcsN {E : ml_E} {g : ml_G} {cc : ByteArray} {own : String} {nL lv mc ms : Nat} {ret : Option FieldType} {tb : List ExceptionTableEntry} {Q : State → Prop} {k n pc : Nat} {ls : List (Nat × Value)} {st : List Value} {M : ml_M} {idx : Nat} (F : ml_F E g cc own nL lv mc ms ret tb) (hlk2 : Cond.fieldLinkNest own idx RX6 "COLOUR_SIGNS" "[C" RX6 ∈ ml_nest) (hd : decode cc pc = .ok (.getstatic idx, 3)) (K : ml_J E g nL Q k n (pc + 3) ls (.ref (g.2.2.2.2.1 1) :: st) M) : ml_J E g nL Q k n (pc) ls (st) M := by
  obtain ⟨p, e, R, s, m, args, below, meth, c⟩ := E
  obtain ⟨⟨hx, hb, ht, ho, hm, hlk⟩, ⟨hK, ⟨M0, hD0⟩, hX, hz, htr⟩, ⟨hR1, hR2, hR3, hR4⟩, hret, htb⟩ := F
  have hD : va_D (ml_A g) (ml_wm g M) := ml_D_any hD0
  intro H locs la hP hS hl
  exact va_getsN hx hb hX.1.2.1.1 hS ho (va_Nw.use rfl (hX.2.1 _ hlk2)) (fun _ h9 => h9) hd (K H locs la hP hS hl)
theorem ml_svld {E : ml_E} {g : ml_G} {cc : ByteArray} {own : String} {nL lv mc ms : Nat} {ret : Option FieldType} {tb : List ExceptionTableEntry} {Q : State → Prop} {k n pc : Nat} {ls : List (Nat × Value)} {st : List Value} {M : ml_M} {i : Int32} {α : Type} {A : Option α} {r : α} {dec : Decidable (ml_ok i 5)} (F : ml_F E g cc own nL lv mc ms ret tb) (h : (@ite _ (ml_ok i 5) dec A none) = some r) (hd : decode cc pc = .ok (.iaload, 1)) (K : A = some r → ml_J E g nL Q k n (pc + 1) ls (.int (ml_sv i.toNatClampNeg) :: st) M) : ml_J E g nL Q k n (pc) ls (.int i :: .ref (g.2.2.2.2.1 0) :: st) M := by
  obtain ⟨p, e, R, s, m, args, below, meth, c⟩ := E
  obtain ⟨⟨hx, hb, ht, ho, hm, hlk⟩, ⟨hK, ⟨M0, hD0⟩, hX, hz, htr⟩, ⟨hR1, hR2, hR3, hR4⟩, hret, htb⟩ := F
  have hD : va_D (ml_A g) (ml_wm g M) := ml_D_any hD0
  intro H locs la hP hS hl
  have hq := ml_if h
  exact va_ti hx hb hX.1.1.2 hS (ml_ok_in hq.1) rfl hd (K hq.2 H locs la hP hS hl)
theorem ml_csld {E : ml_E} {g : ml_G} {cc : ByteArray} {own : String} {nL lv mc ms : Nat} {ret : Option FieldType} {tb : List ExceptionTableEntry} {Q : State → Prop} {k n pc : Nat} {ls : List (Nat × Value)} {st : List Value} {M : ml_M} {i : Int32} {α : Type} {A : Option α} {r : α} {dec : Decidable (ml_ok i 3)} (F : ml_F E g cc own nL lv mc ms ret tb) (h : (@ite _ (ml_ok i 3) dec A none) = some r) (hd : decode cc pc = .ok (.caload, 1)) (K : A = some r → ml_J E g nL Q k n (pc + 1) ls (.int (ml_cs i.toNatClampNeg) :: st) M) : ml_J E g nL Q k n (pc) ls (.int i :: .ref (g.2.2.2.2.1 1) :: st) M := by
  obtain ⟨p, e, R, s, m, args, below, meth, c⟩ := E
  obtain ⟨⟨hx, hb, ht, ho, hm, hlk⟩, ⟨hK, ⟨M0, hD0⟩, hX, hz, htr⟩, ⟨hR1, hR2, hR3, hR4⟩, hret, htb⟩ := F
  have hD : va_D (ml_A g) (ml_wm g M) := ml_D_any hD0
  intro H locs la hP hS hl
  have hq := ml_if h
  exact va_tc hx hb hX.1.2.1.2 hS (ml_ok_in hq.1) rfl hd (K hq.2 H locs la hP hS hl)
def ml_rm (lv mc ms : Nat) : Room := { frames := 40 + lv, cells := mc, slots := ms, locals := 800 + 64 * lv }
def ml_ex (e : Nat) : String := match e with
  | 1 => "java/lang/IndexOutOfBoundsException"
  | 2 => "java/lang/IllegalArgumentException"
  | 3 => "java/lang/IllegalStateException"
  | 4 => "java/util/NoSuchElementException"
  | _ => "java/lang/UnsupportedOperationException"
def ml_Q (g : ml_G) (vl : Int32 → ml_M → Option Value) (res : ml_R) : Array Value → State → Outcome → State → Prop := fun _ st o t => ∃ r, res.1 = .inl r ∧ o = .returned (vl r res.2) ∧ ml_P g res.2 t.heap ∧ va_F (ml_A g) st t
def ml_XC (g : ml_G) (res : ml_R) : String → State → State → Prop := fun Ex st t => ∃ e, res.1 = .inr e ∧ Ex = ml_ex e ∧ ml_P g res.2 t.heap ∧ va_F (ml_A g) st t
/-- a method's contract: from the memory M it comes to the result res -/
def ml_C (y : MethodName) (cc : ByteArray) (maxL : Nat) (ret : Option FieldType) (lv mc ms : Nat) (g : ml_G) (vl : Int32 → ml_M → Option Value) (av : List Value) (M : ml_M) (res : ml_R) : Prop :=
  vx_Met g.2.2.2.2.2 y (ml_ws y cc maxL ret) (ml_rm lv mc ms) (va_Pc av (ml_H g M)) (ml_Q g vl res) (ml_XC g res) mc ms (ml_A g)
/-- what a body owes at its end -/
def ml_Z (E : ml_E) (g : ml_G) (vl : Int32 → ml_M → Option Value) (res : ml_R) (mc ms : Nat) : State → Prop := match E with
  | (_, _, _, s, _, args, below, _, _) => vx_MQ below (ml_Q g vl res) (ml_XC g res) args s mc ms (ml_A g)
theorem ml_of {y : MethodName} {cc : ByteArray} {maxL : Nat} {ret : Option FieldType} {lv mc ms : Nat} {g : ml_G} {vl : Int32 → ml_M → Option Value} {av : List Value} {M : ml_M} {res : ml_R} (ls : List (Nat × Value)) (hst : g.2.2.2.2.2.stackTraces = false) (hy : plainName y.cls = true) (hn : (lg_sl av).length ≤ maxL) (hls : lv_args 0 av = ls)
    (body : ∀ E : ml_E, ml_F E g cc y.cls maxL lv mc ms ret [] → ml_J E g maxL (ml_Z E g vl res mc ms) 0 0 0 ls [] M) : ml_C y cc maxL ret lv mc ms g vl av M res := by
  subst hls
  refine vx_ofW (cc := cc) (maxL := maxL) (ret := ret) hy rfl ?_
  intro p e s m args below meth c s₁ B hml htb hv
  obtain ⟨rfl, hz, hP, hK, hD, hX⟩ := hv
  have hts := atoms_spec (ws := ml_ws y cc maxL ret) B.pre
  have htb2 : c.exceptionTable.toList = [] := by
    cases h : c.exceptionTable.toList with
    | nil => rfl
    | cons x t => exact absurd (htb x (by rw [h]; exact List.mem_cons_self)) id
  rw [lg_entry_eq]
  exact body (p, e, (headSpec (ml_ws y cc maxL ret) (ml_rm lv mc ms)).room, s, m, av.toArray, below, meth, c) ⟨⟨B.exec, B.bytes, fun w hw => hts w (List.mem_cons_of_mem _ hw), findClass_of_methodNamed B.named, hml, B.notSynchronized⟩, ⟨hK, ⟨M, hD⟩, hX, hz, hst⟩, ⟨Nat.le_refl _, Nat.le_refl _, Nat.le_refl _, Nat.le_refl _⟩, B.returns, htb2⟩ s.heap [] _ hP va_S.rf (lv_entry av hn)
theorem ml_iret {E : ml_E} {g : ml_G} {cc : ByteArray} {own : String} {nL lv mc ms : Nat} {ret : Option FieldType} {tb : List ExceptionTableEntry} {k n pc : Nat} {ls : List (Nat × Value)} {st : List Value} {M : ml_M} {vl : Int32 → ml_M → Option Value} {res : ml_R} {x : Int32} {ty : FieldType} (F : ml_F E g cc own nL lv mc ms ret tb) (h : ((Sum.inl x, M) : ml_R) = res) (hvl : vl x M = some (.int x)) (h0 : ret = some ty) (hn : narrow ty (.int x) = .int x) (hk : k ≤ mc) (hn2 : n ≤ ms) (hd : decode cc pc = .ok (.ireturn, 1)) : ml_J E g nL (ml_Z E g vl res mc ms) k n (pc) ls (.int x :: []) M := by
  obtain ⟨p, e, R, s, m, args, below, meth, c⟩ := E
  obtain ⟨⟨hx, hb, ht, ho, hm, hlk⟩, ⟨hK, ⟨M0, hD0⟩, hX, hz, htr⟩, ⟨hR1, hR2, hR3, hR4⟩, hret, htb⟩ := F
  have hD : va_D (ml_A g) (ml_wm g M) := ml_D_any hD0
  intro H locs la hP hS hl
  subst h
  refine W.widen hk hn2 (vx_ret ?_)
  exact W.zret (ty := ty) (v := x) hx hb (hret.trans h0) hn (fun t ht9 hW => ⟨x, rfl, by rw [hvl], by rw [ht9]; exact hP, hS.F ht9⟩) hS.2.2 hd hlk
theorem ml_vret {E : ml_E} {g : ml_G} {cc : ByteArray} {own : String} {nL lv mc ms : Nat} {ret : Option FieldType} {tb : List ExceptionTableEntry} {k n pc : Nat} {ls : List (Nat × Value)} {st : List Value} {M : ml_M} {vl : Int32 → ml_M → Option Value} {res : ml_R} {x : Int32} (F : ml_F E g cc own nL lv mc ms ret tb) (h : ((Sum.inl x, M) : ml_R) = res) (hvl : vl x M = none) (h0 : ret = none) (hk : k ≤ mc) (hn2 : n ≤ ms) (hd : decode cc pc = .ok (.return_, 1)) : ml_J E g nL (ml_Z E g vl res mc ms) k n (pc) ls ([]) M := by
  obtain ⟨p, e, R, s, m, args, below, meth, c⟩ := E
  obtain ⟨⟨hx, hb, ht, ho, hm, hlk⟩, ⟨hK, ⟨M0, hD0⟩, hX, hz, htr⟩, ⟨hR1, hR2, hR3, hR4⟩, hret, htb⟩ := F
  have hD : va_D (ml_A g) (ml_wm g M) := ml_D_any hD0
  intro H locs la hP hS hl
  subst h
  refine W.widen hk hn2 (vx_ret ?_)
  exact W.vret hx hb (hret.trans h0) (fun t ht9 hW => ⟨x, rfl, by rw [hvl], by rw [ht9]; exact hP, hS.F ht9⟩) hS.2.2 hd hlk
theorem ml_dret {E : ml_E} {g : ml_G} {cc : ByteArray} {own : String} {nL lv mc ms : Nat} {ret : Option FieldType} {tb : List ExceptionTableEntry} {k n pc : Nat} {ls : List (Nat × Value)} {st : List Value} {M : ml_M} {vl : Int32 → ml_M → Option Value} {res : ml_R} {x : Int32} {v : UInt64} (F : ml_F E g cc own nL lv mc ms ret tb) (h : ((Sum.inl x, M) : ml_R) = res) (hvl : vl x M = some (.double v)) (h0 : ret = some .double) (hk : k ≤ mc) (hn2 : n ≤ ms) (hd : decode cc pc = .ok (.dreturn, 1)) : ml_J E g nL (ml_Z E g vl res mc ms) k n (pc) ls (.double v :: []) M := by
  obtain ⟨p, e, R, s, m, args, below, meth, c⟩ := E
  obtain ⟨⟨hx, hb, ht, ho, hm, hlk⟩, ⟨hK, ⟨M0, hD0⟩, hX, hz, htr⟩, ⟨hR1, hR2, hR3, hR4⟩, hret, htb⟩ := F
  have hD : va_D (ml_A g) (ml_wm g M) := ml_D_any hD0
  intro H locs la hP hS hl
  subst h
  refine W.widen hk hn2 (vx_ret ?_)
  exact W.dret (v := v) hx hb (hret.trans h0) (fun t ht9 hW => ⟨x, rfl, by rw [hvl], by rw [ht9]; exact hP, hS.F ht9⟩) hS.2.2 hd hlk
theorem ml_fret {E : ml_E} {g : ml_G} {cc : ByteArray} {own : String} {nL lv mc ms : Nat} {ret : Option FieldType} {tb : List ExceptionTableEntry} {k n pc : Nat} {ls : List (Nat × Value)} {st : List Value} {M : ml_M} {vl : Int32 → ml_M → Option Value} {res : ml_R} {x : Int32} {v : UInt32} (F : ml_F E g cc own nL lv mc ms ret tb) (h : ((Sum.inl x, M) : ml_R) = res) (hvl : vl x M = some (.float v)) (h0 : ret = some .float) (hk : k ≤ mc) (hn2 : n ≤ ms) (hd : decode cc pc = .ok (.freturn, 1)) : ml_J E g nL (ml_Z E g vl res mc ms) k n (pc) ls (.float v :: []) M := by
  obtain ⟨p, e, R, s, m, args, below, meth, c⟩ := E
  obtain ⟨⟨hx, hb, ht, ho, hm, hlk⟩, ⟨hK, ⟨M0, hD0⟩, hX, hz, htr⟩, ⟨hR1, hR2, hR3, hR4⟩, hret, htb⟩ := F
  have hD : va_D (ml_A g) (ml_wm g M) := ml_D_any hD0
  intro H locs la hP hS hl
  subst h
  refine W.widen hk hn2 (vx_ret ?_)
  exact W.fret (v := v) hx hb (hret.trans h0) (fun t ht9 hW => ⟨x, rfl, by rw [hvl], by rw [ht9]; exact hP, hS.F ht9⟩) hS.2.2 hd hlk
theorem ml_H_blind {g : ml_G} {M : ml_M} {av : List Value} : FrameBlind (va_Pc av (ml_H g M)) := by
  intro a U g9 mk hq
  obtain ⟨q0, q1, q2, q3, q4, q5⟩ := hq
  exact ⟨q0, q1, q2, va_K.moved (u := U) (U := U.calling g9 mk a) (Vm.Alike.refl U.vm) q3, q4, ml_X1_to (s := U) (U := U.calling g9 mk a) (Vm.Alike.refl U.vm) (fun _ _ _ => rfl) q5.1, ml_X2_to (s := U) (U := U.calling g9 mk a) (State.WarmedH.refl U) q5.2⟩
abbrev ml_wd (y : MethodName) (z : Nat) : Prop := y.cls ≠ "java/lang/invoke/MethodHandle" ∧ y.cls ≠ "java/lang/invoke/VarHandle" ∧ (parseMethodDescriptor y.desc).map (fun d => d.parameters.length) = some z
/-- a callee's words -/
def ml_wc (y : MethodName) (yc : ByteArray) (yn : Nat) (yr : Option FieldType) : Prop := Cond.code y yc yn yr ∈ ml_all ∧ Cond.initialized y.cls ∈ ml_all ∧ yn ≤ 40
theorem ml_cb {R : Room} {s : State} {args : Array Value} {own : String} {idx : Nat} {y : MethodName} {yc : ByteArray} {yn : Nat} {yr : Option FieldType} {lv lv2 mc2 ms2 z : Nat} (ht : ∀ w ∈ ml_all, w.before args s = true) (W1 : ml_wc y yc yn yr) (hl : Cond.methodLink own idx y ∈ ml_all) (hd : ml_wd y z) (h1 : 40 + lv ≤ R.frames) (h2 : 800 + 64 * lv ≤ R.locals) (h3 : lv2 < lv) : CallB R s args own idx y yc yn yr (ml_ws y yc yn yr) (ml_rm lv2 mc2 ms2) mc2 ms2 z := by
  have h4 := W1.2.2
  exact callB_of z ht (ml_good W1.1) rfl rfl rfl (ht _ W1.2.1) (ht _ hl) hd ⟨by show 40 + lv2 + 1 ≤ _; omega, by show 8 + (yn + 11) + (800 + 64 * lv2) ≤ _; omega⟩
/-- how a call goes on: behind its return, or out of this method with its throw -/
theorem ml_after {p : Program} {l : Launch} {e : Env} {R : Room} {s : State} {m : MethodId} {args : Array Value} {below : List Frame} {meth : Method} {c : Code} {H : Heap} {locs : List Loc} {k n mc2 ms2 mc ms : Nat} {pc : Nat} {la : Array Slot} {st stk : List Value} {g : ml_G} {vl vl2 : Int32 → ml_M → Option Value} {res rs : ml_R} {a : Array Value}
    (hr : vx_Run p l e R s m args below meth c H locs k n mc2 ms2 (F0 m pc la stk) st (ml_Q g vl2 rs a) (ml_XC g rs) (ml_A g)) (hS : va_S (ml_A g) s.heap H locs) (htb : c.exceptionTable.toList = []) (hlk : meth.locks = false) (hk : k + mc2 ≤ mc) (hn2 : n + ms2 ≤ ms)
    (kk : ∀ (r9 : Int32) (H1 : Heap) (locs1 : List Loc), rs.1 = .inl r9 → ml_P g rs.2 H1 → va_S (ml_A g) s.heap H1 locs1 → W p l e R s m args below meth c H1 locs1 (k + mc2) (n + ms2) (vx_MQ below (ml_Q g vl res) (ml_XC g res) args s mc ms (ml_A g)) (F0 m (pc + 3) la ((vl2 r9 rs.2).toList ++ st))) (kx : ∀ e9, rs.1 = .inr e9 → res = rs) :
    W p l e R s m args below meth c H locs k n (vx_MQ below (ml_Q g vl res) (ml_XC g res) args s mc ms (ml_A g)) (F0 m pc la stk) := by
  intro T hT X
  rcases hr T hT X with ⟨v, st₀, t, T', L, h0, X', hL, e1, e2, ⟨r9, hv1, hv2, hH, hF⟩, st9⟩ | ⟨q, st₀, t, T', L, E9, ce, h0, X', hL, e1, e2, ⟨e9, hv1, hv2, hH, hF⟩, hce, hcv, hcl, st9⟩
  · cases hv2
    obtain ⟨k1, k2, k3⟩ := vx_keep h0 e1 hS (fun q _ h => h) (fun q h => h) hL hF
    obtain ⟨t2, a1, b1⟩ := kk r9 T'.heap (locs ++ L) hv1 (by rw [e1]; exact hH) k3 T' rfl X'
    exact ⟨t2, st9 t2 a1, b1⟩
  · obtain ⟨k1, k2, k3⟩ := vx_keep h0 e1 hS (fun q _ h => h) (fun q h => h) hL hF
    have hres := kx e9 hv1
    subst hres
    obtain ⟨t2, a1, b1⟩ := vx_out (Qc := ml_Q g vl res) (XC := ml_XC g res) (free := ml_A g) (E := E9) (ce := ce) (q := q) (mc := mc) (ms := ms) (pc := pc) (ls := la) (rest := st) (locs := locs ++ L) (H := T'.heap) (by rw [htb]; intro x hx; cases hx) hlk (by rw [e1]; exact hce) hcv hcl
      (fun t3 ht3 hal => ⟨e9, hv1, hv2, by rw [ht3, e1]; exact hH, k3.F ht3⟩) k3.2.2 hk hn2 T' rfl X'
    exact ⟨t2, st9.trans a1, b1⟩
theorem ml_bd_k {x : Option ml_R} {B : Int32 → ml_M → Option ml_R} {res : ml_R} (h : ml_bd x B = some res) : ∃ rs, x = some rs ∧ (∀ r9, rs.1 = .inl r9 → B r9 rs.2 = some res) ∧ ∀ e9, rs.1 = .inr e9 → res = rs := by
  match x, h with
  | some (.inl r, M1), h => exact ⟨_, rfl, fun r9 h9 => by cases h9; exact h, fun e9 h9 => by cases h9⟩
  | some (.inr e, M1), h => exact ⟨_, rfl, fun r9 h9 => (by cases h9), fun e9 h9 => (Option.some.inj h).symm⟩
theorem ml_callV {E : ml_E} {g : ml_G} {cc : ByteArray} {own : String} {nL lv mc ms : Nat} {ret : Option FieldType} {k n pc : Nat} {ls : List (Nat × Value)} {st : List Value} {M : ml_M} {vl : Int32 → ml_M → Option Value} {res : ml_R} {y : MethodName} {yc : ByteArray} {yn : Nat} {yr : Option FieldType} {lv2 mc2 ms2 z idx : Nat} {vl2 : Int32 → ml_M → Option Value} {av : List Value} {x : Option ml_R} {B : Int32 → ml_M → Option ml_R} {stk : List Value} {kb ci : Nat} {fs : (Nat → Int32) → List Value} {T : u_T} {N : Nat} (F : ml_F E g cc own nL lv mc ms ret []) (O : ml_O g kb ci fs) (hc : vwCl[ci]? = some (y.cls, T, N)) (h : ml_bd x B = some res) (hC : ∀ rs, x = some rs → ml_C y yc yn yr lv2 mc2 ms2 g vl2 (ml_rf g kb :: av) M rs) (W1 : ml_wc y yc yn yr) (hlk2 : Cond.methodLink own idx y ∈ ml_all) (hwd : ml_wd y z) (hlv : lv2 < lv) (hk : k + mc2 ≤ mc) (hn2 : n + ms2 ≤ ms) (hz2 : av.length = z) (hsel : Cond.selects y.cls y y ∈ ml_all) (hins : Cond.instanceMethod y ∈ ml_all) (hstk : stk = av.reverse ++ ml_rf g kb :: st) (hroom : (st.map fun v => v.category).sum ≤ 8) (hd : decode cc pc = .ok (.invokevirtual idx, 3)) (K : ∀ (r9 : Int32) (M9 : ml_M), B r9 M9 = some res → ml_J E g nL (ml_Z E g vl res mc ms) (k + mc2) (n + ms2) (pc + 3) ls ((vl2 r9 M9).toList ++ st) M9) : ml_J E g nL (ml_Z E g vl res mc ms) k n (pc) ls (stk) M := by
  obtain ⟨p, e, R, s, m, args, below, meth, c⟩ := E
  obtain ⟨⟨hx, hb, ht, ho, hm, hlk⟩, ⟨hK, ⟨M0, hD0⟩, hX, hz, htr⟩, ⟨hR1, hR2, hR3, hR4⟩, hret, htb⟩ := F
  have hD : va_D (ml_A g) (ml_wm g M) := ml_D_any hD0
  intro H locs la hP hS hl
  obtain ⟨rs, hx1, hx2, hx3⟩ := ml_bd_k h
  refine ml_after (vx_runV (As := av) (rest := st) (C := y.cls) ⟨hx, hb, hm, ho, ht⟩ (hC rs hx1) ⟨ml_cb ht W1 hlk2 hwd hR1 hR2 hlv, ht _ hins, ht _ hsel⟩ ⟨ml_H_blind, va_recv (D := g.2.1) (cl := vwCl) (tys := ml_ty g) hK hP hc (q0 := ml_ix kb) (by rw [ml_wm_at O.1, O.2]), fun U hU hW => ⟨rfl, ml_H_to hW hU hP hS hK hD0 hX hz⟩⟩ rfl hz2 hl.1 hstk (lv_room hroom) hd ⟨by omega, by omega⟩) hS htb hlk hk hn2 (fun r9 H1 locs1 h9 hP1 hS1 => K r9 rs.2 (hx2 r9 h9) H1 locs1 la hP1 hS1 hl) hx3
theorem ml_callS {E : ml_E} {g : ml_G} {cc : ByteArray} {own : String} {nL lv mc ms : Nat} {ret : Option FieldType} {k n pc : Nat} {ls : List (Nat × Value)} {st : List Value} {M : ml_M} {vl : Int32 → ml_M → Option Value} {res : ml_R} {y : MethodName} {yc : ByteArray} {yn : Nat} {yr : Option FieldType} {lv2 mc2 ms2 z idx : Nat} {vl2 : Int32 → ml_M → Option Value} {av : List Value} {x : Option ml_R} {B : Int32 → ml_M → Option ml_R} {stk : List Value} (F : ml_F E g cc own nL lv mc ms ret []) (h : ml_bd x B = some res) (hC : ∀ rs, x = some rs → ml_C y yc yn yr lv2 mc2 ms2 g vl2 av M rs) (W1 : ml_wc y yc yn yr) (hlk2 : Cond.methodLink own idx y ∈ ml_all) (hwd : ml_wd y z) (hlv : lv2 < lv) (hk : k + mc2 ≤ mc) (hn2 : n + ms2 ≤ ms) (hz2 : av.length = z) (hstt : Cond.static y ∈ ml_all) (hstk : stk = av.reverse ++ st) (hroom : (st.map fun v => v.category).sum ≤ 8) (hd : decode cc pc = .ok (.invokestatic idx, 3)) (K : ∀ (r9 : Int32) (M9 : ml_M), B r9 M9 = some res → ml_J E g nL (ml_Z E g vl res mc ms) (k + mc2) (n + ms2) (pc + 3) ls ((vl2 r9 M9).toList ++ st) M9) : ml_J E g nL (ml_Z E g vl res mc ms) k n (pc) ls (stk) M := by
  obtain ⟨p, e, R, s, m, args, below, meth, c⟩ := E
  obtain ⟨⟨hx, hb, ht, ho, hm, hlk⟩, ⟨hK, ⟨M0, hD0⟩, hX, hz, htr⟩, ⟨hR1, hR2, hR3, hR4⟩, hret, htb⟩ := F
  have hD : va_D (ml_A g) (ml_wm g M) := ml_D_any hD0
  intro H locs la hP hS hl
  obtain ⟨rs, hx1, hx2, hx3⟩ := ml_bd_k h
  refine ml_after (vx_runS (As := av) (rest := st) ⟨hx, hb, hm, ho, ht⟩ (hC rs hx1) ⟨ml_cb ht W1 hlk2 hwd hR1 hR2 hlv, ht _ hstt⟩ ⟨ml_H_blind, fun U hU hW => ⟨rfl, ml_H_to hW hU hP hS hK hD0 hX hz⟩⟩ rfl hz2 hl.1 hstk (lv_room hroom) hd ⟨by omega, by omega⟩) hS htb hlk hk hn2 (fun r9 H1 locs1 h9 hP1 hS1 => K r9 rs.2 (hx2 r9 h9) H1 locs1 la hP1 hS1 hl) hx3
/-- the words of a throw of the exception e from CanalLocks -/
def ml_tw (e ik ic : Nat) (names : List String) : Prop := Bundle.fit (ml_ex e) = true ∧ (∀ n ∈ names, Bundle.fit n = true) ∧ names.length = 2 ∧ Cond.classLink RX6 ik (ml_ex e) ∈ ml_all ∧ Cond.initialized (ml_ex e) ∈ ml_all ∧ (∀ w ∈ (vx_atS RX6 ic (ml_ex e) names).filter goodWord, w ∈ ml_all) ∧ (∀ w ∈ (vx_atS RX6 ic (ml_ex e) names).filter (fun w => !goodWord w), w ∈ ml_nest) ∧ (∀ w ∈ (vx_atS RX6 ic (ml_ex e) names), vx_ot w = true) ∧ (∀ w ∈ (vx_atS RX6 ic (ml_ex e) names).filter (fun w => !goodWord w), w.onTables = true)
theorem ml_P_new {g : ml_G} {M : ml_M} {H H1 : Heap} (h : ml_P g M H) (hq : ∀ q : Nat, q < H.size → H1[q]? = H[q]?) : ml_P g M H1 := fun k q hk => (h k q hk).kept (hq _ (h k q hk).lt)
theorem ml_throw {E : ml_E} {g : ml_G} {cc : ByteArray} {nL lv mc ms : Nat} {ret : Option FieldType} {k n pc : Nat} {ls : List (Nat × Value)} {st : List Value} {M : ml_M} {vl : Int32 → ml_M → Option Value} {res : ml_R} {e8 ik is ic : Nat} {names : List String} {text : String} (F : ml_F E g cc RX6 nL lv mc ms ret []) (h : ((Sum.inr e8, M) : ml_R) = res) (T8 : ml_tw e8 ik ic names) (htx : (is, text) ∈ ml_txt) (hst : (st.map fun v => v.category).sum ≤ 8) (hk : k + 1 ≤ mc) (hn2 : n + 6 ≤ ms) (d0 : decode cc pc = .ok (.new ik, 3)) (d3 : decode cc (pc + 3) = .ok (.dup, 1)) (d4 : decode cc (pc + 4) = .ok (.ldc is, 2)) (d6 : decode cc (pc + 6) = .ok (.invokespecial ic, 3)) (d9 : decode cc (pc + 9) = .ok (.athrow, 1)) : ml_J E g nL (ml_Z E g vl res mc ms) k n (pc) ls (st) M := by
  obtain ⟨p, e, R, s, m, args, below, meth, c⟩ := E
  obtain ⟨⟨hx, hb, ht, ho, hm, hlk⟩, ⟨hK, ⟨M0, hD0⟩, hX, hz, htr⟩, ⟨hR1, hR2, hR3, hR4⟩, hret, htb⟩ := F
  have hD : va_D (ml_A g) (ml_wm g M) := ml_D_any hD0
  intro H locs la hP hS hl
  have hTs : ∀ w ∈ vx_atS RX6 ic (ml_ex e8) names, w.before args s = true := by
    intro w hw
    by_cases gw : goodWord w = true
    · exact ht w (T8.2.2.2.2.2.1 w (List.mem_filter.mpr ⟨hw, gw⟩))
    · have h2 : w ∈ (vx_atS RX6 ic (ml_ex e8) names).filter (fun w => !goodWord w) := List.mem_filter.mpr ⟨hw, by simpa using gw⟩
      exact va_Nw.use (T8.2.2.2.2.2.2.2.2 w h2) (hX.2.1 w (T8.2.2.2.2.2.2.1 w h2))
  obtain ⟨sa, hsa⟩ := hX.2.2.1 _ htx
  have hlen := T8.2.2.1
  subst h
  refine vx_throwS (A := ml_A g) (own := RX6) (cls := ml_ex e8) (names := names) (ik := ik) (is := is) (ic := ic) (sa := sa) (text := text) hx hb htr ho T8.1 T8.2.1 (ht _ T8.2.2.2.1) (ht _ T8.2.2.2.2.1) hsa hTs ?_ hX.1.2.2.1.1 hX.1.2.2.1.2 hS (hl.1.trans hm.symm) d0 d3 d4 d6 d9 (by rw [htb]; intro x hx; cases hx) (by omega) (by omega) (by omega) (by omega) hlk ?_ hS.2.2 hk hn2
  · intro w hw
    rcases List.mem_cons.mp hw with rfl | hw
    · rfl
    rcases List.mem_cons.mp hw with rfl | hw
    · rfl
    exact T8.2.2.2.2.2.2.2.1 w hw
  · intro t9 hal hsz hq9
    exact ⟨e8, rfl, rfl, ml_P_new hP hq9, Nat.le_trans hS.1 hsz, fun q h1 h2 => by rw [hq9 q (Nat.lt_of_lt_of_le h1 hS.1)]; exact hS.2.1 q h1 h2⟩
theorem ml_throwW {E : ml_E} {g : ml_G} {cc : ByteArray} {nL lv mc ms : Nat} {ret : Option FieldType} {k n pc : Nat} {ls : List (Nat × Value)} {st : List Value} {M : ml_M} {vl : Int32 → ml_M → Option Value} {res : ml_R} {e8 ik is ic : Nat} {names : List String} {text : String} (F : ml_F E g cc RX6 nL lv mc ms ret []) (h : ((Sum.inr e8, M) : ml_R) = res) (T8 : ml_tw e8 ik ic names) (htx : (is, text) ∈ ml_txt) (hst : (st.map fun v => v.category).sum ≤ 8) (hk : k + 1 ≤ mc) (hn2 : n + 6 ≤ ms) (d0 : decode cc pc = .ok (.new ik, 3)) (d3 : decode cc (pc + 3) = .ok (.dup, 1)) (d4 : decode cc (pc + 4) = .ok (.ldc_w is, 3)) (d6 : decode cc (pc + 7) = .ok (.invokespecial ic, 3)) (d9 : decode cc (pc + 10) = .ok (.athrow, 1)) : ml_J E g nL (ml_Z E g vl res mc ms) k n (pc) ls (st) M := by
  obtain ⟨p, e, R, s, m, args, below, meth, c⟩ := E
  obtain ⟨⟨hx, hb, ht, ho, hm, hlk⟩, ⟨hK, ⟨M0, hD0⟩, hX, hz, htr⟩, ⟨hR1, hR2, hR3, hR4⟩, hret, htb⟩ := F
  have hD : va_D (ml_A g) (ml_wm g M) := ml_D_any hD0
  intro H locs la hP hS hl
  have hTs : ∀ w ∈ vx_atS RX6 ic (ml_ex e8) names, w.before args s = true := by
    intro w hw
    by_cases gw : goodWord w = true
    · exact ht w (T8.2.2.2.2.2.1 w (List.mem_filter.mpr ⟨hw, gw⟩))
    · have h2 : w ∈ (vx_atS RX6 ic (ml_ex e8) names).filter (fun w => !goodWord w) := List.mem_filter.mpr ⟨hw, by simpa using gw⟩
      exact va_Nw.use (T8.2.2.2.2.2.2.2.2 w h2) (hX.2.1 w (T8.2.2.2.2.2.2.1 w h2))
  obtain ⟨sa, hsa⟩ := hX.2.2.1 _ htx
  have hlen := T8.2.2.1
  subst h
  refine vx_throwSW (A := ml_A g) (own := RX6) (cls := ml_ex e8) (names := names) (ik := ik) (is := is) (ic := ic) (sa := sa) (text := text) hx hb htr ho T8.1 T8.2.1 (ht _ T8.2.2.2.1) (ht _ T8.2.2.2.2.1) hsa hTs ?_ hX.1.2.2.1.1 hX.1.2.2.1.2 hS (hl.1.trans hm.symm) d0 d3 d4 d6 d9 (by rw [htb]; intro x hx; cases hx) (by omega) (by omega) (by omega) (by omega) hlk ?_ hS.2.2 hk hn2
  · intro w hw
    rcases List.mem_cons.mp hw with rfl | hw
    · rfl
    rcases List.mem_cons.mp hw with rfl | hw
    · rfl
    exact T8.2.2.2.2.2.2.2.1 w hw
  · intro t9 hal hsz hq9
    exact ⟨e8, rfl, rfl, ml_P_new hP hq9, Nat.le_trans hS.1 hsz, fun q h1 h2 => by rw [hq9 q (Nat.lt_of_lt_of_le h1 hS.1)]; exact hS.2.1 q h1 h2⟩
set_option maxRecDepth 100000 in
theorem ml_tw1 : ml_tw 1 251 255 ["java/lang/RuntimeException", "java/lang/Exception"] := ⟨by decide +kernel, by decide +kernel, rfl, by decide +kernel, by decide +kernel, by decide +kernel, by decide +kernel, by decide +kernel, by decide +kernel⟩
set_option maxRecDepth 100000 in
theorem ml_tw2 : ml_tw 2 176 180 ["java/lang/RuntimeException", "java/lang/Exception"] := ⟨by decide +kernel, by decide +kernel, rfl, by decide +kernel, by decide +kernel, by decide +kernel, by decide +kernel, by decide +kernel, by decide +kernel⟩
set_option maxRecDepth 100000 in
theorem ml_tw3 : ml_tw 3 263 267 ["java/lang/RuntimeException", "java/lang/Exception"] := ⟨by decide +kernel, by decide +kernel, rfl, by decide +kernel, by decide +kernel, by decide +kernel, by decide +kernel, by decide +kernel, by decide +kernel⟩
set_option maxRecDepth 100000 in
theorem ml_tw5 : ml_tw 5 321 325 ["java/lang/RuntimeException", "java/lang/Exception"] := ⟨by decide +kernel, by decide +kernel, rfl, by decide +kernel, by decide +kernel, by decide +kernel, by decide +kernel, by decide +kernel, by decide +kernel⟩
theorem ml_met {y : MethodName} {cc : ByteArray} {maxL : Nat} {ret : Option FieldType} {lv mc ms : Nat} {g : ml_G} {vl : Int32 → ml_M → Option Value} {av : List Value} {M : ml_M} {res : ml_R} {r : Int32} (hr : res.1 = .inl r) (h : ml_C y cc maxL ret lv mc ms g vl av M res) : Met g.2.2.2.2.2 y (ml_ws y cc maxL ret) (ml_rm lv mc ms) (va_Pc av (ml_H g M)) (ml_Q g vl res) mc ms (ml_A g) := by
  intro p e h1 h2 h3 s m args below h4 h5 h6 h7
  obtain ⟨z, o, a1, a2, a3, a4⟩ := h p e h1 h2 h3 s m args below h4 h5 h6 h7
  refine ⟨z, o, a1, a2, a3, ?_⟩
  rcases a4 with a4 | ⟨q, hq, Ex, ce, L, ⟨e9, he9, -⟩, -⟩
  · exact a4
  · rw [hr] at he9; cases he9
theorem ml_callSN {E : ml_E} {g : ml_G} {cc : ByteArray} {own : String} {nL lv mc ms : Nat} {ret : Option FieldType} {k n pc : Nat} {ls : List (Nat × Value)} {st : List Value} {M : ml_M} {vl : Int32 → ml_M → Option Value} {res : ml_R} {y : MethodName} {yc : ByteArray} {yn : Nat} {yr : Option FieldType} {lv2 mc2 ms2 z idx : Nat} {vl2 : Int32 → ml_M → Option Value} {av : List Value} {x : Option ml_R} {B : Int32 → ml_M → Option ml_R} {stk : List Value} {r8 : Int32} {rs8 : ml_R} (F : ml_F E g cc own nL lv mc ms ret []) (h : ml_bd x B = some res) (hx8 : x = some rs8) (hr8 : rs8.1 = .inl r8) (hC : ml_C y yc yn yr lv2 mc2 ms2 g vl2 av M rs8) (W1 : ml_wc y yc yn yr) (hlk2 : Cond.methodLinkNest own idx y RX6 ∈ ml_nest) (hwd : ml_wd y z) (hlv : lv2 < lv) (hk : k + mc2 ≤ mc) (hn2 : n + ms2 ≤ ms) (hz2 : av.length = z) (hstt : Cond.static y ∈ ml_all) (hstk : stk = av.reverse ++ st) (hroom : (st.map fun v => v.category).sum ≤ 8) (hd : decode cc pc = .ok (.invokestatic idx, 3)) (K : B r8 rs8.2 = some res → ml_J E g nL (ml_Z E g vl res mc ms) (k + mc2) (n + ms2) (pc + 3) ls ((vl2 r8 rs8.2).toList ++ st) rs8.2) : ml_J E g nL (ml_Z E g vl res mc ms) k n (pc) ls (stk) M := by
  obtain ⟨p, e, R, s, m, args, below, meth, c⟩ := E
  obtain ⟨⟨hx, hb, ht, ho, hm, hlk⟩, ⟨hK, ⟨M0, hD0⟩, hX, hz, htr⟩, ⟨hR1, hR2, hR3, hR4⟩, hret, htb⟩ := F
  have hD : va_D (ml_A g) (ml_wm g M) := ml_D_any hD0
  intro H locs la hP hS hl
  have hB : B r8 rs8.2 = some res := by
    obtain ⟨rs, hx1, hx2, hx3⟩ := ml_bd_k h
    cases hx8.symm.trans hx1
    exact hx2 r8 hr8
  have h4 := W1.2.2
  have hRun := va_runSN (R := R) (e := e) (below := below) (meth := meth) (As := av) (rest := st) (host := RX6) (Ts := ml_all) (g := F0 m pc la stk) ⟨hx, hb, hm, ho, ht⟩ (ml_met hr8 hC) ⟨va_cnB (R := R) z ht (ml_good W1.1) rfl rfl rfl (hX.2.1 _ hlk2) (ht _ W1.2.1) hwd ⟨by show 40 + lv2 + 1 ≤ _; omega, by show 8 + (yn + 11) + (800 + 64 * lv2) ≤ _; omega⟩, ht _ hstt, trivial⟩ (H := H) ⟨ml_H_blind, fun U hU hW => ⟨rfl, ml_H_to hW hU hP hS hK hD0 hX hz⟩⟩ rfl hz2 hl.1 hstk (lv_room hroom) hd (cells := k) (slots := n) (locs := locs) ⟨by omega, by omega⟩
  intro T hT X
  obtain ⟨v, st₀, t, T', L, h0, X', hL, e1, e2, ⟨r9, hv1, hv2, hH, hF⟩, st9⟩ := hRun T hT X
  cases hv1.symm.trans hr8
  cases hv2
  obtain ⟨k1, k2, k3⟩ := vx_keep h0 e1 hS (fun q _ h => h) (fun q h => h) hL hF
  obtain ⟨t2, a1, b1⟩ := K hB T'.heap (locs ++ L) la (by rw [e1]; exact hH) k3 hl T' rfl X'
  exact ⟨t2, st9 t2 a1, b1⟩
