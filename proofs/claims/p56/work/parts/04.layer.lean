/-! THE MEMORY: all cells of the class stand at fixed places (0 to 10, 16 to 180); a memory gives the numbers of each place. Every contract speaks of the one world 'ml_wm'. Place 11 is no cell: its address is that of the output's builder (the class's own), so that the members of a builder may be used for another one at 9 and 10. -/
abbrev ml_E : Type := Program × Env × Room × State × MethodId × Array Value × List Frame × Method × Code
abbrev ml_M : Type := Nat → Nat → Int32
/-- (what may change; the script; the texts' bytes); the classes; the array classes; the address of each place; the addresses of static arrays and texts; the launch -/
abbrev ml_G : Type := ((Nat → Prop) × (Nat × (Nat → Int32)) × (Nat → List Int32)) × va_G × (Nat → ClassId) × (Nat → Nat) × (Nat → Nat) × Launch
/-- a private method of a class above is selected on its own -/
theorem ml_sel_priv {y y0 : MethodName} {s : State} {args : Array Value} {n : Nat} {C : String} (hy : y.cls ≠ "java/lang/invoke/MethodHandle" ∧ y.cls ≠ "java/lang/invoke/VarHandle")
    (hins : (Cond.instantiable C n).before args s = true) (hpriv : (Cond.privateMethod y).before args s = true) (hinst : (Cond.instanceMethod y).before args s = true) (h0 : (Cond.selects C y0 y0).before args s = true) (hy0 : y0.cls = y.cls) :
    (Cond.selects C y y).before args s = true := by
  obtain ⟨c, k, hc, hk, -, hniab, -, -⟩ := Cond.instantiable_spec hins
  have hni : k.isInterface = false := (Bool.or_eq_false_iff.mp hniab).1
  obtain ⟨mk, methM, hnamed, hmethM, -, -⟩ := Cond.instanceMethod_spec hinst
  have hfound : s.methodFound? y.cls y.name y.desc = some mk := State.methodFound?_of_named hnamed hy
  have hsel : selectMethod {} s.vm c mk = .method mk := selectMethod_private hmethM (Cond.privateMethod_at hpriv mk methM hnamed hmethM)
  obtain ⟨c2, r2, m2, q1, q2, q3, q4, kP, hkP, hkPi⟩ := Cond.selects_spec h0
  have e1 : m2.cls = mk.cls := Option.some.inj ((findClass_of_methodNamed q3).symm.trans (by rw [hy0]; exact findClass_of_methodNamed hnamed))
  rw [e1] at hkP
  simp only [Cond.before, Cond.holds, Cond.value, hc, hfound, hnamed, hsel, hkP]
  simp
  exact hkPi
def ml_xw : List Cond := [Cond.selects RJ4 yJ5_ensureCapacityInternal_d00df yJ5_ensureCapacityInternal_d00df, Cond.selects RJ4 yJ5_putStringAt_47b60 yJ5_putStringAt_47b60, Cond.selects RJ4 yJ5_inflateIfNeededFor_a7421 yJ5_inflateIfNeededFor_a7421]
theorem ml_xw_ok {args : Array Value} {s : State} (h : ∀ w ∈ lw_tbl, w.before args s = true) : ∀ w ∈ ml_xw, w.before args s = true := by
  intro w hw
  simp only [ml_xw, List.mem_cons, List.mem_nil_iff, or_false] at hw
  rcases hw with rfl | rfl | rfl
  all_goals exact ml_sel_priv (n := 4) ⟨by decide, by decide⟩ (h _ (List.mem_append_right _ (by decide +kernel))) (h _ (List.mem_append_right _ (by decide +kernel))) (h _ (List.mem_append_right _ (by decide +kernel))) (h (.selects RJ4 yJ5_isLatin1_aae02 yJ5_isLatin1_aae02) (List.mem_append_right _ (by decide +kernel))) rfl
def ml_all : List Cond := (lw_tbl ++ ml_xw).filter goodWord
theorem ml_in {w : Cond} (h : w ∈ lw_tbl) (hg : goodWord w = true) : w ∈ ml_all := List.mem_filter.mpr ⟨List.mem_append_left _ h, hg⟩
theorem ml_inx {w : Cond} (h : w ∈ ml_xw) (hg : goodWord w = true) : w ∈ ml_all := List.mem_filter.mpr ⟨List.mem_append_right _ h, hg⟩
theorem ml_tb {w : Cond} (i : Nat) (h : tables_1[i]? = some w) (hg : goodWord w = true) : w ∈ ml_all := ml_in (List.mem_append_right _ (List.mem_of_getElem? h)) hg
theorem ml_pv {q : MethodName × Nat} (h : q ∈ lw_privs) (hg : goodWord (Cond.selects q.1.cls q.1 q.1) = true) : Cond.selects q.1.cls q.1 q.1 ∈ ml_all := ml_in (List.mem_append_left _ (List.mem_map.mpr ⟨q, h, rfl⟩)) hg
def ml_ws (y : MethodName) (cc : ByteArray) (n : Nat) (ret : Option FieldType) : List Cond := Cond.code y cc n ret :: ml_all
theorem ml_good {y : MethodName} {cc : ByteArray} {n : Nat} {ret : Option FieldType} (h : Cond.code y cc n ret ∈ ml_all) : GoodIn ml_all (ml_ws y cc n ret) := by
  intro w hw
  rcases List.mem_cons.mp hw with rfl | hw
  · exact ⟨h, good_of_word (List.mem_filter.mp h).2⟩
  · exact ⟨hw, good_of_word (List.mem_filter.mp hw).2⟩
def ml_rf (g : ml_G) (k : Nat) : Value := .ref (g.2.2.2.1 k)
def ml_ar (g : ml_G) (t n : Nat) (m : Nat → Int32) : va_E := .inl (g.2.2.1 t, n, .inl m)
def ml_fl (i : Nat) : Nat := 16 + 15 * i
def ml_base (g : ml_G) (k : Nat) (m : Nat → Int32) : va_E := match k with
  | 0 => .inr (10, [ml_rf g (ml_fl 0), ml_rf g (ml_fl 1), ml_rf g (ml_fl 2), .int (m 3), ml_rf g 1, ml_rf g 3, ml_rf g 11, .int (m 7), .int (m 8)])
  | 1 => .inr (7, [ml_rf g 2, .int (m 1), .int (m 2)])
  | 2 => .inl (g.2.2.1 3, 8, .inr (.inr (.inr (.inr (fun i => some (g.2.2.2.1 (ml_fl (3 + i))))))))
  | 3 => .inr (8, [ml_rf g 4, .int (m 1), .int (m 2), .int (m 3), .int (m 4), ml_rf g 5, ml_rf g 6, ml_rf g 7, ml_rf g 8])
  | 4 => ml_ar g 1 60 m
  | 5 => ml_ar g 0 60 m
  | 6 => ml_ar g 0 60 m
  | 7 => ml_ar g 0 60 m
  | 8 => ml_ar g 0 60 m
  | 9 => .inr (1, [ml_rf g 10, .int (m 1), .int (m 2), .int (m 3)])
  | _ => ml_ar g 4 16 m
def ml_flk (g : ml_G) (b o : Nat) (m : Nat → Int32) : va_E := match o with
  | 0 => .inr (6, [ml_rf g (b + 1), ml_rf g (b + 5), ml_rf g (b + 12), .int (m 3)])
  | 1 => .inr (9, [ml_rf g (b + 2), ml_rf g (b + 3), ml_rf g (b + 4), .int (m 3), .int (m 4), .int (m 5), .int (m 6), .int (m 7)])
  | 2 => ml_ar g 0 5 m
  | 3 => ml_ar g 0 4 m
  | 4 => ml_ar g 2 4 m
  | 5 => .inr (5, [.int (m 0), .int (m 1), ml_rf g (b + 6), ml_rf g (b + 7), ml_rf g (b + 8), ml_rf g (b + 9), ml_rf g (b + 10), ml_rf g (b + 11)])
  | 6 => ml_ar g 0 8 m
  | 7 => ml_ar g 0 8 m
  | 8 => ml_ar g 2 8 m
  | 9 => ml_ar g 0 8 m
  | 10 => ml_ar g 0 8 m
  | 11 => ml_ar g 0 3 m
  | 12 => .inr (4, [ml_rf g (b + 13), ml_rf g (b + 14), .int (m 2), .int (m 3)])
  | 13 => ml_ar g 1 8 m
  | _ => ml_ar g 0 8 m
def ml_ct (g : ml_G) (k : Nat) (m : Nat → Int32) : va_E :=
  if k < 16 then ml_base g k m
  else ml_flk g (16 + 15 * ((k - 16) / 15)) ((k - 16) % 15) m
/-- the places -/
abbrev ml_vp (k : Nat) : Prop := k < 11 ∨ 16 ≤ k ∧ k < 181
def ml_ix (k : Nat) : Nat := if k < 11 then k else k - 5
def ml_pk (i : Nat) : Nat := if i < 11 then i else i + 5
theorem ml_pk_ix {k : Nat} (h : ml_vp k) : ml_pk (ml_ix k) = k ∧ ml_ix k < 176 := by
  unfold ml_vp at h
  unfold ml_pk ml_ix
  split <;> (try split) <;> omega
theorem ml_pk_vp {i : Nat} (h : i < 176) : ml_vp (ml_pk i) ∧ ml_ix (ml_pk i) = i := by
  unfold ml_pk ml_ix ml_vp
  split <;> (try split) <;> omega
def ml_wm (g : ml_G) (M : ml_M) : va_W := (List.range 176).map (fun i => (g.2.2.2.1 (ml_pk i), ml_ct g (ml_pk i) (M (ml_pk i))))
/-- one number is written -/
def ml_w (M : ml_M) (k j : Nat) (x : Int32) : ml_M := fun a => if a = k then upd (M a) j x else M a
theorem ml_w_at {M : ml_M} {k j : Nat} {x : Int32} : ml_w M k j x k = upd (M k) j x := if_pos rfl
theorem ml_w_ne {M : ml_M} {k j : Nat} {x : Int32} {a : Nat} (h : a ≠ k) : ml_w M k j x a = M a := if_neg h
theorem ml_wm_ai {g : ml_G} {M : ml_M} {i : Nat} (hi : i < 176) : (ml_wm g M)[i]? = some (g.2.2.2.1 (ml_pk i), ml_ct g (ml_pk i) (M (ml_pk i))) := by
  simp [ml_wm, hi]
theorem ml_wm_at {g : ml_G} {M : ml_M} {k : Nat} (hk : ml_vp k) : (ml_wm g M)[ml_ix k]? = some (g.2.2.2.1 k, ml_ct g k (M k)) := by
  rw [ml_wm_ai (ml_pk_ix hk).2, (ml_pk_ix hk).1]
theorem ml_wm_len {g : ml_G} {M : ml_M} : (ml_wm g M).length = 176 := by simp [ml_wm]
theorem ml_wm_lt {g : ml_G} {M : ml_M} {i : Nat} {q : Nat × va_E} (h : (ml_wm g M)[i]? = some q) : i < 176 := by
  have := (List.getElem?_eq_some_iff.mp h).1
  rwa [ml_wm_len] at this
theorem ml_wm_set {g : ml_G} {M : ml_M} {k j : Nat} {x : Int32} {e : va_E} (hk : ml_vp k) (he : e = ml_ct g k (upd (M k) j x)) : (ml_wm g M).set (ml_ix k) (g.2.2.2.1 k, e) = ml_wm g (ml_w M k j x) := by
  subst he
  apply List.ext_getElem?
  intro i
  rw [List.getElem?_set]
  by_cases hi : i < 176
  · by_cases h : ml_ix k = i
    · subst h
      rw [if_pos rfl, if_pos (by rw [ml_wm_len]; exact hi), ml_wm_at hk, ml_w_at]
    · rw [if_neg h, ml_wm_ai hi, ml_wm_ai hi, ml_w_ne (fun e => h (by rw [← e]; exact (ml_pk_vp hi).2))]
  · have h2 : ml_ix k ≠ i := fun e => hi (by rw [← e]; exact (ml_pk_ix hk).2)
    rw [if_neg h2]
    simp [ml_wm, hi]
theorem ml_D_any {A : Nat → Prop} {g : ml_G} {M M' : ml_M} (h : va_D A (ml_wm g M)) : va_D A (ml_wm g M') := by
  have key : ∀ (k : Nat) (q : Nat × va_E), (ml_wm g M')[k]? = some q → ∃ q2 : Nat × va_E, (ml_wm g M)[k]? = some q2 ∧ q2.1 = q.1 := by
    intro k q hq
    have hk := ml_wm_lt hq
    rw [ml_wm_ai hk] at hq
    cases hq
    exact ⟨_, ml_wm_ai hk, rfl⟩
  refine ⟨fun i j p q hp hq e => ?_, fun k q hq => ?_⟩
  · obtain ⟨p2, h1, e1⟩ := key i p hp
    obtain ⟨q2, h2, e2⟩ := key j q hq
    exact h.1 i j p2 q2 h1 h2 (by rw [e1, e2]; exact e)
  · obtain ⟨q2, h1, e1⟩ := key k q hq
    rw [← e1]
    exact h.2 k q2 h1
def ml_P (g : ml_G) (M : ml_M) (H : Heap) : Prop := va_P g.2.1 vwCl (ml_wm g M) H
abbrev ml_A (g : ml_G) : Nat → Prop := g.1.1
/-- the script: its length, its numbers; the bytes of a text -/
abbrev ml_sc (g : ml_G) : Nat × (Nat → Int32) := g.1.2.1
abbrev ml_sb (g : ml_G) : Nat → List Int32 := g.1.2.2
def ml_ty (g : ml_G) : List (ClassId × FieldType) := [(g.2.2.1 0, .int), (g.2.2.1 1, .char), (g.2.2.1 2, .boolean), (g.2.2.1 3, .object "CanalLocks$Flight"), (g.2.2.1 4, .byte)]
def ml_K (g : ml_G) (U : State) : Prop := va_K g.2.1 vwCl (ml_ty g) U
def ml_sv (j : Nat) : Int32 := [300, 144, 108, 72, 60].getD j 0
def ml_cs (j : Nat) : Int32 := [114, 103, 98].getD j 0
/-- links between nest mates that the class uses, and the casts of its exceptions -/
def ml_nest : List Cond := [.fieldLinkNest RX1 42 RX6 "COLOUR_SIGNS" "[C" RX6, .fieldLinkNest RX5 38 RX6 "START_VOLUMES" "[I" RX6, .methodLinkNest RX6 11 yX2_init RX6, .methodLinkNest RX6 35 yX4_init RX6, .methodLinkNest RX2 20 yX1_init RX6, .methodLinkNest RX2 27 yX0_init RX6, .methodLinkNest RX2 62 yX6_colourNumber RX6, .methodLinkNest RX2 68 yX6_isGate RX6, .methodLinkNest RX3 24 yX2_init RX6, .methodLinkNest RX5 41 yX6_areaOf RX6, .castable "java/lang/IndexOutOfBoundsException" "java/lang/IndexOutOfBoundsException", .castable "java/lang/IllegalArgumentException" "java/lang/IllegalArgumentException", .castable "java/lang/IllegalStateException" "java/lang/IllegalStateException", .castable "java/util/NoSuchElementException" "java/util/NoSuchElementException", .castable "java/lang/UnsupportedOperationException" "java/lang/UnsupportedOperationException", .declares (Bundle.initS "java/lang/RuntimeException"), .declares (Bundle.initS "java/lang/Exception"), .declares (Bundle.initS Bundle.tN)]
/-- the texts of the class's throws: their constants -/
def ml_txt : List (Nat × String) := [(200, "the basins are not equalized within 200 minutes"), (253, "no such character of the output text"), (315, "no such valve or gate"), (317, "no such colour, draught, opening, litres or minutes"), (319, "the boats or the gate do not allow this now"), (323, "the equalizing amount is not 0"), (326, "no such basin"), (331, "no such boat"), (333, "no such event"), (133, "no such rank")]
/-- the law's texts: constants of CanalLocksLaw, their bytes -/
def ml_str (i : Nat) : Nat × String × List Int32 := match i with
  | 0 => (118, "", [])
  | 1 => (137, "/", [47])
  | 2 => (139, "|", [124])
  | 3 => (201, "v", [118])
  | _ => (203, "^", [94])
/-- thrown classes that an earlier catch does not take -/
def ml_nc : List (String × String) := [("java/lang/IllegalStateException", "java/lang/IllegalArgumentException"), ("java/lang/IllegalArgumentException", "java/lang/IndexOutOfBoundsException"), ("java/lang/IllegalStateException", "java/lang/IndexOutOfBoundsException"), ("java/lang/UnsupportedOperationException", "java/lang/IndexOutOfBoundsException"), ("java/lang/UnsupportedOperationException", "java/lang/IllegalStateException"), ("java/util/NoSuchElementException", "java/lang/IndexOutOfBoundsException")]
def ml_dig (t j : Nat) : Int32 := if t = 0 then nI (48 + j % 10) else nI (48 + j / 10)
/-- a text: its object, its bytes -/
def ml_tx (g : ml_G) (U : State) (H : Heap) (i : Nat) : Prop := (va_O "java/lang/String" (g.2.2.2.2.1 (10 + i)) (ml_A g) U H ∧ va_OF "java/lang/String" "coder" "B" (.int 0) (g.2.2.2.2.1 (10 + i)) (ml_A g) U H ∧ va_OF "java/lang/String" "value" "[B" (.ref (g.2.2.2.2.1 (40 + i))) (g.2.2.2.2.1 (10 + i)) (ml_A g) U H ∧ va_T .byte (g.2.2.2.2.1 (40 + i)) (ml_sb g i).length (fun j => .int ((ml_sb g i).getD j 0)) (ml_A g) U H) ∧ ∀ j : Nat, fits .byte (.int ((ml_sb g i).getD j 0)) = true
/-- what lies in the heap ahead of our cells, and stays -/
def ml_X1 (g : ml_G) (U : State) (H : Heap) : Prop :=
  (va_Z RX6 "START_VOLUMES" "[I" (.ref (g.2.2.2.2.1 0)) (ml_A g) U H ∧ va_T .int (g.2.2.2.2.1 0) 5 (fun j => .int (ml_sv j)) (ml_A g) U H) ∧
  (va_Z RX6 "COLOUR_SIGNS" "[C" (.ref (g.2.2.2.2.1 1)) (ml_A g) U H ∧ va_T .char (g.2.2.2.2.1 1) 3 (fun j => .int (ml_cs j)) (ml_A g) U H) ∧
  (vx_Zq Bundle.tN "UNASSIGNED_STACK" Bundle.steD (ml_A g) U H ∧ vx_Zq Bundle.tN "SUPPRESSED_SENTINEL" Bundle.listD (ml_A g) U H) ∧
  va_Z "java/lang/String" "COMPACT_STRINGS" "Z" (.int 1) (ml_A g) U H ∧
  (va_Z "java/lang/Integer" "DigitOnes" "[B" (.ref (g.2.2.2.2.1 2)) (ml_A g) U H ∧ va_T .byte (g.2.2.2.2.1 2) 100 (fun j => .int (ml_dig 0 j)) (ml_A g) U H) ∧
  (va_Z "java/lang/Integer" "DigitTens" "[B" (.ref (g.2.2.2.2.1 3)) (ml_A g) U H ∧ va_T .byte (g.2.2.2.2.1 3) 100 (fun j => .int (ml_dig 1 j)) (ml_A g) U H) ∧
  (∀ i, i < 7 → ml_tx g U H i) ∧
  (∀ q ∈ ml_nc, va_Nc q.1 q.2 U) ∧ va_T .int (g.2.2.2.2.1 4) (ml_sc g).1 (fun j => .int ((ml_sc g).2 j)) (ml_A g) U H ∧ va_Zq "jdk/internal/util/Preconditions" "SIOOBE_FORMATTER" "Ljava/util/function/BiFunction;" (ml_A g) U H
/-- what the tables say that warming keeps -/
def ml_X2 (g : ml_G) (U : State) : Prop := (∀ w ∈ ml_nest, va_Nw w U) ∧ (∀ q ∈ ml_txt, ∃ a, vk_R RX6 q.1 q.2 a U) ∧ ∀ i, i < 5 → vk_R RL (ml_str i).1 (ml_str i).2.1 (g.2.2.2.2.1 (10 + i)) U
def ml_X (g : ml_G) (U : State) (H : Heap) : Prop := ml_X1 g U H ∧ ml_X2 g U
/-- what holds at a call: the world, the tables, the statics -/
def ml_H (g : ml_G) (M : ml_M) (U : State) : Prop := (∀ q : Nat, U.heap.size ≤ q → ml_A g q) ∧ ml_P g M U.heap ∧ ml_K g U ∧ va_D (ml_A g) (ml_wm g M) ∧ ml_X g U U.heap
/-- the frame: the machine, the code, the words, the room, what the call found -/
def ml_F (E : ml_E) (g : ml_G) (cc : ByteArray) (own : String) (nL lv mc ms : Nat) (ret : Option FieldType) (tb : List ExceptionTableEntry) : Prop := match E with
  | (p, _, R, s, m, args, _, meth, c) => (p.tables.exec = Jvm.exec ∧ c.code = cc ∧ (∀ w ∈ ml_all, w.before args s = true) ∧ s.vm.findClass own = some m.cls ∧ c.maxLocals = nL ∧ meth.locks = false) ∧ (ml_K g s ∧ (∃ M, va_D (ml_A g) (ml_wm g M)) ∧ ml_X g s s.heap ∧ (∀ q : Nat, s.heap.size ≤ q → ml_A g q) ∧ g.2.2.2.2.2.stackTraces = false) ∧
    (40 + lv ≤ R.frames ∧ 800 + 64 * lv ≤ R.locals ∧ mc ≤ R.cells ∧ ms ≤ R.slots) ∧ meth.sig.returnType = ret ∧ c.exceptionTable.toList = tb
def ml_J (E : ml_E) (g : ml_G) (nL : Nat) (Q : State → Prop) (k n pc : Nat) (ls : List (Nat × Value)) (st : List Value) (M : ml_M) : Prop := match E with
  | (p, e, R, s, m, args, below, meth, c) => ∀ (H : Heap) (locs : List Loc) (la : Array Slot), ml_P g M H → va_S (ml_A g) s.heap H locs → lv_has la nL ls → W p g.2.2.2.2.2 e R s m args below meth c H locs k n Q (F0 m pc la st)
theorem ml_nest_warm {s U : State} (hW : s.WarmedH U.vm) (h : ∀ w ∈ ml_nest, va_Nw w s) : ∀ w ∈ ml_nest, va_Nw w U := by
  intro w hw
  have h1 := h w hw
  simp only [ml_nest, List.mem_cons, List.mem_nil_iff, or_false] at hw
  rcases hw with rfl | rfl | rfl | rfl | rfl | rfl | rfl | rfl | rfl | rfl | rfl | rfl | rfl | rfl | rfl | rfl | rfl | rfl
  all_goals first | exact va_Nw.warmF hW h1 | exact va_Nw.warmM hW h1 | exact va_Nw.warmC hW h1 | exact va_Nw.warmD hW h1
theorem ml_tx_to {g : ml_G} {s U : State} {H0 H : Heap} (hv : s.vm.Alike U.vm) (hq : ∀ a : Nat, a < H0.size → ¬ ml_A g a → H[a]? = H0[a]?) {i : Nat} (h : ml_tx g s H0 i) : ml_tx g U H i :=
  ⟨⟨va_O.moved hv (h.1.1.kept hq), va_OF.moved hv (h.1.2.1.kept hq), va_OF.moved hv (h.1.2.2.1.kept hq), va_T.moved hv (h.1.2.2.2.kept hq)⟩, h.2⟩
theorem ml_X1_to {g : ml_G} {s U : State} {H0 H : Heap} (hv : s.vm.Alike U.vm) (hq : ∀ a : Nat, a < H0.size → ¬ ml_A g a → H[a]? = H0[a]?) (h : ml_X1 g s H0) : ml_X1 g U H := by
  obtain ⟨⟨h1, h2⟩, ⟨h3, h4⟩, ⟨h5, h6⟩, h7, ⟨h8, h9⟩, ⟨h10, h11⟩, h12, h13, h15, h14⟩ := h
  exact ⟨⟨va_Z.moved hv (h1.kept hq), va_T.moved hv (h2.kept hq)⟩, ⟨va_Z.moved hv (h3.kept hq), va_T.moved hv (h4.kept hq)⟩, ⟨vx_Zq.moved hv (h5.kept hq), vx_Zq.moved hv (h6.kept hq)⟩, va_Z.moved hv (h7.kept hq), ⟨va_Z.moved hv (h8.kept hq), va_T.moved hv (h9.kept hq)⟩, ⟨va_Z.moved hv (h10.kept hq), va_T.moved hv (h11.kept hq)⟩, fun i hi => ml_tx_to hv hq (h12 i hi), fun q hq9 => va_Nc.moved hv (h13 q hq9), va_T.moved hv (h15.kept hq), va_Zq.moved hv (h14.kept hq)⟩
theorem ml_X2_to {g : ml_G} {s U : State} (hW : s.WarmedH U.vm) (h : ml_X2 g s) : ml_X2 g U := ⟨ml_nest_warm hW h.1, fun q hq => by obtain ⟨a, ha⟩ := h.2.1 q hq; exact ⟨a, vk_R.warm hW ha⟩, fun i hi => vk_R.warm hW (h.2.2 i hi)⟩
theorem ml_X_to {g : ml_G} {s U : State} {H : Heap} {locs : List Loc} (hW : s.WarmedH U.vm) (hS : va_S (ml_A g) s.heap H locs) (h : ml_X g s s.heap) : ml_X g U H := ⟨ml_X1_to hW.alike hS.2.1 h.1, ml_X2_to hW h.2⟩
theorem ml_H_to {g : ml_G} {M M0 : ml_M} {s t : State} {H : Heap} {locs : List Loc} (hW : s.WarmedH t.vm) (ht : t.heap = H) (hP : ml_P g M H) (hS : va_S (ml_A g) s.heap H locs) (hK : ml_K g s) (hD : va_D (ml_A g) (ml_wm g M0)) (hX : ml_X g s s.heap) (hz : ∀ q : Nat, s.heap.size ≤ q → ml_A g q) : ml_H g M t := by
  subst ht
  exact ⟨fun q hq => hz q (Nat.le_trans hS.1 hq), hP, va_K.moved hW.alike hK, ml_D_any hD, ml_X_to hW hS hX⟩
