/-! THE CLAIM OUT OF ONE WALK OF THE LAW'S BODY. Your part is whole_start (and what it stands on); all else here is the same for every law, but numbers. -/
def R_law : String := "CanalLocksLaw"
def lw_P (b : Addr) (xs : List Int32) (args : Array Value) (s : State) : Prop := args = #[.ref b] ∧ s.IntsAt b xs ∧ xs.length ≤ 260 ∧ (Jvm.Cond.and given_1 narrow_1).before args s = true
/-- what a walk over the start with the record d0 says of its end, said of the start itself -/
theorem lw_closed {s t : State} {o : Outcome} {d0 : Drawn} {L : List Loc} {k n : Nat} (hd0 : s.drawn.sameBut d0 lw_cs) (hv : ∃ v, o = .returned v) (hW : (s.setDrawn d0).WarmedH t.vm) (hs : (s.setDrawn d0).sameButNew ({ t with vm := s.vm } : State) L k n) : State.butDraws s t lw_cs (fun t1 => Framed s o t1 L k n) := by
  have h2 : t.drawn = d0 := congrArg State.drawn hs.1
  refine ⟨⟨hv, hW, State.sameButNew.setDrawn hs s.drawn⟩, ?_, by decide⟩
  rw [h2]
  exact hd0
def lw_Q (_ : Array Value) (s : State) (o : Outcome) (t : State) : Prop := o = .returned (some (.int 1)) ∧ State.butDraws s t lw_cs (fun t1 => Framed s o t1 [] 877187 6469907)
def lw_Z (below : List Frame) (a : Array Value) (s : State) : State → Prop := fun t => ∃ o, t.status = .running ∧ Ended t below o ∧ lw_Q a s o t
/-- the law's own end, with 1 on the stack, nothing written that was there before, its room as the claim has it; d0: the record of draws at this point (at the entry s.drawn: begin with 'refine W.base ?_' and 'have hd0 := Drawn.sameBut.refl s.drawn lw_cs') -/
theorem lw_ret {p : Program} {l : Launch} {e : Env} {s : State} {m : MethodId} {below : List Frame} {meth : Method} {c : Code} {b : Nat} {d0 : Drawn} (hd0 : s.drawn.sameBut d0 lw_cs) (hx : p.tables.exec = Jvm.exec) (hb : c.code = code) (hr : meth.sig.returnType = ret) (hlocks : meth.locks = false) {pc : Nat} {H : Heap} {ls : Array Slot} (hdg : decode code pc = .ok (.ireturn, 1)) : W p l e room_1 (s.setDrawn d0) m #[Value.ref b] below meth c H [] 877187 6469907 (lw_Z below #[Value.ref b] s) (F0 m pc ls [.int 1]) := by
  intro T hT X
  obtain ⟨fs, hret, hrun, hended, hW, hframe⟩ := X.leave (v := some (.int 1)) (hlocks := hlocks) (fun h => by rw [hr] at h; cases h)
  have hmeth' : T.vm.method? m = some meth := X.method'
  refine ⟨T.setFrames fs, ?_, .returned (some (.int 1)), hrun, hended, rfl, lw_closed hd0 ⟨_, rfl⟩ hW hframe⟩
  jvm_step X.here [X.here.top, hx, hb, hdg, hmeth', hr, ret, narrow_b1]
  (try refine ⟨rfl, ?_⟩); (try refine ⟨rfl, ?_⟩)
  first | (intro acts; rw [hret _ acts rfl rfl rfl]) | rw [hret _ _ rfl rfl rfl]
  exact Steps.refl _
/-- what holds at the law's entry: the machine, the code, the tables' words (any of lw_tbl by 'hts w (by decide +kernel)'), the script of L ints xs at the cell b, what the Statement gives of the start (any of its parts by flat_of_before) -/
def lw_At (p : Program) (s : State) (m : MethodId) (meth : Method) (c : Code) (b L : Nat) (xs : Nat → Int32) : Prop :=
  p.tables.exec = Jvm.exec ∧ c.code = code ∧ meth.sig.returnType = ret ∧ c.maxLocals = 13 ∧ s.vm.findClass R_law = some m.cls ∧ (∀ w ∈ lw_tbl, w.before #[Value.ref b] s = true) ∧ va_X b L xs s s.heap ∧ b < s.heap.size ∧ meth.locks = false ∧ (Jvm.Cond.and given_1 narrow_1).before #[Value.ref b] s = true
/-- what the Statement gives of the start -/
abbrev st_G (b : Nat) (s : State) : Prop := ∀ w ∈ flatC (Jvm.Cond.and given_1 narrow_1), w.before #[Value.ref b] s = true
def st_sv (C n : String) (d : String) (ty : FieldType) (N : Nat) (f : Nat → Int32) : List Cond := .arrayOf (.static C n d) ty :: .eq (.length (.static C n d)) (.int (Int32.ofNat N)) :: (List.range N).map (fun j => .eq (.elem (.static C n d) (.int (Int32.ofNat j))) (.int (f j)))
theorem st_T {b : Nat} {s : State} {A : Nat → Prop} (hgv : st_G b s) {C n d : String} {ty : FieldType} {N : Nat} {f : Nat → Int32} (hN : N < 2 ^ 31) (hin : ∀ w ∈ st_sv C n d ty N f, w ∈ flatC (Jvm.Cond.and given_1 narrow_1)) (hl : (Cond.laysStatic C n d).before #[Value.ref b] s = true) (hini : (Cond.initialized C).before #[Value.ref b] s = true) (hA : ∀ a : Nat, a < s.heap.size → ¬ A a) : ∃ t : Nat, va_Z C n d (.ref t) A s s.heap ∧ va_T ty t N (fun j => .int (f j)) A s s.heap := by
  obtain ⟨t, h1, h2⟩ := va_Tof (f := fun j => .int (f j)) (A := A) hN (hgv _ (hin _ List.mem_cons_self)) (va_eqt (hgv _ (hin _ (List.mem_cons_of_mem _ List.mem_cons_self)))) (fun j hj => va_eqt (hgv _ (hin _ (List.mem_cons_of_mem _ (List.mem_cons_of_mem _ (List.mem_map.mpr ⟨j, List.mem_range.mpr hj, rfl⟩)))))) hA
  exact ⟨t, va_Zof hl hini h1 hA, h2⟩
def st_str (i : Nat) : List Cond := .exactly (.string RL (ml_str i).1) "java/lang/String" :: .eq (.field (.string RL (ml_str i).1) "java/lang/String" "coder" "B") (.int 0) :: .arrayOf (.field (.string RL (ml_str i).1) "java/lang/String" "value" "[B") .byte :: .eq (.length (.field (.string RL (ml_str i).1) "java/lang/String" "value" "[B")) (.int (Int32.ofNat (ml_str i).2.2.length)) :: (List.range (ml_str i).2.2.length).map (fun j => .eq (.elem (.field (.string RL (ml_str i).1) "java/lang/String" "value" "[B") (.int (Int32.ofNat j))) (.int ((ml_str i).2.2.getD j 0)))
theorem st_sub {L l : List Cond} (i : Nat) (h : (L.drop i).take l.length = l) : ∀ w ∈ l, w ∈ L := fun w hw => List.mem_of_mem_drop (List.mem_of_mem_take (by rw [h]; exact hw))
set_option maxRecDepth 100000 in
theorem st_str0 : ∀ w ∈ st_str 0, w ∈ flatC (Jvm.Cond.and given_1 narrow_1) := st_sub 845 (by decide +kernel)
set_option maxRecDepth 100000 in
theorem st_str1 : ∀ w ∈ st_str 1, w ∈ flatC (Jvm.Cond.and given_1 narrow_1) := st_sub 865 (by decide +kernel)
set_option maxRecDepth 100000 in
theorem st_str2 : ∀ w ∈ st_str 2, w ∈ flatC (Jvm.Cond.and given_1 narrow_1) := st_sub 887 (by decide +kernel)
set_option maxRecDepth 100000 in
theorem st_str3 : ∀ w ∈ st_str 3, w ∈ flatC (Jvm.Cond.and given_1 narrow_1) := st_sub 910 (by decide +kernel)
set_option maxRecDepth 100000 in
theorem st_str4 : ∀ w ∈ st_str 4, w ∈ flatC (Jvm.Cond.and given_1 narrow_1) := st_sub 934 (by decide +kernel)
theorem st_str_in : ∀ i ∈ List.range 5, ∀ w ∈ st_str i, w ∈ flatC (Jvm.Cond.and given_1 narrow_1) := by
  intro i hi
  have hi := List.mem_range.mp hi
  match i, hi with
  | 0, _ => exact st_str0
  | 1, _ => exact st_str1
  | 2, _ => exact st_str2
  | 3, _ => exact st_str3
  | 4, _ => exact st_str4
  | i + 5, hi => exact absurd hi (by omega)
set_option maxRecDepth 100000 in
theorem st_sv_in : ∀ w ∈ st_sv RX6 "START_VOLUMES" "[I" .int 5 ml_sv, w ∈ flatC (Jvm.Cond.and given_1 narrow_1) := st_sub 5 (by decide +kernel)
set_option maxRecDepth 100000 in
theorem st_cs_in : ∀ w ∈ st_sv RX6 "COLOUR_SIGNS" "[C" .char 3 ml_cs, w ∈ flatC (Jvm.Cond.and given_1 narrow_1) := st_sub 16 (by decide +kernel)
set_option maxRecDepth 100000 in
theorem st_d0_in : ∀ w ∈ st_sv "java/lang/Integer" "DigitOnes" "[B" .byte 100 (ml_dig 0), w ∈ flatC (Jvm.Cond.and given_1 narrow_1) := st_sub 26 (by decide +kernel)
set_option maxRecDepth 100000 in
theorem st_d1_in : ∀ w ∈ st_sv "java/lang/Integer" "DigitTens" "[B" .byte 100 (ml_dig 1), w ∈ flatC (Jvm.Cond.and given_1 narrow_1) := st_sub 129 (by decide +kernel)
set_option maxRecDepth 100000 in
theorem st_nc_in : ∀ q ∈ ml_nc, Cond.not (.castable q.1 q.2) ∈ flatC (Jvm.Cond.and given_1 narrow_1) := List.forall_mem_cons.mpr ⟨List.mem_of_getElem? (i := 268) (by decide +kernel), List.forall_mem_cons.mpr ⟨List.mem_of_getElem? (i := 254) (by decide +kernel), List.forall_mem_cons.mpr ⟨List.mem_of_getElem? (i := 255) (by decide +kernel), List.forall_mem_cons.mpr ⟨List.mem_of_getElem? (i := 256) (by decide +kernel), List.forall_mem_cons.mpr ⟨List.mem_of_getElem? (i := 284) (by decide +kernel), List.forall_mem_cons.mpr ⟨List.mem_of_getElem? (i := 258) (by decide +kernel), fun _ h => absurd h List.not_mem_nil⟩⟩⟩⟩⟩⟩
set_option maxRecDepth 100000 in
theorem st_ns_in : ∀ w ∈ ml_nest, w ∈ tables_1 ∧ w.onTables = true := by decide +kernel
set_option maxRecDepth 100000 in
theorem st_tx_in : ∀ q ∈ ml_txt, Cond.stringRef RX6 q.1 q.2 ∈ tables_1 ∧ Cond.exactly (.string RX6 q.1) "java/lang/String" ∈ flatC (Jvm.Cond.and given_1 narrow_1) := List.forall_mem_cons.mpr ⟨⟨List.mem_of_getElem? (i := 987) (by decide +kernel), List.mem_of_getElem? (i := 526) (by decide +kernel)⟩, List.forall_mem_cons.mpr ⟨⟨List.mem_of_getElem? (i := 1195) (by decide +kernel), List.mem_of_getElem? (i := 790) (by decide +kernel)⟩, List.forall_mem_cons.mpr ⟨⟨List.mem_of_getElem? (i := 398) (by decide +kernel), List.mem_of_getElem? (i := 321) (by decide +kernel)⟩, List.forall_mem_cons.mpr ⟨⟨List.mem_of_getElem? (i := 1067) (by decide +kernel), List.mem_of_getElem? (i := 615) (by decide +kernel)⟩, List.forall_mem_cons.mpr ⟨⟨List.mem_of_getElem? (i := 1078) (by decide +kernel), List.mem_of_getElem? (i := 682) (by decide +kernel)⟩, List.forall_mem_cons.mpr ⟨⟨List.mem_of_getElem? (i := 1094) (by decide +kernel), List.mem_of_getElem? (i := 742) (by decide +kernel)⟩, List.forall_mem_cons.mpr ⟨⟨List.mem_of_getElem? (i := 334) (by decide +kernel), List.mem_of_getElem? (i := 304) (by decide +kernel)⟩, List.forall_mem_cons.mpr ⟨⟨List.mem_of_getElem? (i := 503) (by decide +kernel), List.mem_of_getElem? (i := 365) (by decide +kernel)⟩, List.forall_mem_cons.mpr ⟨⟨List.mem_of_getElem? (i := 999) (by decide +kernel), List.mem_of_getElem? (i := 587) (by decide +kernel)⟩, List.forall_mem_cons.mpr ⟨⟨List.mem_of_getElem? (i := 484) (by decide +kernel), List.mem_of_getElem? (i := 347) (by decide +kernel)⟩, fun _ h => absurd h List.not_mem_nil⟩⟩⟩⟩⟩⟩⟩⟩⟩⟩
set_option maxRecDepth 100000 in
theorem st_sr_in : ∀ i ∈ List.range 5, Cond.stringRef RL (ml_str i).1 (ml_str i).2.1 ∈ tables_1 := fun i hi => by
  have hi := List.mem_range.mp hi
  match i, hi with
  | 0, _ => exact List.mem_of_getElem? (i := 1228) (by decide +kernel)
  | 1, _ => exact List.mem_of_getElem? (i := 1229) (by decide +kernel)
  | 2, _ => exact List.mem_of_getElem? (i := 1230) (by decide +kernel)
  | 3, _ => exact List.mem_of_getElem? (i := 1231) (by decide +kernel)
  | 4, _ => exact List.mem_of_getElem? (i := 1232) (by decide +kernel)
  | i + 5, hi => exact absurd hi (by omega)
set_option maxRecDepth 100000 in
theorem st_q_in : Cond.isRef (.static Bundle.tN "UNASSIGNED_STACK" Bundle.steD) ∈ flatC (Jvm.Cond.and given_1 narrow_1) ∧ Cond.isRef (.static Bundle.tN "SUPPRESSED_SENTINEL" Bundle.listD) ∈ flatC (Jvm.Cond.and given_1 narrow_1) ∧ Cond.isRef (.static "jdk/internal/util/Preconditions" "SIOOBE_FORMATTER" "Ljava/util/function/BiFunction;") ∈ flatC (Jvm.Cond.and given_1 narrow_1) ∧ Cond.eq (.static "java/lang/String" "COMPACT_STRINGS" "Z") (.int 1) ∈ flatC (Jvm.Cond.and given_1 narrow_1) := ⟨List.mem_of_getElem? (i := 13) (by decide +kernel), List.mem_of_getElem? (i := 14) (by decide +kernel), List.mem_of_getElem? (i := 21) (by decide +kernel), List.mem_of_getElem? (i := 12) (by decide +kernel)⟩
theorem st_S {b : Nat} {s : State} {A : Nat → Prop} (hgv : st_G b s) (hA : ∀ a : Nat, a < s.heap.size → ¬ A a) : ∃ K V : Nat → Nat, ∀ i, i < 5 → (Term.string RL (ml_str i).1).eval #[Value.ref b] s none [] s = some (.ref (K i)) ∧ va_O "java/lang/String" (K i) A s s.heap ∧ va_OF "java/lang/String" "coder" "B" (.int 0) (K i) A s s.heap ∧ va_OF "java/lang/String" "value" "[B" (.ref (V i)) (K i) A s s.heap ∧ va_T .byte (V i) (ml_str i).2.2.length (fun j => .int ((ml_str i).2.2.getD j 0)) A s s.heap := by
  have h0 : ∀ i : Nat, ∃ q : Nat × Nat, i < 5 → (Term.string RL (ml_str i).1).eval #[Value.ref b] s none [] s = some (.ref q.1) ∧ va_O "java/lang/String" q.1 A s s.heap ∧ va_OF "java/lang/String" "coder" "B" (.int 0) q.1 A s s.heap ∧ va_OF "java/lang/String" "value" "[B" (.ref q.2) q.1 A s s.heap ∧ va_T .byte q.2 (ml_str i).2.2.length (fun j => .int ((ml_str i).2.2.getD j 0)) A s s.heap := by
    intro i
    by_cases hi : i < 5
    · have hin := st_str_in i (List.mem_range.mpr hi)
      have m0 := hgv _ (hin _ List.mem_cons_self)
      have m1 := hgv _ (hin _ (List.mem_cons_of_mem _ List.mem_cons_self))
      have m2 := hgv _ (hin _ (List.mem_cons_of_mem _ (List.mem_cons_of_mem _ List.mem_cons_self)))
      have m3 := hgv _ (hin _ (List.mem_cons_of_mem _ (List.mem_cons_of_mem _ (List.mem_cons_of_mem _ List.mem_cons_self))))
      have m4 : ∀ j, j < (ml_str i).2.2.length → _ := fun j hj => hgv _ (hin _ (List.mem_cons_of_mem _ (List.mem_cons_of_mem _ (List.mem_cons_of_mem _ (List.mem_cons_of_mem _ (List.mem_map.mpr ⟨j, List.mem_range.mpr hj, rfl⟩))))))
      have hlen : (ml_str i).2.2.length < 2 ^ 31 := by
        have : ∀ i ∈ List.range 5, (ml_str i).2.2.length < 2 ^ 31 := by decide
        exact this i (List.mem_range.mpr hi)
      obtain ⟨a, c, cA, kA, q1, q2, q3, q4, q5, q6, -⟩ := Cond.exactly_spec (args := #[Value.ref b]) (first := s) (o := none) (s := s) (idx := []) (t := .string RL (ml_str i).1) (cls := "java/lang/String") m0
      obtain ⟨t, ht, hT⟩ := va_Tof (f := fun j => .int ((ml_str i).2.2.getD j 0)) (A := A) hlen m2 (va_eqt m3) (fun j hj => va_eqt (m4 j hj)) hA
      exact ⟨(a, t), fun _ => ⟨q1, ⟨cA, q3, q5, by rw [q6]; exact q2, hA a (Array.getElem?_eq_some_iff.mp q3).1⟩, vk_OFof q1 (va_eqt m1) hA, vk_OFof q1 ht hA, hT⟩⟩
    · exact ⟨(0, 0), fun h => absurd h hi⟩
  obtain ⟨ad, had⟩ := Classical.axiomOfChoice h0
  exact ⟨fun i => (ad i).1, fun i => (ad i).2, had⟩
set_option maxHeartbeats 4000000 in
/-- the statics, the texts and the nest words at the start -/
def st_sb (i : Nat) : List Int32 := if i < 5 then (ml_str i).2.2 else []
theorem st_X {b L : Nat} {xs : Nat → Int32} {s : State} {A : Nat → Prop} (hscr : va_X b L xs s s.heap) (hbl : b < s.heap.size) (hgv : st_G b s) (htb : ∀ w ∈ tables_1, w.before #[Value.ref b] s = true) (hA : ∀ a : Nat, a < s.heap.size → ¬ A a) : ∃ sa : Nat → Nat, sa 4 = b ∧ ∀ (D : va_G) (cls : Nat → ClassId) (ad : Nat → Nat) (l : Launch), ml_X ((A, (L, xs), st_sb), D, cls, ad, sa, l) s s.heap := by
  have ht : ∀ (i : Nat) {w : Cond}, tables_1[i]? = some w → w.before #[Value.ref b] s = true := fun i w h => htb w (List.mem_of_getElem? h)
  obtain ⟨t0, z0, T0⟩ := st_T (A := A) hgv (by decide) st_sv_in (ht 51 (by decide +kernel)) (ht 1 (by decide +kernel)) hA
  obtain ⟨t1, z1, T1⟩ := st_T (A := A) hgv (by decide) st_cs_in (ht 509 (by decide +kernel)) (ht 1 (by decide +kernel)) hA
  obtain ⟨t2, z2, T2⟩ := st_T (A := A) hgv (by decide) st_d0_in (ht 724 (by decide +kernel)) (ht 26 (by decide +kernel)) hA
  obtain ⟨t3, z3, T3⟩ := st_T (A := A) hgv (by decide) st_d1_in (ht 726 (by decide +kernel)) (ht 26 (by decide +kernel)) hA
  obtain ⟨K, V, hS⟩ := st_S (A := A) hgv hA
  have u1 := vx_Zqof (A := A) (ht 316 (by decide +kernel)) (ht 13 (by decide +kernel)) (hgv _ st_q_in.1) hA
  have u2 := vx_Zqof (A := A) (ht 318 (by decide +kernel)) (ht 13 (by decide +kernel)) (hgv _ st_q_in.2.1) hA
  have u3 := va_Zqof (A := A) (ht 654 (by decide +kernel)) (ht 23 (by decide +kernel)) (hgv _ st_q_in.2.2.1) hA
  have u4 := va_Zof (A := A) (ht 231 (by decide +kernel)) (ht 10 (by decide +kernel)) (va_eqi (hgv _ st_q_in.2.2.2)) hA
  refine ⟨fun k => if k = 0 then t0 else if k = 1 then t1 else if k = 2 then t2 else if k = 3 then t3 else if k = 4 then b else if k < 40 then K (if k < 15 then k - 10 else 0) else V (if k < 45 then k - 40 else 0), rfl, fun D cls ad l => ?_⟩
  have eK : ∀ i, i < 7 → (if 10 + i = 0 then t0 else if 10 + i = 1 then t1 else if 10 + i = 2 then t2 else if 10 + i = 3 then t3 else if 10 + i = 4 then b else if 10 + i < 40 then K (if 10 + i < 15 then 10 + i - 10 else 0) else V (if 10 + i < 45 then 10 + i - 40 else 0)) = K (if i < 5 then i else 0) := fun i hi => by
    rw [if_neg (by omega), if_neg (by omega), if_neg (by omega), if_neg (by omega), if_neg (by omega), if_pos (by omega), show 10 + i - 10 = i by omega]
    by_cases h : i < 5
    · rw [if_pos h, if_pos (by omega)]
    · rw [if_neg h, if_neg (by omega)]
  have eV : ∀ i, i < 7 → (if 40 + i = 0 then t0 else if 40 + i = 1 then t1 else if 40 + i = 2 then t2 else if 40 + i = 3 then t3 else if 40 + i = 4 then b else if 40 + i < 40 then K (if 40 + i < 15 then 40 + i - 10 else 0) else V (if 40 + i < 45 then 40 + i - 40 else 0)) = V (if i < 5 then i else 0) := fun i hi => by
    rw [if_neg (by omega), if_neg (by omega), if_neg (by omega), if_neg (by omega), if_neg (by omega), if_neg (by omega), show 40 + i - 40 = i by omega]
    by_cases h : i < 5
    · rw [if_pos h, if_pos (by omega)]
    · rw [if_neg h, if_neg (by omega)]
  have esb : ∀ i, st_sb i = (ml_str (if i < 5 then i else 0)).2.2 := fun i => by
    unfold st_sb
    by_cases h : i < 5
    · rw [if_pos h, if_pos h]
    · rw [if_neg h, if_neg h]; rfl
  have hfit : ∀ i, i < 5 → ∀ j : Nat, fits .byte (.int ((ml_str i).2.2.getD j 0)) = true := by
    intro i hi j
    have h5 : ∀ i ∈ List.range 5, (ml_str i).2.2.length ≤ 1 ∧ fits .byte (.int ((ml_str i).2.2.getD 0 0)) = true := by decide
    obtain ⟨h1, h2⟩ := h5 i (List.mem_range.mpr hi)
    cases j with
    | zero => exact h2
    | succ j => rw [List.getD_eq_getElem?_getD, List.getElem?_eq_none (by omega)]; decide
  refine ⟨?_, fun w hw => ?_, fun q hq => ?_, fun i hi => ?_⟩
  · unfold ml_X1
    obtain ⟨scr, g1, g2, g3, g4, g5⟩ := hscr
    refine ⟨⟨z0, T0⟩, ⟨z1, T1⟩, ⟨u1, u2⟩, u4, ⟨z2, T2⟩, ⟨z3, T3⟩, fun i hi => ?_, fun q hq => va_Nc.of (hgv _ (st_nc_in q hq)), ⟨scr, g1, g2, g3, Nat.le_of_eq g4.symm, by rw [g4], g5, hA b hbl⟩, u3⟩
    have hi5 : (if i < 5 then i else 0) < 5 := by split <;> omega
    have h9 : ml_txq (K (if i < 5 then i else 0)) (V (if i < 5 then i else 0)) (st_sb i) A s s.heap := by
      rw [esb i]
      exact ⟨(hS _ hi5).2, hfit _ hi5⟩
    rw [← eK i hi, ← eV i hi] at h9
    exact h9
  · exact va_Nw.of (st_ns_in w hw).2 (htb w (st_ns_in w hw).1)
  · obtain ⟨a, c, cA, kA, q1, -⟩ := Cond.exactly_spec (args := #[Value.ref b]) (first := s) (o := none) (s := s) (idx := []) (t := .string RX6 q.1) (cls := "java/lang/String") (hgv _ (st_tx_in q hq).2)
    exact ⟨a, vk_R.of (htb _ (st_tx_in q hq).1) q1⟩
  · show vk_R RL (ml_str i).1 (ml_str i).2.1 (if 10 + i = 0 then t0 else if 10 + i = 1 then t1 else if 10 + i = 2 then t2 else if 10 + i = 3 then t3 else if 10 + i = 4 then b else if 10 + i < 40 then K (if 10 + i < 15 then 10 + i - 10 else 0) else V (if 10 + i < 45 then 10 + i - 40 else 0)) s
    rw [eK i (by omega), if_pos hi]
    exact vk_R.of (htb _ (st_sr_in i (List.mem_range.mpr hi))) (hS i hi).1
theorem iaJx00060 : ∀ w ∈ u_ws RJx00060 TJx00060 6, w ∈ ml_all := by decide +kernel
theorem iaJx7c733 : ∀ w ∈ u_ws RJx7c733 TJx7c733 6, w ∈ ml_all := by decide +kernel
theorem st_all {b : Nat} {s : State} (hts : ∀ w ∈ lw_tbl, w.before #[Value.ref b] s = true) : ∀ w ∈ ml_all, w.before #[Value.ref b] s = true := fun w hw => (List.mem_append.mp (List.mem_filter.mp hw).1).elim (hts w) (ml_xw_ok hts w)
theorem st_arr {b : Nat} {s : State} {ty : FieldType} (h : (Cond.arrayClass ty).before #[Value.ref b] s = true) (hty : ∀ C, ty ≠ .object C) : ∃ cA : ClassId, ArrOfT s cA ty ∧ va_RA s cA ty := by
  obtain ⟨c, k, comp, h1, h2, h3⟩ := Cond.arrayClass_spec h
  refine ⟨c, fun n z => ⟨fun k9 h9 => (by cases h9), k, h2, comp, h3⟩, ?_⟩
  cases ty with
  | object C => exact absurd rfl (hty C)
  | _ => exact h1
set_option maxHeartbeats 4000000 in
/-- the classes and the array classes at the start -/
theorem st_K {b : Nat} {s : State} (htb : ∀ w ∈ tables_1, w.before #[Value.ref b] s = true) (hall : ∀ w ∈ ml_all, w.before #[Value.ref b] s = true) : ∃ (D : va_G) (cls : Nat → ClassId), ∀ (z0 : (Nat → Prop) × (Nat × (Nat → Int32)) × (Nat → List Int32)) (ad sa : Nat → Nat) (l : Launch), ml_K (z0, D, cls, ad, sa, l) s := by
  have ht : ∀ (i : Nat) {w : Cond}, tables_1[i]? = some w → w.before #[Value.ref b] s = true := fun i w h => htb w (List.mem_of_getElem? h)
  obtain ⟨c0, i0, k0⟩ := u_known (C := RJ0) (T := TJ0) (N := 4) hall iaJ0 (n := 4) (ht 740 (by decide +kernel))
  obtain ⟨c1, i1, k1⟩ := u_known (C := RJ4) (T := TJ4) (N := 4) hall iaJ4 (n := 4) (ht 222 (by decide +kernel))
  obtain ⟨c2, i2, k2⟩ := u_known (C := RJx00060) (T := TJx00060) (N := 6) hall iaJx00060 (n := 6) (ht 837 (by decide +kernel))
  obtain ⟨c3, i3, k3⟩ := u_known (C := RJx7c733) (T := TJx7c733) (N := 6) hall iaJx7c733 (n := 6) (ht 585 (by decide +kernel))
  obtain ⟨c4, i4, k4⟩ := u_known (C := RX0) (T := TX0) (N := 4) hall iaX0 (n := 4) (ht 130 (by decide +kernel))
  obtain ⟨c5, i5, k5⟩ := u_known (C := RX1) (T := TX1) (N := 8) hall iaX1 (n := 8) (ht 90 (by decide +kernel))
  obtain ⟨c6, i6, k6⟩ := u_known (C := RX2) (T := TX2) (N := 4) hall iaX2 (n := 4) (ht 39 (by decide +kernel))
  obtain ⟨c7, i7, k7⟩ := u_known (C := RX3) (T := TX3) (N := 3) hall iaX3 (n := 3) (ht 169 (by decide +kernel))
  obtain ⟨c8, i8, k8⟩ := u_known (C := RX4) (T := TX4) (N := 9) hall iaX4 (n := 9) (ht 188 (by decide +kernel))
  obtain ⟨c9, i9, k9⟩ := u_known (C := RX5) (T := TX5) (N := 8) hall iaX5 (n := 8) (ht 45 (by decide +kernel))
  obtain ⟨c10, i10, k10⟩ := u_known (C := RX6) (T := TX6) (N := 9) hall iaX6 (n := 9) (ht 31 (by decide +kernel))
  obtain ⟨a0, A0, R0⟩ := st_arr (ty := .int) (ht 87 (by decide +kernel)) (fun C h => by cases h)
  obtain ⟨a1, A1, R1⟩ := st_arr (ty := .char) (ht 151 (by decide +kernel)) (fun C h => by cases h)
  obtain ⟨a2, A2, R2⟩ := st_arr (ty := .boolean) (ht 88 (by decide +kernel)) (fun C h => by cases h)
  obtain ⟨a4, A4, R4⟩ := st_arr (ty := .byte) (ht 253 (by decide +kernel)) (fun C h => by cases h)
  obtain ⟨comp, a3, kA, f1, f2, f3, f4, f5⟩ := Cond.arrayOver_spec (show (Cond.arrayOver (.object "CanalLocks$Flight")).before #[Value.ref b] s = true from (ht 175 (by decide +kernel)))
  refine ⟨(fun k => match k with | 0 => c0 | 1 => c1 | 2 => c2 | 3 => c3 | 4 => c4 | 5 => c5 | 6 => c6 | 7 => c7 | 8 => c8 | 9 => c9 | _ => c10, fun k => match k with | 0 => i0 | 1 => i1 | 2 => i2 | 3 => i3 | 4 => i4 | 5 => i5 | 6 => i6 | 7 => i7 | 8 => i8 | 9 => i9 | _ => i10), fun k => match k with | 0 => a0 | 1 => a1 | 2 => a2 | 3 => a3 | _ => a4, fun z0 ad sa l => ⟨fun c q hq => ?_, fun k q hq => ?_⟩⟩
  · match c, hq with
    | 0, hq => cases hq; exact k0
    | 1, hq => cases hq; exact k1
    | 2, hq => cases hq; exact k2
    | 3, hq => cases hq; exact k3
    | 4, hq => cases hq; exact k4
    | 5, hq => cases hq; exact k5
    | 6, hq => cases hq; exact k6
    | 7, hq => cases hq; exact k7
    | 8, hq => cases hq; exact k8
    | 9, hq => cases hq; exact k9
    | 10, hq => cases hq; exact k10
    | c + 11, hq => simp [vwCl] at hq
  · match k, hq with
    | 0, hq => cases hq; exact ⟨A0, R0⟩
    | 1, hq => cases hq; exact ⟨A1, R1⟩
    | 2, hq => cases hq; exact ⟨A2, R2⟩
    | 3, hq => cases hq; exact ⟨fun n z => ⟨fun k9 h9 => (by cases h9), kA, f3, comp, f4⟩, kA, comp, f3, f4, f1, f5⟩
    | 4, hq => cases hq; exact ⟨A4, R4⟩
    | k + 5, hq => simp [ml_ty] at hq
