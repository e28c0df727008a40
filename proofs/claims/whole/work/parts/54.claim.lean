/-! The start, the step, the claim. -/
def Iv (m : Nat) (M : ml_M) : Prop := sI (60 * m) M
theorem stp (m c : Nat) (x1 x2 x3 : Int32) (M : ml_M) (hm : m ≤ 600) (_ : c < 64) (hI : Iv m M) : ∃ M9, lw_step c x1 x2 x3 M M9 ∧ Iv (m + 1) M9 := by
  unfold Iv at hI ⊢
  rw [show 60 * (m + 1) = 60 * m + 60 by omega]
  rcases (show c = 0 ∨ c = 1 ∨ c = 2 ∨ c = 3 ∨ c = 4 ∨ c = 5 ∨ c = 6 ∨ c = 7 ∨ c = 8 ∨ c = 9 ∨ c = 10 ∨ c = 11 ∨ c = 12 ∨ c = 13 ∨ c = 14 ∨ c = 15 ∨ c = 16 ∨ c = 17 ∨ c = 18 ∨ c = 19 ∨ c = 20 ∨ c = 21 ∨ c = 22 ∨ c = 23 ∨ c = 24 ∨ c = 25 ∨ c = 26 ∨ c = 27 ∨ c = 28 ∨ c = 29 ∨ c = 30 ∨ c = 31 ∨ c = 32 ∨ c = 33 ∨ c = 34 ∨ c = 35 ∨ c = 36 ∨ c = 37 ∨ c = 38 ∨ c = 39 ∨ c = 40 ∨ c = 41 ∨ c = 42 ∨ c = 43 ∨ c = 44 ∨ c = 45 ∨ c = 46 ∨ c = 47 ∨ c = 48 ∨ c = 49 ∨ c = 50 ∨ c = 51 ∨ c = 52 ∨ 53 ≤ c by omega) with rfl | rfl | rfl | rfl | rfl | rfl | rfl | rfl | rfl | rfl | rfl | rfl | rfl | rfl | rfl | rfl | rfl | rfl | rfl | rfl | rfl | rfl | rfl | rfl | rfl | rfl | rfl | rfl | rfl | rfl | rfl | rfl | rfl | rfl | rfl | rfl | rfl | rfl | rfl | rfl | rfl | rfl | rfl | rfl | rfl | rfl | rfl | rfl | rfl | rfl | rfl | rfl | rfl | h53
  · obtain ⟨M9, a, b⟩ := z_0 x1 x2 x3 hI
    exact ⟨M9, lw_in0 a, b⟩
  · obtain ⟨M9, a, b⟩ := z_1 x1 x2 x3 hI
    exact ⟨M9, lw_in1 a, b⟩
  · obtain ⟨M9, a, b⟩ := z_2 x1 x2 x3 hI
    exact ⟨M9, lw_in2 a, b⟩
  · obtain ⟨M9, a, b⟩ := z_3 x1 x2 x3 hI
    exact ⟨M9, lw_in3 a, b⟩
  · obtain ⟨M9, a, b⟩ := z_4 x1 x2 x3 hI
    exact ⟨M9, lw_in4 a, b⟩
  · obtain ⟨M9, a, b⟩ := z_5 x1 x2 x3 hI
    exact ⟨M9, lw_in5 a, b⟩
  · obtain ⟨M9, a, b⟩ := z_6 x1 x2 x3 hI
    exact ⟨M9, lw_in6 a, b⟩
  · obtain ⟨M9, a, b⟩ := z_7 x1 x2 x3 hI
    exact ⟨M9, lw_in7 a, b⟩
  · obtain ⟨M9, a, b⟩ := z_8 x1 x2 x3 hI
    exact ⟨M9, lw_in8 a, b⟩
  · obtain ⟨M9, a, b⟩ := z_9 x1 x2 x3 hI
    exact ⟨M9, lw_in9 a, b⟩
  · obtain ⟨M9, a, b⟩ := z_10 x1 x2 x3 hI
    exact ⟨M9, lw_in10 a, b⟩
  · obtain ⟨M9, a, b⟩ := z_11 x1 x2 x3 hI
    exact ⟨M9, lw_in11 a, b⟩
  · obtain ⟨M9, a, b⟩ := z_12 x1 x2 x3 hI
    exact ⟨M9, lw_in12 a, b⟩
  · obtain ⟨M9, a, b⟩ := z_13 x1 x2 x3 hI
    exact ⟨M9, lw_in13 a, b⟩
  · obtain ⟨M9, a, b⟩ := z_14 x1 x2 x3 hI
    exact ⟨M9, lw_in14 a, b⟩
  · obtain ⟨M9, a, b⟩ := z_15 x1 x2 x3 hI
    exact ⟨M9, lw_in15 a, b⟩
  · obtain ⟨M9, a, b⟩ := z_16 x1 x2 x3 hI
    exact ⟨M9, lw_in16 a, b⟩
  · obtain ⟨M9, a, b⟩ := z_17 x1 x2 x3 hI
    exact ⟨M9, lw_in17 a, b⟩
  · obtain ⟨M9, a, b⟩ := z_18 x1 x2 x3 hI
    exact ⟨M9, lw_in18 a, b⟩
  · obtain ⟨M9, a, b⟩ := z_19 x1 x2 x3 hI
    exact ⟨M9, lw_in19 a, b⟩
  · obtain ⟨M9, a, b⟩ := z_20 x1 x2 x3 hI
    exact ⟨M9, lw_in20 a, b⟩
  · obtain ⟨M9, a, b⟩ := z_21 x1 x2 x3 hI
    exact ⟨M9, lw_in21 a, b⟩
  · obtain ⟨M9, a, b⟩ := z_22 x1 x2 x3 hI
    exact ⟨M9, lw_in22 a, b⟩
  · obtain ⟨M9, a, b⟩ := z_23 x1 x2 x3 hI
    exact ⟨M9, lw_in23 a, b⟩
  · obtain ⟨M9, a, b⟩ := z_24 x1 x2 x3 hI
    exact ⟨M9, lw_in24 a, b⟩
  · obtain ⟨M9, a, b⟩ := z_25 x1 x2 x3 hI
    exact ⟨M9, lw_in25 a, b⟩
  · obtain ⟨M9, a, b⟩ := z_26 x1 x2 x3 hI
    exact ⟨M9, lw_in26 a, b⟩
  · obtain ⟨M9, a, b⟩ := z_27 x1 x2 x3 hI
    exact ⟨M9, lw_in27 a, b⟩
  · obtain ⟨M9, a, b⟩ := z_28 x1 x2 x3 hI
    exact ⟨M9, lw_in28 a, b⟩
  · obtain ⟨M9, a, b⟩ := z_29 x1 x2 x3 hI
    exact ⟨M9, lw_in29 a, b⟩
  · obtain ⟨M9, a, b⟩ := z_30 x1 x2 x3 hI
    exact ⟨M9, lw_in30 a, b⟩
  · obtain ⟨M9, a, b⟩ := z_31 x1 x2 x3 hI
    exact ⟨M9, lw_in31 a, b⟩
  · obtain ⟨M9, a, b⟩ := z_32 x1 x2 x3 hI
    exact ⟨M9, lw_in32 a, b⟩
  · obtain ⟨M9, a, b⟩ := z_33 x1 x2 x3 hI
    exact ⟨M9, lw_in33 a, b⟩
  · obtain ⟨M9, a, b⟩ := z_34 (by omega) x1 x2 x3 hI
    exact ⟨M9, lw_in34 a, b⟩
  · obtain ⟨M9, a, b⟩ := z_35 x1 x2 x3 hI
    exact ⟨M9, lw_in35 a, b⟩
  · obtain ⟨M9, a, b⟩ := z_36 x1 x2 x3 hI
    exact ⟨M9, lw_in36 a, b⟩
  · obtain ⟨M9, a, b⟩ := z_37 x1 x2 x3 hI
    exact ⟨M9, lw_in37 a, b⟩
  · obtain ⟨M9, a, b⟩ := z_38 x1 x2 x3 hI
    exact ⟨M9, lw_in38 a, b⟩
  · obtain ⟨M9, a, b⟩ := z_39 x1 x2 x3 hI
    exact ⟨M9, lw_in39 a, b⟩
  · obtain ⟨M9, a, b⟩ := z_40 x1 x2 x3 hI
    exact ⟨M9, lw_in40 a, b⟩
  · obtain ⟨M9, a, b⟩ := z_41 x1 x2 x3 hI
    exact ⟨M9, lw_in41 a, b⟩
  · obtain ⟨M9, a, b⟩ := z_42 x1 x2 x3 hI
    exact ⟨M9, lw_in42 a, b⟩
  · obtain ⟨M9, a, b⟩ := z_43 x1 x2 x3 hI
    exact ⟨M9, lw_in43 a, b⟩
  · obtain ⟨M9, a, b⟩ := z_44 x1 x2 x3 hI
    exact ⟨M9, lw_in44 a, b⟩
  · obtain ⟨M9, a, b⟩ := z_45 x1 x2 x3 hI
    exact ⟨M9, lw_in45 a, b⟩
  · obtain ⟨M9, a, b⟩ := z_46 x1 x2 x3 hI
    exact ⟨M9, lw_in46 a, b⟩
  · obtain ⟨M9, a, b⟩ := z_47 x1 x2 x3 hI
    exact ⟨M9, lw_in47 a, b⟩
  · obtain ⟨M9, a, b⟩ := z_48 x1 x2 x3 hI
    exact ⟨M9, lw_in48 a, b⟩
  · obtain ⟨M9, a, b⟩ := z_49 x1 x2 x3 hI
    exact ⟨M9, lw_in49 a, b⟩
  · obtain ⟨M9, a, b⟩ := z_50 x1 x2 x3 hI
    exact ⟨M9, lw_in50 a, b⟩
  · obtain ⟨M9, a, b⟩ := z_51 x1 x2 x3 hI
    exact ⟨M9, lw_in51 a, b⟩
  · obtain ⟨M9, a, b⟩ := z_52 x1 x2 x3 hI
    exact ⟨M9, lw_in52 a, b⟩
  · exact ⟨M, lw_in53 h53, hI.mono (Nat.le_add_right _ 60)⟩
theorem st0 : Iv 0 ml_M0 := by
  have e16 : ∀ o, o < 15 → o ≠ 2 → ml_M0 (ml_fl 0 + o) = fun _ => 0 := fun o ho h2 => by
    rcases (show o = 0 ∨ o = 1 ∨ o = 3 ∨ o = 4 ∨ o = 5 ∨ o = 6 ∨ o = 7 ∨ o = 8 ∨ o = 9 ∨ o = 10 ∨ o = 11 ∨ o = 12 ∨ o = 13 ∨ o = 14 by omega) with rfl | rfl | rfl | rfl | rfl | rfl | rfl | rfl | rfl | rfl | rfl | rfl | rfl | rfl <;> rfl
  have e12 : ∀ q, (q < 11 ∨ 15 < q) → ml_M0 12 q = 0 := fun q hq => by
    show upd (upd (upd (upd (upd (fun _ => 0) 11 300) 12 144) 13 108) 14 72) 15 60 q = 0
    rw [pk_un (by omega), pk_un (by omega), pk_un (by omega), pk_un (by omega), pk_un (by omega)]
  have z0 : (0 : Int32) = nI 0 := rfl
  unfold Iv sI
  refine ⟨⟨[], 0, ⟨⟨fun j => if j = 0 then 300 else if j = 1 then 144 else if j = 2 then 108 else if j = 3 then 72 else 60, fun _ => 0, fun _ => 0, 0, 0, ⟨fun j hj => ?_, fun j hj => ?_, fun j hj => ⟨?_, Nat.zero_le 3, ?_⟩, fun j hj => ⟨?_, Nat.zero_le 1, ?_⟩, ⟨?_, by decide, ?_⟩, ⟨?_, by decide, ?_⟩⟩, ⟨?_, ?_, ?_, ?_⟩, ?_⟩, ⟨0, 0, by decide, by decide, ?_, ?_, ?_, fun j hj => ⟨?_, ?_, 0, by decide, ?_⟩⟩, fun j hj => ?_, ⟨?_, fun b x hx => by simp at hx⟩, ⟨?_, fun b x hx => by simp at hx⟩, fun x hx => (by cases hx), Nat.zero_le 8, fun j h1 h3 => Nat.zero_le 2⟩, ?_, Nat.zero_le _, List.Pairwise.nil, fun t ht => (by cases ht)⟩, ⟨0, 0, by decide, by decide, rfl, rfl, rfl, fun k h1 h2 => by omega⟩, ⟨0, by decide, rfl, rfl, fun h => (by cases h)⟩, ⟨0, by decide, rfl, rfl, fun j hj => by omega⟩, ⟨rfl, rfl⟩, ⟨0, by decide, rfl, rfl, rfl, fun j hj => by omega⟩⟩
  · rcases i_lt5 hj with rfl | rfl | rfl | rfl | rfl <;> exact ⟨rfl, by decide⟩
  · rcases i_lt5 hj with rfl | rfl | rfl | rfl | rfl <;> rfl
  · rw [e16 3 (by decide) (by decide)]; rfl
  · rw [e12 _ (by omega)]; rfl
  · rw [e16 4 (by decide) (by decide)]; rfl
  · rw [e12 _ (by omega)]; rfl
  · rw [e16 1 (by decide) (by decide)]; rfl
  · rw [e12 _ (by omega)]; rfl
  · rw [e16 1 (by decide) (by decide)]; rfl
  · rw [e12 _ (by omega)]; rfl
  · rw [e12 _ (by omega), e16 1 (by decide) (by decide)]
  · rw [e12 _ (by omega), e16 1 (by decide) (by decide)]
  · rw [e12 _ (by omega), e16 1 (by decide) (by decide)]
  · rw [e12 _ (by omega)]; rfl
  · unfold rS wsum wacc
    rw [e16 1 (by decide) (by decide)]
    decide
  · rw [e16 12 (by decide) (by decide)]; rfl
  · rw [e16 12 (by decide) (by decide)]; rfl
  · rw [e12 _ (by omega)]; rfl
  · rw [e12 _ (by omega), e16 13 (by decide) (by decide)]
  · rw [e12 _ (by omega), e16 14 (by decide) (by decide)]
  · rw [e12 _ (by omega)]; rfl
  · rw [e12 _ (by omega), e16 11 (by decide) (by decide)]
  · rw [e16 5 (by decide) (by decide)]; rfl
  · rw [e12 _ (by omega)]; rfl
  · rw [e16 5 (by decide) (by decide)]; rfl
theorem whole_start {p : Program} {e : Env} {s : State} {m : MethodId} {below : List Frame} {meth : Method} {c : Code} (l : Launch) (hflags : l.flags = flags0) {b L : Nat} {xs : Nat → Int32} (hL : L ≤ 2048) (C0 : lw_At p s m meth c b L xs) : W p l e room_1 s m #[Value.ref b] below meth c s.heap [] 0 0 (lw_Z below #[Value.ref b] s) (entryFrame m ([Value.ref b] : List Value).toArray 10) :=
  st_whole (Inv := Iv) stp st0 l hflags hL C0
set_option maxHeartbeats 4000000 in
theorem lw_walk (l : Launch) (hflags : l.flags = flags0) (b : Addr) (xs : List Int32) : MetFree l x (headSpec (Jvm.Cond.code x code maxLocals ret :: tables_1) room_1) (lw_P b xs) (fun _ _ _ _ _ => True) lw_Q := by
  refine MetFree.of_bodyS (code := code) (maxLocals := maxLocals) (ret := ret) (by decide) ?_ ?_
  · intro args s m h hn
    obtain ⟨meth, c, h1, h2, h3, h4, h5, h6, -, -⟩ := Cond.code_spec hn (atoms_spec (ws := Jvm.Cond.code x code maxLocals ret :: tables_1) h _ List.mem_cons_self)
    exact ⟨meth, c, h1, h2, h3, h4, h5, h6⟩
  · intro p e s m args below meth c s₁ B hml0 hP _
    obtain ⟨rfl, hx, hbd, hgv⟩ := hP
    obtain ⟨scr, harrAt, hlist, hof, hsmall⟩ := hx
    obtain ⟨hcb, hkn, -, -⟩ := State.arrayAt?_spec harrAt
    have hown : s.vm.findClass R_law = some m.cls := findClass_of_methodNamed B.named
    have hts0 : ∀ c ∈ (Jvm.Cond.code x code maxLocals ret :: tables_1), c.before #[Value.ref b] s = true := atoms_spec (ws := Jvm.Cond.code x code maxLocals ret :: tables_1) B.pre
    have hts : ∀ w ∈ lw_tbl, w.before #[Value.ref b] s = true := k2_hts_sels lw_privs (fun w hw => hts0 w (List.mem_cons_of_mem _ hw)) lw_privs_ok
    have hml : c.maxLocals = 10 := B.maxLocals_eq (hts0 _ List.mem_cons_self)
    have X₀ : Stand p l e room_1 s m #[Value.ref b] below meth c s₁ [] 0 0 := Stand.of_body B
    have hh0 : s₁.heap = s.heap := by rw [B.state]; rfl
    have hsz : scr.slots.size = xs.length := by rw [← Array.length_toList, hlist, List.length_map]
    have hval : ∀ j : Nat, j < xs.length → scr.slots[j]? = some (.int (xs.getD j 0)) := fun j hj => by
      rw [← Array.getElem?_toList, hlist]
      simp [hj]
    have hbl : b < s.heap.size := (Array.getElem?_eq_some_iff.mp hcb).1
    have hX : va_X b xs.length (fun j => xs.getD j 0) s s.heap := ⟨scr, hcb, hof, hkn, hsz, hval⟩
    have K : W p l e room_1 s m #[Value.ref b] below meth c s₁.heap [] 0 0 (lw_Z below #[Value.ref b] s) (entryFrame m ([Value.ref b] : List Value).toArray 10) := by
      rw [hh0]
      exact whole_start l hflags hbd ⟨B.exec, B.bytes, B.returns, hml, hown, hts, hX, hbl, B.notSynchronized, hgv⟩
    obtain ⟨t, a1, o, b1, b2, b3⟩ := K s₁ rfl X₀
    exact ⟨t, o, a1, b1, b2, b3⟩
theorem lw_pre_spec {args : Array Value} {s : State} (h : (Jvm.Cond.and given_1 narrow_1).before args s = true) (hr : rest_1_c.before args s = true) : ∃ (b : Addr) (xs : List Int32), lw_P b xs args s := by
  have hs := flat_of_before _ h
  have hq := flat_of_before _ hr
  have hc : (Cond.count 1).before args s = true := hs _ (by decide +kernel)
  have harr : (Cond.arrayOf (.arg 0) .int).before args s = true := hs _ (by decide +kernel)
  have hle : (Cond.le (.length (.arg 0)) (.int 2048)).before args s = true := hs _ (by decide +kernel)
  have hlen : (Cond.isInt (.length (.arg 0))).before args s = true := hq _ (by decide +kernel)
  have hall : (Cond.all (.arg 0) (.isInt (.elem (.arg 0) (.index 0)))).before args s = true := hq _ (by decide +kernel)
  obtain ⟨b, xs, hb, hx⟩ := State.ints_of_pre rfl harr hlen hall
  have hsm : xs.length < 2 ^ 31 := hx.choose_spec.2.2.2
  have hev : (Term.length (.arg 0)).eval args s none [] s = some (.int xs.length.toInt32) := hx.length_eval hb
  have hv := Cond.le_ints hev (show (Term.int 2048).eval args s none [] s = some (.int 2048) from rfl)
  have hd : xs.length.toInt32 ≤ 2048 := by
    simpa [Cond.before, Cond.holds, hv] using hle
  have hN : xs.length ≤ 2048 := (Int32.ofNat_le_ofNat hsm (by decide)).mp (show Int32.ofNat xs.length ≤ Int32.ofNat 2048 from hd)
  exact ⟨b, xs, Cond.one_arg hc (show args[0]? = some (.ref b) from hb), hx, hN, h⟩
theorem lw_comes (l : Launch) (hflags : l.flags = flags0) : Comes l x (Jvm.Cond.code x code maxLocals ret :: tables_1) room_1 (fun tb e args s => Calls_1 tb e args s ∧ rest_1 tb e args s ∧ Pre_1 tb e args s)
    (fun _ _ args s o t => lw_Q args s o t) := by
  intro p e ha hc hk s m args below hf hfit hheap happ hpre
  obtain ⟨b, xs, hP⟩ := lw_pre_spec hpre.2.2 hpre.2.1
  obtain ⟨k, o, h1, h2, h3, hQ⟩ := lw_walk l hflags b xs p e ha hc hk s m args below hf ((Spec.applies_iff_loose hf).mp happ).1 hP trivial
  exact ⟨k, o, h1, h2, h3, hQ⟩
theorem lw_frame {s t : State} {o : Outcome} {args : Array Value} (h : State.butDraws s t lw_cs (fun t1 => Framed s o t1 [] 601024 7293034)) :
    State.butDraws s t [Jvm.Choice.named "NaN.bits"] (fun t1 => Framed s o t1 (fieldLocs frame_1_writes args s ++ arrayLocs frame_1_arrays args s ++ staticLocs frame_1_statics s) 601024 7293034) := h
theorem lw_limb (L : Cond) (hL : ∀ (args : Array Value) (s t : State), L.after args s (.returned (some (.int 1))) t = true) :
    ArmFor flags0 classFile x code maxLocals ret World_1 tables_1 room_1 Calls_1 rest_1 Pre_1
      (fun tb e a s o t => postC L tb e a s o t ∧ State.butDraws s t [Jvm.Choice.named "NaN.bits"] (fun t1 => Framed s o t1 (fieldLocs frame_1_writes a s ++ arrayLocs frame_1_arrays a s ++ staticLocs frame_1_statics s) 601024 7293034)) := by
  intro l hflags _ _ p e ha hc hk s m args below hf hfit hheap happ hpre
  obtain ⟨k, o, h1, h2, h3, rfl, hF⟩ := lw_comes l hflags p e ha hc hk s m args below hf hfit hheap happ hpre
  exact ⟨k, _, h1, h2, h3, hL args s _, lw_frame hF⟩
theorem i_vc : Claimed_1_1 ∧ Claimed_1_2 := ⟨lw_limb limb_1_1 (fun args s t => by simp [limb_1_1, Cond.after, Cond.holds, Cond.value]), lw_limb limb_1_2 (fun args s t => Cond.after_iff.mpr (by
  first | (rw [show limb_1_2 = Cond.eq .result (.int 1) from rfl, Cond.eq_ints (x := 1) (y := 1) rfl rfl]; simp; done) | (simp [limb_1_2, Cond.value, Term.eval]; done)))⟩
