/-! A GHOST beside the class: plain functions over a memory's rows 11 and 12 (no object, no bytecode of this claim); the class's minutes and changes are followed beside them, so that whole's lemmas serve. -/
set_option maxRecDepth 100000 in
def fX7_thrown (M : ml_M) : Option ml_R :=
  some (.inl (M 11 0), M)
set_option maxRecDepth 100000 in
def fX7_in (a0 : Int32) (a1 : Int32) (a2 : Int32) (M : ml_M) : Option ml_R :=
  ml_jn (fun (y1 : Int32) => if narrow .boolean (.int y1) = .int y1 then some (.inl y1, M) else none) (fun B2 => (if a0 < a1 then B2 0 else (if a2 < a0 then B2 0 else B2 1)))
set_option maxRecDepth 100000 in
def fX7_copies_s0 (a0 : Int32) (a1 : Int32) (rec : Int32 → Int32 → Int32 → ml_M → Option ml_R) (x1 x2 x3 : Int32) (M : ml_M) : Option ml_R :=
  (if 80 ≤ x3 then some (.inl 0, M) else if ml_ok ((80 * x1) + x3) 960 then if ml_ok ((80 * x2) + x3) 960 then ml_lt (ml_w M 12 ((80 * x2) + x3).toNatClampNeg (M 12 ((80 * x1) + x3).toNatClampNeg)) (fun M1 => rec x1 x2 (x3 + 1) M1) else none else none)
def fX7_copies_l (a0 : Int32) (a1 : Int32) : Nat → Int32 → Int32 → Int32 → ml_M → Option ml_R
  | 0 => fun _ _ _ _ => none
  | n + 1 => fX7_copies_s0 a0 a1 (fX7_copies_l a0 a1 n)
set_option maxRecDepth 100000 in
def fX7_copies (a0 : Int32) (a1 : Int32) (M : ml_M) : Option ml_R :=
  fX7_copies_l a0 a1 ml_fuel a0 a1 0 M
set_option maxRecDepth 100000 in
def fX7_begins (M : ml_M) : Option ml_R :=
  ml_bd (fX7_copies 0 10 M) (fun r1 M2 => some (.inl 0, M2))
set_option maxRecDepth 100000 in
def fX7_ends_s0 (a0 : Int32) (a1 : Int32) (a2 : Int32) (a3 : Int32) (a4 : Int32) (rec : Int32 → Int32 → Int32 → Int32 → Int32 → Int32 → ml_M → Option ml_R) (x1 x2 x3 x4 x5 x6 : Int32) (M : ml_M) : Option ml_R :=
  (if 8 ≤ x6 then ml_lt (ml_w M 11 2 ((M 11 2) - 1)) (fun M1 => ml_lt (ml_w M1 11 2 ((M1 11 2) + 1)) (fun M2 => ml_bd (fX7_copies 10 (M2 11 2) M2) (fun r3 M4 => some (.inl (M4 11 4), M4)))) else ml_bd (fX7_copies (x6 + 1) x6 M) (fun r5 M6 => rec x1 x2 x3 x4 x5 (x6 + 1) M6))
def fX7_ends_l (a0 : Int32) (a1 : Int32) (a2 : Int32) (a3 : Int32) (a4 : Int32) : Nat → Int32 → Int32 → Int32 → Int32 → Int32 → Int32 → ml_M → Option ml_R
  | 0 => fun _ _ _ _ _ _ _ => none
  | n + 1 => fX7_ends_s0 a0 a1 a2 a3 a4 (fX7_ends_l a0 a1 a2 a3 a4 n)
set_option maxRecDepth 100000 in
def fX7_ends (a0 : Int32) (a1 : Int32) (a2 : Int32) (a3 : Int32) (a4 : Int32) (M : ml_M) : Option ml_R :=
  ml_jn (fun (y1 : Int32) => ml_lt (ml_w M 11 0 y1) (fun M4 => (if (M4 11 0) = 0 then (if (M4 11 2) = 8 then fX7_ends_l a0 a1 a2 a3 a4 ml_fuel a0 a1 a2 a3 a4 1 M4 else ml_lt (ml_w M4 11 2 ((M4 11 2) + 1)) (fun M5 => ml_bd (fX7_copies 10 (M5 11 2) M5) (fun r6 M7 => some (.inl (M7 11 4), M7)))) else ml_bd (fX7_copies 10 0 M4) (fun r8 M9 => some (.inl 0, M9))))) (fun B2 => (if a0 = 1 then B2 a1 else (if a0 = 2 then B2 a2 else (if a0 = 3 then B2 a3 else (if a0 = 4 then B2 a4 else B2 0)))))
set_option maxRecDepth 100000 in
def fX7_isBasin (a0 : Int32) (M : ml_M) : Option ml_R :=
  ml_bd (fX7_in a0 0 4 M) (fun r1 M2 => if narrow .boolean (.int r1) = .int r1 then some (.inl r1, M2) else none)
set_option maxRecDepth 100000 in
def fX7_isGate (a0 : Int32) (M : ml_M) : Option ml_R :=
  ml_bd (fX7_in a0 0 3 M) (fun r1 M2 => if narrow .boolean (.int r1) = .int r1 then some (.inl r1, M2) else none)
set_option maxRecDepth 100000 in
def fX7_size (a0 : Int32) (M : ml_M) : Option ml_R :=
  ml_jn (fun (y1 : Int32) => some (.inl y1, M)) (fun B2 => (if a0 = 0 then B2 10 else (if a0 = 4 then B2 10 else B2 6)))
set_option maxRecDepth 100000 in
def fX7_above (a0 : Int32) (a1 : Int32) (M : ml_M) : Option ml_R :=
  if ml_ok (11 + a0) 960 then ml_bd (fX7_size a1 M) (fun r1 M2 => if ml_ok (11 + a1) 960 then ml_bd (fX7_size a0 M2) (fun r3 M4 => some (.inl (((M 12 (11 + a0).toNatClampNeg) * r1) - ((M2 12 (11 + a1).toNatClampNeg) * r3)), M4)) else none) else none
set_option maxRecDepth 100000 in
def fX7_equal (a0 : Int32) (M : ml_M) : Option ml_R :=
  ml_bd (fX7_above a0 (a0 + 1) M) (fun r1 M2 => ml_jn (fun (y3 : Int32) => ml_bd (fX7_size a0 M2) (fun r6 M7 => ml_bd (fX7_size (a0 + 1) M7) (fun r8 M9 => if ¬ ((r6 + r8) = 0) then some (.inl (y3 / (r6 + r8)), M9) else none))) (fun B4 => (if 0 ≤ r1 then B4 r1 else B4 (-r1))))
set_option maxRecDepth 100000 in
def fX7_flows (a0 : Int32) (M : ml_M) : Option ml_R :=
  ml_bd (fX7_equal a0 M) (fun r1 M2 => if ml_ok (16 + a0) 960 then ml_lt (5 * (M2 12 (16 + a0).toNatClampNeg)) (fun v3 => if ml_ok (20 + a0) 960 then ml_jn (fun (y4 : Int32) => ml_bd (fX7_above a0 (a0 + 1) M2) (fun r7 M8 => ml_jn (fun (y9 : Int32) => some (.inl y9, M8)) (fun B10 => (if 0 ≤ r7 then B10 y4 else B10 (-y4))))) (fun B5 => (if (M2 12 (20 + a0).toNatClampNeg) = 0 then (if r1 ≤ v3 then B5 r1 else B5 v3) else B5 r1)) else none) else none)
set_option maxRecDepth 100000 in
def fX7_happens_s0 (a0 : Int32) (a1 : Int32) (rec : Int32 → Int32 → Int32 → ml_M → Option ml_R) (x1 x2 x3 : Int32) (M : ml_M) : Option ml_R :=
  (if x3 ≤ 1 then ml_lt (ml_w M 12 24 x1) (fun M1 => ml_lt (ml_w M1 12 25 x2) (fun M2 => ml_jn (fun (y3 : Int32) => ml_lt (ml_w M2 12 7 y3) (fun M6 => some (.inl 0, M6))) (fun B4 => (if 8 ≤ (M2 12 7) then B4 8 else B4 ((M2 12 7) + 1))))) else if ml_ok ((24 + x3) - 2) 960 then if ml_ok (24 + x3) 960 then ml_lt (ml_w M 12 (24 + x3).toNatClampNeg (M 12 ((24 + x3) - 2).toNatClampNeg)) (fun M7 => rec x1 x2 (x3 + (-1)) M7) else none else none)
def fX7_happens_l (a0 : Int32) (a1 : Int32) : Nat → Int32 → Int32 → Int32 → ml_M → Option ml_R
  | 0 => fun _ _ _ _ => none
  | n + 1 => fX7_happens_s0 a0 a1 (fX7_happens_l a0 a1 n)
set_option maxRecDepth 100000 in
def fX7_happens (a0 : Int32) (a1 : Int32) (M : ml_M) : Option ml_R :=
  fX7_happens_l a0 a1 ml_fuel a0 a1 15 M
set_option maxRecDepth 100000 in
def fX7_rains (M : ml_M) : Option ml_R :=
  ml_lt (ml_w M 12 3 ((M 12 3) + (M 12 1))) (fun M1 => ml_lt (ml_w M1 12 11 ((M1 12 11) + (M1 12 1))) (fun M2 => ml_bd (fX7_size 0 M2) (fun r3 M4 => ml_lt ((M2 12 11) - (40 * r3)) (fun v5 => ml_jn (fun (M6 : ml_M) => ml_jn (fun (y9 : Int32) => ml_lt (ml_w M6 12 15 ((M6 12 15) - y9)) (fun M12 => ml_lt (ml_w M12 12 4 ((M12 12 4) + y9)) (fun M13 => some (.inl 0, M13)))) (fun B10 => (if (M6 12 15) ≤ (M6 12 2) then B10 (M6 12 15) else B10 (M6 12 2)))) (fun B7 => (if v5 ≤ 0 then B7 M4 else ml_lt (ml_w M4 12 11 ((M4 12 11) - v5)) (fun M14 => ml_lt (ml_w M14 12 5 ((M14 12 5) + v5)) (fun M15 => ml_bd (fX7_happens 115 v5 M15) (fun r16 M17 => B7 M17)))))))))
set_option maxRecDepth 100000 in
def fX7_b (a0 : Int32) (a1 : Int32) (M : ml_M) : Option ml_R :=
  if ml_ok ((40 + (5 * a0)) + a1) 960 then some (.inl (M 12 ((40 + (5 * a0)) + a1).toNatClampNeg), M) else none
set_option maxRecDepth 100000 in
def fX7_set (a0 : Int32) (a1 : Int32) (a2 : Int32) (M : ml_M) : Option ml_R :=
  if ml_ok ((40 + (5 * a0)) + a1) 960 then ml_lt (ml_w M 12 ((40 + (5 * a0)) + a1).toNatClampNeg a2) (fun M1 => some (.inl 0, M1)) else none
set_option maxRecDepth 100000 in
def fX7_inBasin_s0 (a0 : Int32) (rec : Int32 → Int32 → Int32 → ml_M → Option ml_R) (x1 x2 x3 : Int32) (M : ml_M) : Option ml_R :=
  (if (M 12 6) ≤ x3 then some (.inl x2, M) else ml_bd (fX7_b x3 3 M) (fun r1 M2 => ml_jn (fun (y3 : Int32) => rec x1 (x2 + y3) (x3 + 1) M2) (fun B4 => (if r1 = x1 then B4 1 else B4 0))))
def fX7_inBasin_l (a0 : Int32) : Nat → Int32 → Int32 → Int32 → ml_M → Option ml_R
  | 0 => fun _ _ _ _ => none
  | n + 1 => fX7_inBasin_s0 a0 (fX7_inBasin_l a0 n)
set_option maxRecDepth 100000 in
def fX7_inBasin (a0 : Int32) (M : ml_M) : Option ml_R :=
  fX7_inBasin_l a0 ml_fuel a0 0 0 M
set_option maxRecDepth 100000 in
def fX7_isDeep (a0 : Int32) (a1 : Int32) (M : ml_M) : Option ml_R :=
  if ml_ok (11 + a0) 960 then ml_bd (fX7_size a0 M) (fun r1 M2 => ml_jn (fun (y3 : Int32) => if narrow .boolean (.int y3) = .int y3 then some (.inl y3, M2) else none) (fun B4 => (if (M 12 (11 + a0).toNatClampNeg) < (a1 * r1) then B4 0 else B4 1))) else none
set_option maxRecDepth 100000 in
def fX7_leaves_s0 (a0 : Int32) (rec : Nat → Int32 → Int32 → Int32 → ml_M → Option ml_R) (x1 x2 x3 : Int32) (M : ml_M) : Option ml_R :=
  (if (5 * x2) ≤ x3 then rec 1 x1 x2 0 M else if ml_ok ((40 + x3) + 5) 960 then if ml_ok (40 + x3) 960 then ml_lt (ml_w M 12 (40 + x3).toNatClampNeg (M 12 ((40 + x3) + 5).toNatClampNeg)) (fun M1 => rec 0 x1 x2 (x3 + 1) M1) else none else none)
set_option maxRecDepth 100000 in
def fX7_leaves_s1 (a0 : Int32) (rec : Nat → Int32 → Int32 → Int32 → ml_M → Option ml_R) (x1 x2 x3 : Int32) (M : ml_M) : Option ml_R :=
  (if 5 ≤ x3 then ml_lt (ml_w M 12 6 x2) (fun M1 => some (.inl 0, M1)) else ml_bd (fX7_set x2 x3 0 M) (fun r2 M3 => rec 1 x1 x2 (x3 + 1) M3))
def fX7_leaves_l (a0 : Int32) : Nat → Nat → Int32 → Int32 → Int32 → ml_M → Option ml_R
  | 0, _ => fun _ _ _ _ => none
  | n + 1, 0 => fX7_leaves_s0 a0 (fX7_leaves_l a0 n)
  | n + 1, _ => fX7_leaves_s1 a0 (fX7_leaves_l a0 n)
set_option maxRecDepth 100000 in
def fX7_leaves (a0 : Int32) (M : ml_M) : Option ml_R :=
  fX7_leaves_l a0 ml_fuel 0 a0 ((M 12 6) - 1) (5 * a0) M
set_option maxRecDepth 100000 in
def fX7_passes (a0 : Int32) (M : ml_M) : Option ml_R :=
  ml_bd (fX7_b a0 3 M) (fun r1 M2 => ml_bd (fX7_b a0 2 M2) (fun r3 M4 => ml_jn (fun (y5 : Int32) => ml_bd (fX7_b a0 2 M4) (fun r8 M9 => ml_jn (fun (y10 : Int32) => ml_jn (fun (y13 : Int32) => if ml_ok (20 + y10) 960 then (if (M9 12 (20 + y10).toNatClampNeg) = 0 then some (.inl 0, M9) else (if (((M9 11 5) >>> (y10 &&& 31)) &&& 1) = 1 then some (.inl 0, M9) else ml_jn (fun (M16 : ml_M) => ml_bd (fX7_b a0 1 M16) (fun r19 M20 => ml_bd (fX7_isDeep y5 r19 M20) (fun r21 M22 => (if r21 = 0 then some (.inl 0, M22) else ml_lt (ml_w M22 11 5 ((M22 11 5) ||| (1 <<< (y10 &&& 31)))) (fun M23 => (if y13 = 0 then ml_bd (fX7_set a0 3 y5 M23) (fun r33 M34 => ml_bd (fX7_happens 112 y10 M34) (fun r35 M36 => some (.inl 0, M36))) else ml_bd (fX7_b a0 0 M23) (fun r24 M25 => if ml_ok (8 + r24) 960 then if ml_ok (8 + r24) 960 then ml_lt (ml_w M25 12 (8 + r24).toNatClampNeg ((M25 12 (8 + r24).toNatClampNeg) + 1)) (fun M26 => ml_bd (fX7_b a0 1 M26) (fun r27 M28 => ml_bd (fX7_happens 108 r27 M28) (fun r29 M30 => ml_bd (fX7_leaves a0 M30) (fun r31 M32 => some (.inl 1, M32))))) else none else none))))))) (fun B17 => (if y13 = 0 then ml_bd (fX7_inBasin y5 M9) (fun r37 M38 => (if 1 < r37 then some (.inl 0, M38) else B17 M38)) else B17 M9)))) else none) (fun B14 => (if y5 = 0 then B14 1 else (if y5 = 4 then B14 1 else B14 0)))) (fun B11 => (if r8 = 1 then B11 r1 else B11 y5)))) (fun B6 => (if r3 = 1 then B6 (r1 + 1) else B6 (r1 - 1)))))
set_option maxRecDepth 100000 in
def fX7_ticks_s0 (rec : Nat → Int32 → Int32 → Int32 → ml_M → Option ml_R) (x1 x2 x3 : Int32) (M : ml_M) : Option ml_R :=
  (if 4 ≤ x2 then ml_lt (ml_w M 11 5 0) (fun M1 => rec 1 x1 0 0 M1) else ml_bd (fX7_flows x2 M) (fun r2 M3 => if ml_ok (11 + x2) 960 then if ml_ok (11 + x2) 960 then ml_lt (ml_w M3 12 (11 + x2).toNatClampNeg ((M3 12 (11 + x2).toNatClampNeg) - r2)) (fun M4 => if ml_ok ((11 + x2) + 1) 960 then if ml_ok ((11 + x2) + 1) 960 then ml_lt (ml_w M4 12 ((11 + x2) + 1).toNatClampNeg ((M4 12 ((11 + x2) + 1).toNatClampNeg) + r2)) (fun M5 => rec 0 x1 (x2 + 1) 0 M5) else none else none) else none else none))
set_option maxRecDepth 100000 in
def fX7_ticks_s1 (rec : Nat → Int32 → Int32 → Int32 → ml_M → Option ml_R) (x1 x2 x3 : Int32) (M : ml_M) : Option ml_R :=
  (if 3 ≤ x2 then some (.inl x1, M) else rec 2 x1 x2 0 M)
set_option maxRecDepth 100000 in
def fX7_ticks_s2 (rec : Nat → Int32 → Int32 → Int32 → ml_M → Option ml_R) (x1 x2 x3 : Int32) (M : ml_M) : Option ml_R :=
  (if (M 12 6) ≤ x3 then rec 1 x1 (x2 + 1) 0 M else ml_bd (fX7_b x3 0 M) (fun r1 M2 => ml_jn (fun (y3 : Int32) (y4 : Int32) (M5 : ml_M) => rec 2 y3 x2 (y4 + 1) M5) (fun B6 => (if r1 = x2 then ml_bd (fX7_passes x3 M2) (fun r8 M9 => ml_jn (fun (y10 : Int32) => ml_jn (fun (y13 : Int32) => B6 (x1 + y10) (x3 - y13) M9) (fun B14 => (if r8 = 0 then B14 0 else B14 1))) (fun B11 => (if r8 = 0 then B11 0 else B11 1))) else B6 x1 x3 M2))))
def fX7_ticks_l : Nat → Nat → Int32 → Int32 → Int32 → ml_M → Option ml_R
  | 0, _ => fun _ _ _ _ => none
  | n + 1, 0 => fX7_ticks_s0 (fX7_ticks_l n)
  | n + 1, 1 => fX7_ticks_s1 (fX7_ticks_l n)
  | n + 1, _ => fX7_ticks_s2 (fX7_ticks_l n)
set_option maxRecDepth 100000 in
def fX7_ticks (M : ml_M) : Option ml_R :=
  ml_lt (ml_w M 12 0 ((M 12 0) + 1)) (fun M1 => ml_bd (fX7_rains M1) (fun r2 M3 => fX7_ticks_l ml_fuel 0 0 0 0 M3))
set_option maxRecDepth 100000 in
def fX7_colourOf (a0 : Int32) (M : ml_M) : Option ml_R :=
  ml_jn (fun (y1 : Int32) => some (.inl y1, M)) (fun B2 => (if a0 = 114 then B2 0 else (if a0 = 103 then B2 1 else (if a0 = 98 then B2 2 else B2 (-1)))))
set_option maxRecDepth 100000 in
def fX7_adds (a0 : Int32) (a1 : Int32) (a2 : Int32) (M : ml_M) : Option ml_R :=
  (if a0 < 0 then some (.inl 2, M) else ml_bd (fX7_in a1 1 9 M) (fun r1 M2 => (if r1 = 0 then some (.inl 2, M2) else (if (M2 12 6) = 8 then some (.inl 3, M2) else ml_lt (ml_w M2 12 6 ((M2 12 6) + 1)) (fun M3 => ml_bd (fX7_set (M2 12 6) 0 a0 M3) (fun r4 M5 => ml_bd (fX7_set (M2 12 6) 1 a1 M5) (fun r6 M7 => ml_bd (fX7_set (M2 12 6) 2 a2 M7) (fun r8 M9 => ml_jn (fun (y10 : Int32) => ml_bd (fX7_set (M2 12 6) 3 y10 M9) (fun r13 M14 => ml_bd (fX7_set (M2 12 6) 4 0 M14) (fun r15 M16 => ml_lt (ml_w M16 11 4 (M2 12 6)) (fun M17 => some (.inl 0, M17))))) (fun B11 => (if a2 = 1 then B11 0 else B11 4))))))))))
set_option maxRecDepth 100000 in
def fX7_addBoat (a0 : Int32) (a1 : Int32) (a2 : Int32) (M : ml_M) : Option ml_R :=
  ml_bd (fX7_begins M) (fun r1 M2 => ml_bd (fX7_colourOf a0 M2) (fun r3 M4 => ml_jn (fun (y5 : Int32) => ml_bd (fX7_adds r3 a1 y5 M4) (fun r8 M9 => ml_bd (fX7_ends r8 0 1 2 0 M9) (fun r10 M11 => some (.inl r10, M11)))) (fun B6 => (if a2 = 0 then B6 0 else B6 1))))
set_option maxRecDepth 100000 in
def fX7_turns (a0 : Int32) (a1 : Int32) (M : ml_M) : Option ml_R :=
  ml_bd (fX7_isGate a0 M) (fun r1 M2 => (if r1 = 0 then some (.inl 1, M2) else ml_bd (fX7_in a1 0 3 M2) (fun r3 M4 => (if r3 = 0 then some (.inl 2, M4) else if ml_ok (16 + a0) 960 then ml_lt (ml_w M4 11 4 (M4 12 (16 + a0).toNatClampNeg)) (fun M5 => if ml_ok (16 + a0) 960 then ml_lt (ml_w M5 12 (16 + a0).toNatClampNeg a1) (fun M6 => some (.inl 0, M6)) else none) else none))))
set_option maxRecDepth 100000 in
def fX7_setValve (a0 : Int32) (a1 : Int32) (M : ml_M) : Option ml_R :=
  ml_bd (fX7_begins M) (fun r1 M2 => ml_bd (fX7_turns a0 a1 M2) (fun r3 M4 => ml_bd (fX7_ends r3 1 2 0 0 M4) (fun r5 M6 => some (.inl r5, M6))))
set_option maxRecDepth 100000 in
def fX7_openGates (M : ml_M) : Option ml_R :=
  some (.inl ((((M 12 20) + (M 12 21)) + (M 12 22)) + (M 12 23)), M)
set_option maxRecDepth 100000 in
def fX7_opens (a0 : Int32) (M : ml_M) : Option ml_R :=
  ml_bd (fX7_isGate a0 M) (fun r1 M2 => (if r1 = 0 then some (.inl 1, M2) else if ml_ok (20 + a0) 960 then (if (M2 12 (20 + a0).toNatClampNeg) = 1 then some (.inl 3, M2) else ml_bd (fX7_equal a0 M2) (fun r3 M4 => (if r3 = 0 then if ml_ok (20 + a0) 960 then ml_lt (ml_w M4 12 (20 + a0).toNatClampNeg 1) (fun M5 => ml_bd (fX7_openGates M5) (fun r6 M7 => ml_lt (ml_w M7 11 4 r6) (fun M8 => some (.inl 0, M8)))) else none else some (.inl 4, M4)))) else none))
set_option maxRecDepth 100000 in
def fX7_openGate (a0 : Int32) (M : ml_M) : Option ml_R :=
  ml_bd (fX7_begins M) (fun r1 M2 => ml_bd (fX7_opens a0 M2) (fun r3 M4 => ml_bd (fX7_ends r3 1 0 2 3 M4) (fun r5 M6 => some (.inl r5, M6))))
set_option maxRecDepth 100000 in
def fX7_shuts (a0 : Int32) (M : ml_M) : Option ml_R :=
  ml_bd (fX7_isGate a0 M) (fun r1 M2 => (if r1 = 0 then some (.inl 1, M2) else if ml_ok (20 + a0) 960 then (if (M2 12 (20 + a0).toNatClampNeg) = 0 then some (.inl 3, M2) else if ml_ok (20 + a0) 960 then ml_lt (ml_w M2 12 (20 + a0).toNatClampNeg 0) (fun M3 => ml_bd (fX7_openGates M3) (fun r4 M5 => ml_lt (ml_w M5 11 4 r4) (fun M6 => some (.inl 0, M6)))) else none) else none))
set_option maxRecDepth 100000 in
def fX7_shutGate (a0 : Int32) (M : ml_M) : Option ml_R :=
  ml_bd (fX7_begins M) (fun r1 M2 => ml_bd (fX7_shuts a0 M2) (fun r3 M4 => ml_bd (fX7_ends r3 1 0 2 0 M4) (fun r5 M6 => some (.inl r5, M6))))
set_option maxRecDepth 100000 in
def fX7_weather (a0 : Int32) (a1 : Int32) (M : ml_M) : Option ml_R :=
  ml_bd (fX7_in a1 0 9 M) (fun r1 M2 => (if r1 = 0 then some (.inl 2, M2) else if ml_ok a0 960 then ml_lt (ml_w M2 11 4 (M2 12 a0.toNatClampNeg)) (fun M3 => if ml_ok a0 960 then ml_lt (ml_w M3 12 a0.toNatClampNeg a1) (fun M4 => some (.inl 0, M4)) else none) else none))
set_option maxRecDepth 100000 in
def fX7_setRain (a0 : Int32) (M : ml_M) : Option ml_R :=
  ml_bd (fX7_begins M) (fun r1 M2 => ml_bd (fX7_weather 1 a0 M2) (fun r3 M4 => ml_bd (fX7_ends r3 0 1 0 0 M4) (fun r5 M6 => some (.inl r5, M6))))
set_option maxRecDepth 100000 in
def fX7_setDrain (a0 : Int32) (M : ml_M) : Option ml_R :=
  ml_bd (fX7_begins M) (fun r1 M2 => ml_bd (fX7_weather 2 a0 M2) (fun r3 M4 => ml_bd (fX7_ends r3 0 1 0 0 M4) (fun r5 M6 => some (.inl r5, M6))))
set_option maxRecDepth 100000 in
def fX7_waits_s0 (a0 : Int32) (rec : Int32 → Int32 → ml_M → Option ml_R) (x1 x2 : Int32) (M : ml_M) : Option ml_R :=
  (if x1 ≤ x2 then some (.inl 0, M) else ml_bd (fX7_ticks M) (fun r1 M2 => ml_lt (ml_w M2 11 4 ((M 11 4) + r1)) (fun M3 => rec x1 (x2 + 1) M3)))
def fX7_waits_l (a0 : Int32) : Nat → Int32 → Int32 → ml_M → Option ml_R
  | 0 => fun _ _ _ => none
  | n + 1 => fX7_waits_s0 a0 (fX7_waits_l a0 n)
set_option maxRecDepth 100000 in
def fX7_waits (a0 : Int32) (M : ml_M) : Option ml_R :=
  ml_bd (fX7_in a0 1 200 M) (fun r1 M2 => (if r1 = 0 then some (.inl 2, M2) else ml_lt (ml_w M2 11 4 0) (fun M3 => fX7_waits_l a0 ml_fuel a0 0 M3)))
set_option maxRecDepth 100000 in
def fX7_advance (a0 : Int32) (M : ml_M) : Option ml_R :=
  ml_bd (fX7_begins M) (fun r1 M2 => ml_bd (fX7_waits a0 M2) (fun r3 M4 => ml_bd (fX7_ends r3 0 1 0 0 M4) (fun r5 M6 => some (.inl r5, M6))))
