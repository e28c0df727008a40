/-! THE WRAPPERS of the law, its helpers -/
theorem wcX6_addBoat : ml_wc yX6_addBoat cX6_addBoat 4 (some .int) := ⟨ml_tb 1143 (by decide +kernel) rfl, ml_tb 1 (by decide +kernel) rfl, by decide⟩
theorem wdX6_addBoat : ml_wd yX6_addBoat 3 := ⟨by decide +kernel, by decide +kernel, by decide +kernel⟩
theorem imX6_addBoat : Cond.instanceMethod yX6_addBoat ∈ ml_all := ml_tb 1141 (by decide +kernel) rfl
theorem seX6_addBoat : Cond.selects yX6_addBoat.cls yX6_addBoat yX6_addBoat ∈ ml_all := ml_tb 1142 (by decide +kernel) rfl
theorem mlL_13 : Cond.methodLink RL 13 yX6_addBoat ∈ ml_all := ml_tb 1140 (by decide +kernel) rfl
theorem wcX6_setValve : ml_wc yX6_setValve cX6_setValve 3 (some .int) := ⟨ml_tb 1033 (by decide +kernel) rfl, ml_tb 1 (by decide +kernel) rfl, by decide⟩
theorem wdX6_setValve : ml_wd yX6_setValve 2 := ⟨by decide +kernel, by decide +kernel, by decide +kernel⟩
theorem imX6_setValve : Cond.instanceMethod yX6_setValve ∈ ml_all := ml_tb 1031 (by decide +kernel) rfl
theorem seX6_setValve : Cond.selects yX6_setValve.cls yX6_setValve yX6_setValve ∈ ml_all := ml_tb 1032 (by decide +kernel) rfl
theorem mlL_23 : Cond.methodLink RL 23 yX6_setValve ∈ ml_all := ml_tb 1030 (by decide +kernel) rfl
theorem wcX6_openGate : ml_wc yX6_openGate cX6_openGate 2 (some .int) := ⟨ml_tb 1154 (by decide +kernel) rfl, ml_tb 1 (by decide +kernel) rfl, by decide⟩
theorem wdX6_openGate : ml_wd yX6_openGate 1 := ⟨by decide +kernel, by decide +kernel, by decide +kernel⟩
theorem imX6_openGate : Cond.instanceMethod yX6_openGate ∈ ml_all := ml_tb 1152 (by decide +kernel) rfl
theorem seX6_openGate : Cond.selects yX6_openGate.cls yX6_openGate yX6_openGate ∈ ml_all := ml_tb 1153 (by decide +kernel) rfl
theorem mlL_29 : Cond.methodLink RL 29 yX6_openGate ∈ ml_all := ml_tb 1151 (by decide +kernel) rfl
theorem wcX6_shutGate : ml_wc yX6_shutGate cX6_shutGate 2 (some .int) := ⟨ml_tb 1161 (by decide +kernel) rfl, ml_tb 1 (by decide +kernel) rfl, by decide⟩
theorem wdX6_shutGate : ml_wd yX6_shutGate 1 := ⟨by decide +kernel, by decide +kernel, by decide +kernel⟩
theorem imX6_shutGate : Cond.instanceMethod yX6_shutGate ∈ ml_all := ml_tb 1159 (by decide +kernel) rfl
theorem seX6_shutGate : Cond.selects yX6_shutGate.cls yX6_shutGate yX6_shutGate ∈ ml_all := ml_tb 1160 (by decide +kernel) rfl
theorem mlL_35 : Cond.methodLink RL 35 yX6_shutGate ∈ ml_all := ml_tb 1158 (by decide +kernel) rfl
theorem wcX6_setRain : ml_wc yX6_setRain cX6_setRain 2 (some .int) := ⟨ml_tb 1168 (by decide +kernel) rfl, ml_tb 1 (by decide +kernel) rfl, by decide⟩
theorem wdX6_setRain : ml_wd yX6_setRain 1 := ⟨by decide +kernel, by decide +kernel, by decide +kernel⟩
theorem imX6_setRain : Cond.instanceMethod yX6_setRain ∈ ml_all := ml_tb 1166 (by decide +kernel) rfl
theorem seX6_setRain : Cond.selects yX6_setRain.cls yX6_setRain yX6_setRain ∈ ml_all := ml_tb 1167 (by decide +kernel) rfl
theorem mlL_38 : Cond.methodLink RL 38 yX6_setRain ∈ ml_all := ml_tb 1165 (by decide +kernel) rfl
theorem wcX6_setDrain : ml_wc yX6_setDrain cX6_setDrain 2 (some .int) := ⟨ml_tb 1175 (by decide +kernel) rfl, ml_tb 1 (by decide +kernel) rfl, by decide⟩
theorem wdX6_setDrain : ml_wd yX6_setDrain 1 := ⟨by decide +kernel, by decide +kernel, by decide +kernel⟩
theorem imX6_setDrain : Cond.instanceMethod yX6_setDrain ∈ ml_all := ml_tb 1173 (by decide +kernel) rfl
theorem seX6_setDrain : Cond.selects yX6_setDrain.cls yX6_setDrain yX6_setDrain ∈ ml_all := ml_tb 1174 (by decide +kernel) rfl
theorem mlL_41 : Cond.methodLink RL 41 yX6_setDrain ∈ ml_all := ml_tb 1172 (by decide +kernel) rfl
theorem wcX6_advance : ml_wc yX6_advance cX6_advance 2 (some .int) := ⟨ml_tb 1182 (by decide +kernel) rfl, ml_tb 1 (by decide +kernel) rfl, by decide⟩
theorem wdX6_advance : ml_wd yX6_advance 1 := ⟨by decide +kernel, by decide +kernel, by decide +kernel⟩
theorem imX6_advance : Cond.instanceMethod yX6_advance ∈ ml_all := ml_tb 1180 (by decide +kernel) rfl
theorem seX6_advance : Cond.selects yX6_advance.cls yX6_advance yX6_advance ∈ ml_all := ml_tb 1181 (by decide +kernel) rfl
theorem mlL_44 : Cond.methodLink RL 44 yX6_advance ∈ ml_all := ml_tb 1179 (by decide +kernel) rfl
theorem wcX6_basinByLevel : ml_wc yX6_basinByLevel cX6_basinByLevel 3 (some .int) := ⟨ml_tb 470 (by decide +kernel) rfl, ml_tb 1 (by decide +kernel) rfl, by decide⟩
theorem wdX6_basinByLevel : ml_wd yX6_basinByLevel 1 := ⟨by decide +kernel, by decide +kernel, by decide +kernel⟩
theorem imX6_basinByLevel : Cond.instanceMethod yX6_basinByLevel ∈ ml_all := ml_tb 468 (by decide +kernel) rfl
theorem seX6_basinByLevel : Cond.selects yX6_basinByLevel.cls yX6_basinByLevel yX6_basinByLevel ∈ ml_all := ml_tb 469 (by decide +kernel) rfl
theorem mlL_47 : Cond.methodLink RL 47 yX6_basinByLevel ∈ ml_all := ml_tb 467 (by decide +kernel) rfl
theorem wcX6_boatInOrder : ml_wc yX6_boatInOrder cX6_boatInOrder 3 (some .int) := ⟨ml_tb 533 (by decide +kernel) rfl, ml_tb 1 (by decide +kernel) rfl, by decide⟩
theorem wdX6_boatInOrder : ml_wd yX6_boatInOrder 1 := ⟨by decide +kernel, by decide +kernel, by decide +kernel⟩
theorem imX6_boatInOrder : Cond.instanceMethod yX6_boatInOrder ∈ ml_all := ml_tb 531 (by decide +kernel) rfl
theorem seX6_boatInOrder : Cond.selects yX6_boatInOrder.cls yX6_boatInOrder yX6_boatInOrder ∈ ml_all := ml_tb 532 (by decide +kernel) rfl
theorem mlL_52 : Cond.methodLink RL 52 yX6_boatInOrder ∈ ml_all := ml_tb 530 (by decide +kernel) rfl
theorem wcX6_minutesUntilEqual : ml_wc yX6_minutesUntilEqual cX6_minutesUntilEqual 3 (some .int) := ⟨ml_tb 905 (by decide +kernel) rfl, ml_tb 1 (by decide +kernel) rfl, by decide⟩
theorem wdX6_minutesUntilEqual : ml_wd yX6_minutesUntilEqual 1 := ⟨by decide +kernel, by decide +kernel, by decide +kernel⟩
theorem imX6_minutesUntilEqual : Cond.instanceMethod yX6_minutesUntilEqual ∈ ml_all := ml_tb 903 (by decide +kernel) rfl
theorem seX6_minutesUntilEqual : Cond.selects yX6_minutesUntilEqual.cls yX6_minutesUntilEqual yX6_minutesUntilEqual ∈ ml_all := ml_tb 904 (by decide +kernel) rfl
theorem mlL_55 : Cond.methodLink RL 55 yX6_minutesUntilEqual ∈ ml_all := ml_tb 902 (by decide +kernel) rfl
theorem wcX6_eventKind : ml_wc yX6_eventKind cX6_eventKind 2 (some .char) := ⟨ml_tb 994 (by decide +kernel) rfl, ml_tb 1 (by decide +kernel) rfl, by decide⟩
theorem wdX6_eventKind : ml_wd yX6_eventKind 1 := ⟨by decide +kernel, by decide +kernel, by decide +kernel⟩
theorem imX6_eventKind : Cond.instanceMethod yX6_eventKind ∈ ml_all := ml_tb 992 (by decide +kernel) rfl
theorem seX6_eventKind : Cond.selects yX6_eventKind.cls yX6_eventKind yX6_eventKind ∈ ml_all := ml_tb 993 (by decide +kernel) rfl
theorem mlL_58 : Cond.methodLink RL 58 yX6_eventKind ∈ ml_all := ml_tb 991 (by decide +kernel) rfl
theorem wcX6_eventNumber : ml_wc yX6_eventNumber cX6_eventNumber 2 (some .int) := ⟨ml_tb 1013 (by decide +kernel) rfl, ml_tb 1 (by decide +kernel) rfl, by decide⟩
theorem wdX6_eventNumber : ml_wd yX6_eventNumber 1 := ⟨by decide +kernel, by decide +kernel, by decide +kernel⟩
theorem imX6_eventNumber : Cond.instanceMethod yX6_eventNumber ∈ ml_all := ml_tb 1011 (by decide +kernel) rfl
theorem seX6_eventNumber : Cond.selects yX6_eventNumber.cls yX6_eventNumber yX6_eventNumber ∈ ml_all := ml_tb 1012 (by decide +kernel) rfl
theorem mlL_62 : Cond.methodLink RL 62 yX6_eventNumber ∈ ml_all := ml_tb 1010 (by decide +kernel) rfl
theorem wcL_cell : ml_wc yL_cell cL_cell 2 (some .int) := ⟨ml_tb 1025 (by decide +kernel) rfl, ml_tb 0 (by decide +kernel) rfl, by decide⟩
theorem wdL_cell : ml_wd yL_cell 2 := ⟨by decide +kernel, by decide +kernel, by decide +kernel⟩
theorem stL_cell : Cond.static yL_cell ∈ ml_all := ml_tb 1024 (by decide +kernel) rfl
theorem mlL_7 : Cond.methodLink RL 7 yL_cell ∈ ml_all := ml_tb 1023 (by decide +kernel) rfl
theorem mlL_97 : Cond.methodLink RL 97 Lib.Math.abs.name ∈ ml_all := ml_tb 1186 (by decide +kernel) rfl
theorem wcL_some : ml_wc yL_some cL_some 3 (some .int) := ⟨ml_tb 1022 (by decide +kernel) rfl, ml_tb 0 (by decide +kernel) rfl, by decide⟩
theorem wdL_some : ml_wd yL_some 3 := ⟨by decide +kernel, by decide +kernel, by decide +kernel⟩
theorem stL_some : Cond.static yL_some ∈ ml_all := ml_tb 1021 (by decide +kernel) rfl
theorem mlL_65 : Cond.methodLink RL 65 yL_some ∈ ml_all := ml_tb 1020 (by decide +kernel) rfl
theorem wcX6_boatCount : ml_wc yX6_boatCount cX6_boatCount 1 (some .int) := ⟨ml_tb 494 (by decide +kernel) rfl, ml_tb 1 (by decide +kernel) rfl, by decide⟩
theorem wdX6_boatCount : ml_wd yX6_boatCount 0 := ⟨by decide +kernel, by decide +kernel, by decide +kernel⟩
theorem imX6_boatCount : Cond.instanceMethod yX6_boatCount ∈ ml_all := ml_tb 492 (by decide +kernel) rfl
theorem mlL_82 : Cond.methodLink RL 82 yX6_boatCount ∈ ml_all := ml_tb 491 (by decide +kernel) rfl
theorem seX6_boatCount : Cond.selects yX6_boatCount.cls yX6_boatCount yX6_boatCount ∈ ml_all := ml_tb 493 (by decide +kernel) rfl
theorem wcL_sign : ml_wc yL_sign cL_sign 1 (some .char) := ⟨ml_tb 1016 (by decide +kernel) rfl, ml_tb 0 (by decide +kernel) rfl, by decide⟩
theorem wdL_sign : ml_wd yL_sign 1 := ⟨by decide +kernel, by decide +kernel, by decide +kernel⟩
theorem stL_sign : Cond.static yL_sign ∈ ml_all := ml_tb 1015 (by decide +kernel) rfl
theorem mlL_72 : Cond.methodLink RL 72 yL_sign ∈ ml_all := ml_tb 1014 (by decide +kernel) rfl
theorem wdL_addBoat : ml_wd yL_addBoat 4 := ⟨by decide +kernel, by decide +kernel, by decide +kernel⟩
theorem stL_addBoat : Cond.static yL_addBoat ∈ ml_all := ml_tb 1137 (by decide +kernel) rfl
theorem wcL_addBoat : ml_wcW yL_addBoat cL_addBoat 5 (some .int) [(0, 7, 8, 19), (0, 7, 14, 21)] := ⟨ml_tb 1138 (by decide +kernel) rfl, ml_tb 0 (by decide +kernel) rfl, by decide⟩
theorem mlL_75 : Cond.methodLink RL 75 yL_addBoat ∈ ml_all := ml_tb 1136 (by decide +kernel) rfl
theorem wdL_setValve : ml_wd yL_setValve 3 := ⟨by decide +kernel, by decide +kernel, by decide +kernel⟩
theorem stL_setValve : Cond.static yL_setValve ∈ ml_all := ml_tb 1027 (by decide +kernel) rfl
theorem wcL_setValve : ml_wcW yL_setValve cL_setValve 4 (some .int) [(0, 6, 7, 27), (0, 6, 12, 19)] := ⟨ml_tb 1028 (by decide +kernel) rfl, ml_tb 0 (by decide +kernel) rfl, by decide⟩
theorem mlL_69 : Cond.methodLink RL 69 yL_setValve ∈ ml_all := ml_tb 1026 (by decide +kernel) rfl
theorem wdL_openGate : ml_wd yL_openGate 2 := ⟨by decide +kernel, by decide +kernel, by decide +kernel⟩
theorem stL_openGate : Cond.static yL_openGate ∈ ml_all := ml_tb 1148 (by decide +kernel) rfl
theorem wcL_openGate : ml_wcW yL_openGate cL_openGate 3 (some .int) [(0, 5, 6, 27), (0, 5, 11, 21), (0, 5, 16, 33)] := ⟨ml_tb 1149 (by decide +kernel) rfl, ml_tb 0 (by decide +kernel) rfl, by decide⟩
theorem mlL_86 : Cond.methodLink RL 86 yL_openGate ∈ ml_all := ml_tb 1147 (by decide +kernel) rfl
theorem wdL_shutGate : ml_wd yL_shutGate 2 := ⟨by decide +kernel, by decide +kernel, by decide +kernel⟩
theorem stL_shutGate : Cond.static yL_shutGate ∈ ml_all := ml_tb 1156 (by decide +kernel) rfl
theorem wcL_shutGate : ml_wcW yL_shutGate cL_shutGate 3 (some .int) [(0, 5, 6, 27), (0, 5, 11, 21)] := ⟨ml_tb 1157 (by decide +kernel) rfl, ml_tb 0 (by decide +kernel) rfl, by decide⟩
theorem mlL_89 : Cond.methodLink RL 89 yL_shutGate ∈ ml_all := ml_tb 1155 (by decide +kernel) rfl
theorem wdL_setDrain : ml_wd yL_setDrain 2 := ⟨by decide +kernel, by decide +kernel, by decide +kernel⟩
theorem stL_setDrain : Cond.static yL_setDrain ∈ ml_all := ml_tb 1170 (by decide +kernel) rfl
theorem wcL_setDrain : ml_wcW yL_setDrain cL_setDrain 3 (some .int) [(0, 5, 6, 19)] := ⟨ml_tb 1171 (by decide +kernel) rfl, ml_tb 0 (by decide +kernel) rfl, by decide⟩
theorem mlL_93 : Cond.methodLink RL 93 yL_setDrain ∈ ml_all := ml_tb 1169 (by decide +kernel) rfl
theorem wdL_setRain : ml_wd yL_setRain 2 := ⟨by decide +kernel, by decide +kernel, by decide +kernel⟩
theorem stL_setRain : Cond.static yL_setRain ∈ ml_all := ml_tb 1163 (by decide +kernel) rfl
theorem wcL_setRain : ml_wcW yL_setRain cL_setRain 3 (some .int) [(0, 5, 6, 19)] := ⟨ml_tb 1164 (by decide +kernel) rfl, ml_tb 0 (by decide +kernel) rfl, by decide⟩
theorem mlL_91 : Cond.methodLink RL 91 yL_setRain ∈ ml_all := ml_tb 1162 (by decide +kernel) rfl
theorem wdL_advance : ml_wd yL_advance 2 := ⟨by decide +kernel, by decide +kernel, by decide +kernel⟩
theorem stL_advance : Cond.static yL_advance ∈ ml_all := ml_tb 1177 (by decide +kernel) rfl
theorem wcL_advance : ml_wcW yL_advance cL_advance 3 (some .int) [(0, 5, 6, 19)] := ⟨ml_tb 1178 (by decide +kernel) rfl, ml_tb 0 (by decide +kernel) rfl, by decide⟩
theorem mlL_95 : Cond.methodLink RL 95 yL_advance ∈ ml_all := ml_tb 1176 (by decide +kernel) rfl
theorem wcL_acts : ml_wc yL_acts cL_acts 6 none := ⟨ml_tb 1146 (by decide +kernel) rfl, ml_tb 0 (by decide +kernel) rfl, by decide⟩
theorem wdL_acts : ml_wd yL_acts 3 := ⟨by decide +kernel, by decide +kernel, by decide +kernel⟩
theorem stL_acts : Cond.static yL_acts ∈ ml_all := ml_tb 1145 (by decide +kernel) rfl
theorem mlL_78 : Cond.methodLink RL 78 yL_acts ∈ ml_all := ml_tb 1144 (by decide +kernel) rfl
theorem mlL_102 : Cond.methodLink RL 102 yJ0_length_8abf5 ∈ ml_all := ml_tb 1190 (by decide +kernel) rfl
theorem wcX6_outputAt : ml_wc yX6_outputAt cX6_outputAt 2 (some .char) := ⟨ml_tb 1194 (by decide +kernel) rfl, ml_tb 1 (by decide +kernel) rfl, by decide⟩
theorem wdX6_outputAt : ml_wd yX6_outputAt 1 := ⟨by decide +kernel, by decide +kernel, by decide +kernel⟩
theorem imX6_outputAt : Cond.instanceMethod yX6_outputAt ∈ ml_all := ml_tb 1192 (by decide +kernel) rfl
theorem mlL_107 : Cond.methodLink RL 107 yX6_outputAt ∈ ml_all := ml_tb 1191 (by decide +kernel) rfl
theorem seX6_outputAt : Cond.selects yX6_outputAt.cls yX6_outputAt yX6_outputAt ∈ ml_all := ml_tb 1193 (by decide +kernel) rfl
theorem wcJ0_charAt_5068e : ml_wc yJ0_charAt_5068e cJ0_charAt_5068e 2 (some .char) := ⟨ml_tb 1209 (by decide +kernel) rfl, ml_tb 10 (by decide +kernel) rfl, by decide⟩
theorem wdJ0_charAt_5068e : ml_wd yJ0_charAt_5068e 1 := ⟨by decide +kernel, by decide +kernel, by decide +kernel⟩
theorem imJ0_charAt_5068e : Cond.instanceMethod yJ0_charAt_5068e ∈ ml_all := ml_tb 1207 (by decide +kernel) rfl
theorem mlL_110 : Cond.methodLink RL 110 yJ0_charAt_5068e ∈ ml_all := ml_tb 1206 (by decide +kernel) rfl
theorem seJ0_charAt_5068e : Cond.selects yJ0_charAt_5068e.cls yJ0_charAt_5068e yJ0_charAt_5068e ∈ ml_all := ml_tb 1208 (by decide +kernel) rfl
/-- a wrapper: what the class answers, or its throw as a number -/
def lw_wr (cat : Nat → Int32) (x : Option ml_R) : Option ml_R := match x with
  | none => none
  | some (.inl r, M) => some (.inl r, M)
  | some (.inr e, M) => if cat e = 0 then none else some (.inl (cat e), M)
theorem lw_wr_k {cat : Nat → Int32} {x : Option ml_R} {res : ml_R} (h : lw_wr cat x = some res) : ∃ rs, x = some rs ∧ (∀ r9, rs.1 = .inl r9 → ((Sum.inl r9, rs.2) : ml_R) = res) ∧ ∀ e9, rs.1 = .inr e9 → cat e9 ≠ 0 ∧ ((Sum.inl (cat e9), rs.2) : ml_R) = res := by
  match x, h with
  | some (.inl r, M1), h => exact ⟨_, rfl, fun r9 h9 => (by cases h9; exact Option.some.inj h), fun e9 h9 => (by cases h9)⟩
  | some (.inr e, M1), h =>
    have h : (if cat e = 0 then none else some ((Sum.inl (cat e), M1) : ml_R)) = some res := h
    by_cases hc : cat e = 0
    · rw [if_pos hc] at h; cases h
    · rw [if_neg hc] at h
      exact ⟨_, rfl, fun r9 h9 => (by cases h9), fun e9 h9 => (by cases h9; exact ⟨hc, Option.some.inj h⟩)⟩
def fL_addBoat (a1 : Int32) (a2 : Int32) (a3 : Int32) (M : ml_M) : Option ml_R := lw_wr (fun e => if e = 2 then (-20000) else if e = 3 then (-10000) else 0) (fX6_addBoat a1 a2 a3 M)
set_option maxHeartbeats 4000000 in
set_option maxRecDepth 100000 in
theorem fL_addBoat_c (a1 : Int32) (a2 : Int32) (a3 : Int32) (M : ml_M) (res : ml_R) {g : ml_G} (hst : g.2.2.2.2.2.stackTraces = false) (h : fL_addBoat a1 a2 a3 M = some res) : ml_CW yL_addBoat cL_addBoat 5 (some .int) [(0, 7, 8, 19), (0, 7, 14, 21)] 8 1 6 g (fun r _ => some (.int r)) [ml_rf g 0, .int a1, .int a2, .int a3] M res := by
  refine ml_ofW [(0, ml_rf g 0), (1, .int a1), (2, .int a2), (3, .int a3)] hst (by decide) (Nat.le_of_ble_eq_true rfl) rfl (fun E F => ?_)
  unfold fL_addBoat at h
  obtain ⟨rs, hx, hr, hxx⟩ := lw_wr_k h
  refine ml_aload_n (q := 0) F dL_addBoat_0 rfl rfl ?_
  refine ml_iload_n (q := 1) F dL_addBoat_1 rfl rfl ?_
  refine ml_iload_n (q := 2) F dL_addBoat_2 rfl rfl ?_
  refine ml_iload_n (q := 3) F dL_addBoat_3 rfl rfl ?_
  refine ml_callVC (rs := rs) (av := [.int a1, .int a2, .int a3]) (vl2 := (fun r _ => some (.int r))) (st := []) (kb := 0) (ci := 10) (T := TX6) (N := 9) F (pc0 g) rfl (fX6_addBoat_c a1 a2 a3 M rs hst hx) wcX6_addBoat mlL_13 wdX6_addBoat (by decide) (by decide) (by decide) rfl seX6_addBoat imX6_addBoat rfl (Nat.le_of_ble_eq_true rfl) dL_addBoat_4 (fun r9 h9 => ?_) (fun e9 h9 => ?_)
  · have h := hr r9 h9
    exact ml_iret (st := []) F h rfl rfl rfl (by decide) (by decide) dL_addBoat_7
  · obtain ⟨hc, h⟩ := hxx e9 h9
    have hc2 : e9 = 2 ∨ e9 = 3 := by
      by_cases h0 : e9 = 2
      · exact Or.inl h0
      · skip
        by_cases h1 : e9 = 3
        · exact Or.inr h1
        · exact absurd (by simp [h0, h1]) hc
    rcases hc2 with rfl | rfl
    · refine ⟨8, ⟨[], ⟨0, 7, 8, 19⟩, [⟨0, 7, 14, 21⟩], rfl, (fun z hz => by cases hz), by decide, by decide, ml_tb 1029 (by decide +kernel) rfl, by decide, rfl⟩, fun q => ?_⟩
      refine ml_astore (ls2 := [(4, .ref q), (0, ml_rf g 0), (1, .int a1), (2, .int a2), (3, .int a3)]) F dL_addBoat_8 (by decide) rfl ?_
      refine ml_sipush (v := (-20000)) F dL_addBoat_10 (by decide) ?_
      exact ml_iret (st := []) F h rfl rfl rfl (by decide) (by decide) dL_addBoat_13
    · refine ⟨14, ⟨[⟨0, 7, 8, 19⟩], ⟨0, 7, 14, 21⟩, [], rfl, (fun z hz => by rcases List.mem_cons.mp hz with rfl | hz; exact Or.inr ⟨by decide, "java/lang/IllegalArgumentException", ml_tb 1029 (by decide +kernel) rfl, by decide⟩; cases hz), by decide, by decide, ml_tb 1139 (by decide +kernel) rfl, by decide, rfl⟩, fun q => ?_⟩
      refine ml_astore (ls2 := [(4, .ref q), (0, ml_rf g 0), (1, .int a1), (2, .int a2), (3, .int a3)]) F dL_addBoat_14 (by decide) rfl ?_
      refine ml_sipush (v := (-10000)) F dL_addBoat_16 (by decide) ?_
      exact ml_iret (st := []) F h rfl rfl rfl (by decide) (by decide) dL_addBoat_19
def fL_setValve (a1 : Int32) (a2 : Int32) (M : ml_M) : Option ml_R := lw_wr (fun e => if e = 1 then (-25000) else if e = 2 then (-20000) else 0) (fX6_setValve a1 a2 M)
set_option maxHeartbeats 4000000 in
set_option maxRecDepth 100000 in
theorem fL_setValve_c (a1 : Int32) (a2 : Int32) (M : ml_M) (res : ml_R) {g : ml_G} (hst : g.2.2.2.2.2.stackTraces = false) (h : fL_setValve a1 a2 M = some res) : ml_CW yL_setValve cL_setValve 4 (some .int) [(0, 6, 7, 27), (0, 6, 12, 19)] 8 1 6 g (fun r _ => some (.int r)) [ml_rf g 0, .int a1, .int a2] M res := by
  refine ml_ofW [(0, ml_rf g 0), (1, .int a1), (2, .int a2)] hst (by decide) (Nat.le_of_ble_eq_true rfl) rfl (fun E F => ?_)
  unfold fL_setValve at h
  obtain ⟨rs, hx, hr, hxx⟩ := lw_wr_k h
  refine ml_aload_n (q := 0) F dL_setValve_0 rfl rfl ?_
  refine ml_iload_n (q := 1) F dL_setValve_1 rfl rfl ?_
  refine ml_iload_n (q := 2) F dL_setValve_2 rfl rfl ?_
  refine ml_callVC (rs := rs) (av := [.int a1, .int a2]) (vl2 := (fun r _ => some (.int r))) (st := []) (kb := 0) (ci := 10) (T := TX6) (N := 9) F (pc0 g) rfl (fX6_setValve_c a1 a2 M rs hst hx) wcX6_setValve mlL_23 wdX6_setValve (by decide) (by decide) (by decide) rfl seX6_setValve imX6_setValve rfl (Nat.le_of_ble_eq_true rfl) dL_setValve_3 (fun r9 h9 => ?_) (fun e9 h9 => ?_)
  · have h := hr r9 h9
    exact ml_iret (st := []) F h rfl rfl rfl (by decide) (by decide) dL_setValve_6
  · obtain ⟨hc, h⟩ := hxx e9 h9
    have hc2 : e9 = 1 ∨ e9 = 2 := by
      by_cases h0 : e9 = 1
      · exact Or.inl h0
      · skip
        by_cases h1 : e9 = 2
        · exact Or.inr h1
        · exact absurd (by simp [h0, h1]) hc
    rcases hc2 with rfl | rfl
    · refine ⟨7, ⟨[], ⟨0, 6, 7, 27⟩, [⟨0, 6, 12, 19⟩], rfl, (fun z hz => by cases hz), by decide, by decide, ml_tb 901 (by decide +kernel) rfl, by decide, rfl⟩, fun q => ?_⟩
      refine ml_astore_n (ls2 := [(3, .ref q), (0, ml_rf g 0), (1, .int a1), (2, .int a2)]) F dL_setValve_7 rfl (by decide) rfl ?_
      refine ml_sipush (v := (-25000)) F dL_setValve_8 (by decide) ?_
      exact ml_iret (st := []) F h rfl rfl rfl (by decide) (by decide) dL_setValve_11
    · refine ⟨12, ⟨[⟨0, 6, 7, 27⟩], ⟨0, 6, 12, 19⟩, [], rfl, (fun z hz => by rcases List.mem_cons.mp hz with rfl | hz; exact Or.inr ⟨by decide, "java/lang/IndexOutOfBoundsException", ml_tb 901 (by decide +kernel) rfl, by decide⟩; cases hz), by decide, by decide, ml_tb 1029 (by decide +kernel) rfl, by decide, rfl⟩, fun q => ?_⟩
      refine ml_astore_n (ls2 := [(3, .ref q), (0, ml_rf g 0), (1, .int a1), (2, .int a2)]) F dL_setValve_12 rfl (by decide) rfl ?_
      refine ml_sipush (v := (-20000)) F dL_setValve_13 (by decide) ?_
      exact ml_iret (st := []) F h rfl rfl rfl (by decide) (by decide) dL_setValve_16
def fL_openGate (a1 : Int32) (M : ml_M) : Option ml_R := lw_wr (fun e => if e = 1 then (-25000) else if e = 3 then (-10000) else if e = 5 then (-15000) else 0) (fX6_openGate a1 M)
set_option maxHeartbeats 4000000 in
set_option maxRecDepth 100000 in
theorem fL_openGate_c (a1 : Int32) (M : ml_M) (res : ml_R) {g : ml_G} (hst : g.2.2.2.2.2.stackTraces = false) (h : fL_openGate a1 M = some res) : ml_CW yL_openGate cL_openGate 3 (some .int) [(0, 5, 6, 27), (0, 5, 11, 21), (0, 5, 16, 33)] 8 1 6 g (fun r _ => some (.int r)) [ml_rf g 0, .int a1] M res := by
  refine ml_ofW [(0, ml_rf g 0), (1, .int a1)] hst (by decide) (Nat.le_of_ble_eq_true rfl) rfl (fun E F => ?_)
  unfold fL_openGate at h
  obtain ⟨rs, hx, hr, hxx⟩ := lw_wr_k h
  refine ml_aload_n (q := 0) F dL_openGate_0 rfl rfl ?_
  refine ml_iload_n (q := 1) F dL_openGate_1 rfl rfl ?_
  refine ml_callVC (rs := rs) (av := [.int a1]) (vl2 := (fun r _ => some (.int r))) (st := []) (kb := 0) (ci := 10) (T := TX6) (N := 9) F (pc0 g) rfl (fX6_openGate_c a1 M rs hst hx) wcX6_openGate mlL_29 wdX6_openGate (by decide) (by decide) (by decide) rfl seX6_openGate imX6_openGate rfl (Nat.le_of_ble_eq_true rfl) dL_openGate_2 (fun r9 h9 => ?_) (fun e9 h9 => ?_)
  · have h := hr r9 h9
    exact ml_iret (st := []) F h rfl rfl rfl (by decide) (by decide) dL_openGate_5
  · obtain ⟨hc, h⟩ := hxx e9 h9
    have hc2 : e9 = 1 ∨ e9 = 3 ∨ e9 = 5 := by
      by_cases h0 : e9 = 1
      · exact Or.inl h0
      · skip
        by_cases h1 : e9 = 3
        · exact Or.inr (Or.inl h1)
        · skip
          by_cases h2 : e9 = 5
          · exact Or.inr (Or.inr h2)
          · exact absurd (by simp [h0, h1, h2]) hc
    rcases hc2 with rfl | rfl | rfl
    · refine ⟨6, ⟨[], ⟨0, 5, 6, 27⟩, [⟨0, 5, 11, 21⟩, ⟨0, 5, 16, 33⟩], rfl, (fun z hz => by cases hz), by decide, by decide, ml_tb 901 (by decide +kernel) rfl, by decide, rfl⟩, fun q => ?_⟩
      refine ml_astore_n (ls2 := [(2, .ref q), (0, ml_rf g 0), (1, .int a1)]) F dL_openGate_6 rfl (by decide) rfl ?_
      refine ml_sipush (v := (-25000)) F dL_openGate_7 (by decide) ?_
      exact ml_iret (st := []) F h rfl rfl rfl (by decide) (by decide) dL_openGate_10
    · refine ⟨11, ⟨[⟨0, 5, 6, 27⟩], ⟨0, 5, 11, 21⟩, [⟨0, 5, 16, 33⟩], rfl, (fun z hz => by rcases List.mem_cons.mp hz with rfl | hz; exact Or.inr ⟨by decide, "java/lang/IndexOutOfBoundsException", ml_tb 901 (by decide +kernel) rfl, by decide⟩; cases hz), by decide, by decide, ml_tb 1139 (by decide +kernel) rfl, by decide, rfl⟩, fun q => ?_⟩
      refine ml_astore_n (ls2 := [(2, .ref q), (0, ml_rf g 0), (1, .int a1)]) F dL_openGate_11 rfl (by decide) rfl ?_
      refine ml_sipush (v := (-10000)) F dL_openGate_12 (by decide) ?_
      exact ml_iret (st := []) F h rfl rfl rfl (by decide) (by decide) dL_openGate_15
    · refine ⟨16, ⟨[⟨0, 5, 6, 27⟩, ⟨0, 5, 11, 21⟩], ⟨0, 5, 16, 33⟩, [], rfl, (fun z hz => by rcases List.mem_cons.mp hz with rfl | hz; exact Or.inr ⟨by decide, "java/lang/IndexOutOfBoundsException", ml_tb 901 (by decide +kernel) rfl, by decide⟩; rcases List.mem_cons.mp hz with rfl | hz; exact Or.inr ⟨by decide, "java/lang/IllegalStateException", ml_tb 1139 (by decide +kernel) rfl, by decide⟩; cases hz), by decide, by decide, ml_tb 1150 (by decide +kernel) rfl, by decide, rfl⟩, fun q => ?_⟩
      refine ml_astore_n (ls2 := [(2, .ref q), (0, ml_rf g 0), (1, .int a1)]) F dL_openGate_16 rfl (by decide) rfl ?_
      refine ml_sipush (v := (-15000)) F dL_openGate_17 (by decide) ?_
      exact ml_iret (st := []) F h rfl rfl rfl (by decide) (by decide) dL_openGate_20
def fL_shutGate (a1 : Int32) (M : ml_M) : Option ml_R := lw_wr (fun e => if e = 1 then (-25000) else if e = 3 then (-10000) else 0) (fX6_shutGate a1 M)
set_option maxHeartbeats 4000000 in
set_option maxRecDepth 100000 in
theorem fL_shutGate_c (a1 : Int32) (M : ml_M) (res : ml_R) {g : ml_G} (hst : g.2.2.2.2.2.stackTraces = false) (h : fL_shutGate a1 M = some res) : ml_CW yL_shutGate cL_shutGate 3 (some .int) [(0, 5, 6, 27), (0, 5, 11, 21)] 8 1 6 g (fun r _ => some (.int r)) [ml_rf g 0, .int a1] M res := by
  refine ml_ofW [(0, ml_rf g 0), (1, .int a1)] hst (by decide) (Nat.le_of_ble_eq_true rfl) rfl (fun E F => ?_)
  unfold fL_shutGate at h
  obtain ⟨rs, hx, hr, hxx⟩ := lw_wr_k h
  refine ml_aload_n (q := 0) F dL_shutGate_0 rfl rfl ?_
  refine ml_iload_n (q := 1) F dL_shutGate_1 rfl rfl ?_
  refine ml_callVC (rs := rs) (av := [.int a1]) (vl2 := (fun r _ => some (.int r))) (st := []) (kb := 0) (ci := 10) (T := TX6) (N := 9) F (pc0 g) rfl (fX6_shutGate_c a1 M rs hst hx) wcX6_shutGate mlL_35 wdX6_shutGate (by decide) (by decide) (by decide) rfl seX6_shutGate imX6_shutGate rfl (Nat.le_of_ble_eq_true rfl) dL_shutGate_2 (fun r9 h9 => ?_) (fun e9 h9 => ?_)
  · have h := hr r9 h9
    exact ml_iret (st := []) F h rfl rfl rfl (by decide) (by decide) dL_shutGate_5
  · obtain ⟨hc, h⟩ := hxx e9 h9
    have hc2 : e9 = 1 ∨ e9 = 3 := by
      by_cases h0 : e9 = 1
      · exact Or.inl h0
      · skip
        by_cases h1 : e9 = 3
        · exact Or.inr h1
        · exact absurd (by simp [h0, h1]) hc
    rcases hc2 with rfl | rfl
    · refine ⟨6, ⟨[], ⟨0, 5, 6, 27⟩, [⟨0, 5, 11, 21⟩], rfl, (fun z hz => by cases hz), by decide, by decide, ml_tb 901 (by decide +kernel) rfl, by decide, rfl⟩, fun q => ?_⟩
      refine ml_astore_n (ls2 := [(2, .ref q), (0, ml_rf g 0), (1, .int a1)]) F dL_shutGate_6 rfl (by decide) rfl ?_
      refine ml_sipush (v := (-25000)) F dL_shutGate_7 (by decide) ?_
      exact ml_iret (st := []) F h rfl rfl rfl (by decide) (by decide) dL_shutGate_10
    · refine ⟨11, ⟨[⟨0, 5, 6, 27⟩], ⟨0, 5, 11, 21⟩, [], rfl, (fun z hz => by rcases List.mem_cons.mp hz with rfl | hz; exact Or.inr ⟨by decide, "java/lang/IndexOutOfBoundsException", ml_tb 901 (by decide +kernel) rfl, by decide⟩; cases hz), by decide, by decide, ml_tb 1139 (by decide +kernel) rfl, by decide, rfl⟩, fun q => ?_⟩
      refine ml_astore_n (ls2 := [(2, .ref q), (0, ml_rf g 0), (1, .int a1)]) F dL_shutGate_11 rfl (by decide) rfl ?_
      refine ml_sipush (v := (-10000)) F dL_shutGate_12 (by decide) ?_
      exact ml_iret (st := []) F h rfl rfl rfl (by decide) (by decide) dL_shutGate_15
def fL_setRain (a1 : Int32) (M : ml_M) : Option ml_R := lw_wr (fun e => if e = 2 then (-20000) else 0) (fX6_setRain a1 M)
set_option maxHeartbeats 4000000 in
set_option maxRecDepth 100000 in
theorem fL_setRain_c (a1 : Int32) (M : ml_M) (res : ml_R) {g : ml_G} (hst : g.2.2.2.2.2.stackTraces = false) (h : fL_setRain a1 M = some res) : ml_CW yL_setRain cL_setRain 3 (some .int) [(0, 5, 6, 19)] 8 1 6 g (fun r _ => some (.int r)) [ml_rf g 0, .int a1] M res := by
  refine ml_ofW [(0, ml_rf g 0), (1, .int a1)] hst (by decide) (Nat.le_of_ble_eq_true rfl) rfl (fun E F => ?_)
  unfold fL_setRain at h
  obtain ⟨rs, hx, hr, hxx⟩ := lw_wr_k h
  refine ml_aload_n (q := 0) F dL_setRain_0 rfl rfl ?_
  refine ml_iload_n (q := 1) F dL_setRain_1 rfl rfl ?_
  refine ml_callVC (rs := rs) (av := [.int a1]) (vl2 := (fun r _ => some (.int r))) (st := []) (kb := 0) (ci := 10) (T := TX6) (N := 9) F (pc0 g) rfl (fX6_setRain_c a1 M rs hst hx) wcX6_setRain mlL_38 wdX6_setRain (by decide) (by decide) (by decide) rfl seX6_setRain imX6_setRain rfl (Nat.le_of_ble_eq_true rfl) dL_setRain_2 (fun r9 h9 => ?_) (fun e9 h9 => ?_)
  · have h := hr r9 h9
    exact ml_iret (st := []) F h rfl rfl rfl (by decide) (by decide) dL_setRain_5
  · obtain ⟨hc, h⟩ := hxx e9 h9
    have hc2 : e9 = 2 := by
      by_cases h1 : e9 = 2
      · exact h1
      · exact absurd (if_neg h1) hc
    rcases hc2 with rfl
    refine ⟨6, ⟨[], ⟨0, 5, 6, 19⟩, [], rfl, (fun z hz => by cases hz), by decide, by decide, ml_tb 1029 (by decide +kernel) rfl, by decide, rfl⟩, fun q => ?_⟩
    refine ml_astore_n (ls2 := [(2, .ref q), (0, ml_rf g 0), (1, .int a1)]) F dL_setRain_6 rfl (by decide) rfl ?_
    refine ml_sipush (v := (-20000)) F dL_setRain_7 (by decide) ?_
    exact ml_iret (st := []) F h rfl rfl rfl (by decide) (by decide) dL_setRain_10
def fL_setDrain (a1 : Int32) (M : ml_M) : Option ml_R := lw_wr (fun e => if e = 2 then (-20000) else 0) (fX6_setDrain a1 M)
set_option maxHeartbeats 4000000 in
set_option maxRecDepth 100000 in
theorem fL_setDrain_c (a1 : Int32) (M : ml_M) (res : ml_R) {g : ml_G} (hst : g.2.2.2.2.2.stackTraces = false) (h : fL_setDrain a1 M = some res) : ml_CW yL_setDrain cL_setDrain 3 (some .int) [(0, 5, 6, 19)] 8 1 6 g (fun r _ => some (.int r)) [ml_rf g 0, .int a1] M res := by
  refine ml_ofW [(0, ml_rf g 0), (1, .int a1)] hst (by decide) (Nat.le_of_ble_eq_true rfl) rfl (fun E F => ?_)
  unfold fL_setDrain at h
  obtain ⟨rs, hx, hr, hxx⟩ := lw_wr_k h
  refine ml_aload_n (q := 0) F dL_setDrain_0 rfl rfl ?_
  refine ml_iload_n (q := 1) F dL_setDrain_1 rfl rfl ?_
  refine ml_callVC (rs := rs) (av := [.int a1]) (vl2 := (fun r _ => some (.int r))) (st := []) (kb := 0) (ci := 10) (T := TX6) (N := 9) F (pc0 g) rfl (fX6_setDrain_c a1 M rs hst hx) wcX6_setDrain mlL_41 wdX6_setDrain (by decide) (by decide) (by decide) rfl seX6_setDrain imX6_setDrain rfl (Nat.le_of_ble_eq_true rfl) dL_setDrain_2 (fun r9 h9 => ?_) (fun e9 h9 => ?_)
  · have h := hr r9 h9
    exact ml_iret (st := []) F h rfl rfl rfl (by decide) (by decide) dL_setDrain_5
  · obtain ⟨hc, h⟩ := hxx e9 h9
    have hc2 : e9 = 2 := by
      by_cases h1 : e9 = 2
      · exact h1
      · exact absurd (if_neg h1) hc
    rcases hc2 with rfl
    refine ⟨6, ⟨[], ⟨0, 5, 6, 19⟩, [], rfl, (fun z hz => by cases hz), by decide, by decide, ml_tb 1029 (by decide +kernel) rfl, by decide, rfl⟩, fun q => ?_⟩
    refine ml_astore_n (ls2 := [(2, .ref q), (0, ml_rf g 0), (1, .int a1)]) F dL_setDrain_6 rfl (by decide) rfl ?_
    refine ml_sipush (v := (-20000)) F dL_setDrain_7 (by decide) ?_
    exact ml_iret (st := []) F h rfl rfl rfl (by decide) (by decide) dL_setDrain_10
def fL_advance (a1 : Int32) (M : ml_M) : Option ml_R := lw_wr (fun e => if e = 2 then (-20000) else 0) (fX6_advance a1 M)
set_option maxHeartbeats 4000000 in
set_option maxRecDepth 100000 in
theorem fL_advance_c (a1 : Int32) (M : ml_M) (res : ml_R) {g : ml_G} (hst : g.2.2.2.2.2.stackTraces = false) (h : fL_advance a1 M = some res) : ml_CW yL_advance cL_advance 3 (some .int) [(0, 5, 6, 19)] 8 1 6 g (fun r _ => some (.int r)) [ml_rf g 0, .int a1] M res := by
  refine ml_ofW [(0, ml_rf g 0), (1, .int a1)] hst (by decide) (Nat.le_of_ble_eq_true rfl) rfl (fun E F => ?_)
  unfold fL_advance at h
  obtain ⟨rs, hx, hr, hxx⟩ := lw_wr_k h
  refine ml_aload_n (q := 0) F dL_advance_0 rfl rfl ?_
  refine ml_iload_n (q := 1) F dL_advance_1 rfl rfl ?_
  refine ml_callVC (rs := rs) (av := [.int a1]) (vl2 := (fun r _ => some (.int r))) (st := []) (kb := 0) (ci := 10) (T := TX6) (N := 9) F (pc0 g) rfl (fX6_advance_c a1 M rs hst hx) wcX6_advance mlL_44 wdX6_advance (by decide) (by decide) (by decide) rfl seX6_advance imX6_advance rfl (Nat.le_of_ble_eq_true rfl) dL_advance_2 (fun r9 h9 => ?_) (fun e9 h9 => ?_)
  · have h := hr r9 h9
    exact ml_iret (st := []) F h rfl rfl rfl (by decide) (by decide) dL_advance_5
  · obtain ⟨hc, h⟩ := hxx e9 h9
    have hc2 : e9 = 2 := by
      by_cases h1 : e9 = 2
      · exact h1
      · exact absurd (if_neg h1) hc
    rcases hc2 with rfl
    refine ⟨6, ⟨[], ⟨0, 5, 6, 19⟩, [], rfl, (fun z hz => by cases hz), by decide, by decide, ml_tb 1029 (by decide +kernel) rfl, by decide, rfl⟩, fun q => ?_⟩
    refine ml_astore_n (ls2 := [(2, .ref q), (0, ml_rf g 0), (1, .int a1)]) F dL_advance_6 rfl (by decide) rfl ?_
    refine ml_sipush (v := (-20000)) F dL_advance_7 (by decide) ?_
    exact ml_iret (st := []) F h rfl rfl rfl (by decide) (by decide) dL_advance_10
def fL_basinByLevel (a1 : Int32) (M : ml_M) : Option ml_R := lw_wr (fun e => if e = 4 then (-30000) else 0) (fX6_basinByLevel a1 M)
set_option maxHeartbeats 4000000 in
set_option maxRecDepth 100000 in
theorem fL_basinByLevel_c (a1 : Int32) (M : ml_M) (res : ml_R) {g : ml_G} (hst : g.2.2.2.2.2.stackTraces = false) (h : fL_basinByLevel a1 M = some res) : ml_CW yL_basinByLevel cL_basinByLevel 3 (some .int) [(0, 5, 6, 50)] 5 1 6 g (fun r _ => some (.int r)) [ml_rf g 0, .int a1] M res := by
  refine ml_ofW [(0, ml_rf g 0), (1, .int a1)] hst (by decide) (Nat.le_of_ble_eq_true rfl) rfl (fun E F => ?_)
  unfold fL_basinByLevel at h
  obtain ⟨rs, hx, hr, hxx⟩ := lw_wr_k h
  refine ml_aload_n (q := 0) F dL_basinByLevel_0 rfl rfl ?_
  refine ml_iload_n (q := 1) F dL_basinByLevel_1 rfl rfl ?_
  refine ml_callVC (rs := rs) (av := [.int a1]) (vl2 := (fun r _ => some (.int r))) (st := []) (kb := 0) (ci := 10) (T := TX6) (N := 9) F (pc0 g) rfl (fX6_basinByLevel_c a1 M rs hst hx) wcX6_basinByLevel mlL_47 wdX6_basinByLevel (by decide) (by decide) (by decide) rfl seX6_basinByLevel imX6_basinByLevel rfl (Nat.le_of_ble_eq_true rfl) dL_basinByLevel_2 (fun r9 h9 => ?_) (fun e9 h9 => ?_)
  · have h := hr r9 h9
    exact ml_iret (st := []) F h rfl rfl rfl (by decide) (by decide) dL_basinByLevel_5
  · obtain ⟨hc, h⟩ := hxx e9 h9
    have hc2 : e9 = 4 := by
      by_cases h1 : e9 = 4
      · exact h1
      · exact absurd (if_neg h1) hc
    rcases hc2 with rfl
    refine ⟨6, ⟨[], ⟨0, 5, 6, 50⟩, [], rfl, (fun z hz => by cases hz), by decide, by decide, ml_tb 894 (by decide +kernel) rfl, by decide, rfl⟩, fun q => ?_⟩
    refine ml_astore_n (ls2 := [(2, .ref q), (0, ml_rf g 0), (1, .int a1)]) F dL_basinByLevel_6 rfl (by decide) rfl ?_
    refine ml_sipush (v := (-30000)) F dL_basinByLevel_7 (by decide) ?_
    exact ml_iret (st := []) F h rfl rfl rfl (by decide) (by decide) dL_basinByLevel_10
def fL_boatInOrder (a1 : Int32) (M : ml_M) : Option ml_R := lw_wr (fun e => if e = 4 then (-30000) else 0) (fX6_boatInOrder a1 M)
set_option maxHeartbeats 4000000 in
set_option maxRecDepth 100000 in
theorem fL_boatInOrder_c (a1 : Int32) (M : ml_M) (res : ml_R) {g : ml_G} (hst : g.2.2.2.2.2.stackTraces = false) (h : fL_boatInOrder a1 M = some res) : ml_CW yL_boatInOrder cL_boatInOrder 3 (some .int) [(0, 5, 6, 50)] 3 1 6 g (fun r _ => some (.int r)) [ml_rf g 0, .int a1] M res := by
  refine ml_ofW [(0, ml_rf g 0), (1, .int a1)] hst (by decide) (Nat.le_of_ble_eq_true rfl) rfl (fun E F => ?_)
  unfold fL_boatInOrder at h
  obtain ⟨rs, hx, hr, hxx⟩ := lw_wr_k h
  refine ml_aload_n (q := 0) F dL_boatInOrder_0 rfl rfl ?_
  refine ml_iload_n (q := 1) F dL_boatInOrder_1 rfl rfl ?_
  refine ml_callVC (rs := rs) (av := [.int a1]) (vl2 := (fun r _ => some (.int r))) (st := []) (kb := 0) (ci := 10) (T := TX6) (N := 9) F (pc0 g) rfl (fX6_boatInOrder_c a1 M rs hst hx) wcX6_boatInOrder mlL_52 wdX6_boatInOrder (by decide) (by decide) (by decide) rfl seX6_boatInOrder imX6_boatInOrder rfl (Nat.le_of_ble_eq_true rfl) dL_boatInOrder_2 (fun r9 h9 => ?_) (fun e9 h9 => ?_)
  · have h := hr r9 h9
    exact ml_iret (st := []) F h rfl rfl rfl (by decide) (by decide) dL_boatInOrder_5
  · obtain ⟨hc, h⟩ := hxx e9 h9
    have hc2 : e9 = 4 := by
      by_cases h1 : e9 = 4
      · exact h1
      · exact absurd (if_neg h1) hc
    rcases hc2 with rfl
    refine ⟨6, ⟨[], ⟨0, 5, 6, 50⟩, [], rfl, (fun z hz => by cases hz), by decide, by decide, ml_tb 894 (by decide +kernel) rfl, by decide, rfl⟩, fun q => ?_⟩
    refine ml_astore_n (ls2 := [(2, .ref q), (0, ml_rf g 0), (1, .int a1)]) F dL_boatInOrder_6 rfl (by decide) rfl ?_
    refine ml_sipush (v := (-30000)) F dL_boatInOrder_7 (by decide) ?_
    exact ml_iret (st := []) F h rfl rfl rfl (by decide) (by decide) dL_boatInOrder_10
def fL_minutesUntilEqual (a1 : Int32) (M : ml_M) : Option ml_R := lw_wr (fun e => if e = 1 then (-25000) else if e = 4 then (-30000) else 0) (fX6_minutesUntilEqual a1 M)
set_option maxHeartbeats 4000000 in
set_option maxRecDepth 100000 in
theorem fL_minutesUntilEqual_c (a1 : Int32) (M : ml_M) (res : ml_R) {g : ml_G} (hst : g.2.2.2.2.2.stackTraces = false) (h : fL_minutesUntilEqual a1 M = some res) : ml_CW yL_minutesUntilEqual cL_minutesUntilEqual 3 (some .int) [(0, 5, 6, 27), (0, 5, 11, 50)] 7 2 12 g (fun r _ => some (.int r)) [ml_rf g 0, .int a1] M res := by
  refine ml_ofW [(0, ml_rf g 0), (1, .int a1)] hst (by decide) (Nat.le_of_ble_eq_true rfl) rfl (fun E F => ?_)
  unfold fL_minutesUntilEqual at h
  obtain ⟨rs, hx, hr, hxx⟩ := lw_wr_k h
  refine ml_aload_n (q := 0) F dL_minutesUntilEqual_0 rfl rfl ?_
  refine ml_iload_n (q := 1) F dL_minutesUntilEqual_1 rfl rfl ?_
  refine ml_callVC (rs := rs) (av := [.int a1]) (vl2 := (fun r _ => some (.int r))) (st := []) (kb := 0) (ci := 10) (T := TX6) (N := 9) F (pc0 g) rfl (fX6_minutesUntilEqual_c a1 M rs hst hx) wcX6_minutesUntilEqual mlL_55 wdX6_minutesUntilEqual (by decide) (by decide) (by decide) rfl seX6_minutesUntilEqual imX6_minutesUntilEqual rfl (Nat.le_of_ble_eq_true rfl) dL_minutesUntilEqual_2 (fun r9 h9 => ?_) (fun e9 h9 => ?_)
  · have h := hr r9 h9
    exact ml_iret (st := []) F h rfl rfl rfl (by decide) (by decide) dL_minutesUntilEqual_5
  · obtain ⟨hc, h⟩ := hxx e9 h9
    have hc2 : e9 = 1 ∨ e9 = 4 := by
      by_cases h0 : e9 = 1
      · exact Or.inl h0
      · skip
        by_cases h1 : e9 = 4
        · exact Or.inr h1
        · exact absurd (by simp [h0, h1]) hc
    rcases hc2 with rfl | rfl
    · refine ⟨6, ⟨[], ⟨0, 5, 6, 27⟩, [⟨0, 5, 11, 50⟩], rfl, (fun z hz => by cases hz), by decide, by decide, ml_tb 901 (by decide +kernel) rfl, by decide, rfl⟩, fun q => ?_⟩
      refine ml_astore_n (ls2 := [(2, .ref q), (0, ml_rf g 0), (1, .int a1)]) F dL_minutesUntilEqual_6 rfl (by decide) rfl ?_
      refine ml_sipush (v := (-25000)) F dL_minutesUntilEqual_7 (by decide) ?_
      exact ml_iret (st := []) F h rfl rfl rfl (by decide) (by decide) dL_minutesUntilEqual_10
    · refine ⟨11, ⟨[⟨0, 5, 6, 27⟩], ⟨0, 5, 11, 50⟩, [], rfl, (fun z hz => by rcases List.mem_cons.mp hz with rfl | hz; exact Or.inr ⟨by decide, "java/lang/IndexOutOfBoundsException", ml_tb 901 (by decide +kernel) rfl, by decide⟩; cases hz), by decide, by decide, ml_tb 894 (by decide +kernel) rfl, by decide, rfl⟩, fun q => ?_⟩
      refine ml_astore_n (ls2 := [(2, .ref q), (0, ml_rf g 0), (1, .int a1)]) F dL_minutesUntilEqual_11 rfl (by decide) rfl ?_
      refine ml_sipush (v := (-30000)) F dL_minutesUntilEqual_12 (by decide) ?_
      exact ml_iret (st := []) F h rfl rfl rfl (by decide) (by decide) dL_minutesUntilEqual_15
def fL_eventKind (a1 : Int32) (M : ml_M) : Option ml_R := lw_wr (fun e => if e = 4 then (-30000) else 0) (fX6_eventKind a1 M)
set_option maxHeartbeats 4000000 in
set_option maxRecDepth 100000 in
theorem fL_eventKind_c (a1 : Int32) (M : ml_M) (res : ml_R) {g : ml_G} (hst : g.2.2.2.2.2.stackTraces = false) (h : fL_eventKind a1 M = some res) : ml_CW yL_eventKind cL_eventKind 3 (some .int) [(0, 5, 6, 50)] 4 1 6 g (fun r _ => some (.int r)) [ml_rf g 0, .int a1] M res := by
  refine ml_ofW [(0, ml_rf g 0), (1, .int a1)] hst (by decide) (Nat.le_of_ble_eq_true rfl) rfl (fun E F => ?_)
  unfold fL_eventKind at h
  obtain ⟨rs, hx, hr, hxx⟩ := lw_wr_k h
  refine ml_aload_n (q := 0) F dL_eventKind_0 rfl rfl ?_
  refine ml_iload_n (q := 1) F dL_eventKind_1 rfl rfl ?_
  refine ml_callVC (rs := rs) (av := [.int a1]) (vl2 := (fun r _ => some (.int r))) (st := []) (kb := 0) (ci := 10) (T := TX6) (N := 9) F (pc0 g) rfl (fX6_eventKind_c a1 M rs hst hx) wcX6_eventKind mlL_58 wdX6_eventKind (by decide) (by decide) (by decide) rfl seX6_eventKind imX6_eventKind rfl (Nat.le_of_ble_eq_true rfl) dL_eventKind_2 (fun r9 h9 => ?_) (fun e9 h9 => ?_)
  · have h := hr r9 h9
    exact ml_iret (st := []) F h rfl rfl rfl (by decide) (by decide) dL_eventKind_5
  · obtain ⟨hc, h⟩ := hxx e9 h9
    have hc2 : e9 = 4 := by
      by_cases h1 : e9 = 4
      · exact h1
      · exact absurd (if_neg h1) hc
    rcases hc2 with rfl
    refine ⟨6, ⟨[], ⟨0, 5, 6, 50⟩, [], rfl, (fun z hz => by cases hz), by decide, by decide, ml_tb 894 (by decide +kernel) rfl, by decide, rfl⟩, fun q => ?_⟩
    refine ml_astore_n (ls2 := [(2, .ref q), (0, ml_rf g 0), (1, .int a1)]) F dL_eventKind_6 rfl (by decide) rfl ?_
    refine ml_sipush (v := (-30000)) F dL_eventKind_7 (by decide) ?_
    exact ml_iret (st := []) F h rfl rfl rfl (by decide) (by decide) dL_eventKind_10
def fL_eventNumber (a1 : Int32) (M : ml_M) : Option ml_R := lw_wr (fun e => if e = 4 then (-30000) else 0) (fX6_eventNumber a1 M)
set_option maxHeartbeats 4000000 in
set_option maxRecDepth 100000 in
theorem fL_eventNumber_c (a1 : Int32) (M : ml_M) (res : ml_R) {g : ml_G} (hst : g.2.2.2.2.2.stackTraces = false) (h : fL_eventNumber a1 M = some res) : ml_CW yL_eventNumber cL_eventNumber 3 (some .int) [(0, 5, 6, 50)] 4 1 6 g (fun r _ => some (.int r)) [ml_rf g 0, .int a1] M res := by
  refine ml_ofW [(0, ml_rf g 0), (1, .int a1)] hst (by decide) (Nat.le_of_ble_eq_true rfl) rfl (fun E F => ?_)
  unfold fL_eventNumber at h
  obtain ⟨rs, hx, hr, hxx⟩ := lw_wr_k h
  refine ml_aload_n (q := 0) F dL_eventNumber_0 rfl rfl ?_
  refine ml_iload_n (q := 1) F dL_eventNumber_1 rfl rfl ?_
  refine ml_callVC (rs := rs) (av := [.int a1]) (vl2 := (fun r _ => some (.int r))) (st := []) (kb := 0) (ci := 10) (T := TX6) (N := 9) F (pc0 g) rfl (fX6_eventNumber_c a1 M rs hst hx) wcX6_eventNumber mlL_62 wdX6_eventNumber (by decide) (by decide) (by decide) rfl seX6_eventNumber imX6_eventNumber rfl (Nat.le_of_ble_eq_true rfl) dL_eventNumber_2 (fun r9 h9 => ?_) (fun e9 h9 => ?_)
  · have h := hr r9 h9
    exact ml_iret (st := []) F h rfl rfl rfl (by decide) (by decide) dL_eventNumber_5
  · obtain ⟨hc, h⟩ := hxx e9 h9
    have hc2 : e9 = 4 := by
      by_cases h1 : e9 = 4
      · exact h1
      · exact absurd (if_neg h1) hc
    rcases hc2 with rfl
    refine ⟨6, ⟨[], ⟨0, 5, 6, 50⟩, [], rfl, (fun z hz => by cases hz), by decide, by decide, ml_tb 894 (by decide +kernel) rfl, by decide, rfl⟩, fun q => ?_⟩
    refine ml_astore_n (ls2 := [(2, .ref q), (0, ml_rf g 0), (1, .int a1)]) F dL_eventNumber_6 rfl (by decide) rfl ?_
    refine ml_sipush (v := (-30000)) F dL_eventNumber_7 (by decide) ?_
    exact ml_iret (st := []) F h rfl rfl rfl (by decide) (by decide) dL_eventNumber_10
