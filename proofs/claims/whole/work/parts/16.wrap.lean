/-! THE WRAPPERS of the law -/
theorem wcX6_addBoat : ml_wc yX6_addBoat cX6_addBoat 4 (some .int) := ⟨ml_tb 803 (by decide +kernel) rfl, ml_tb 1 (by decide +kernel) rfl, by decide⟩
theorem wdX6_addBoat : ml_wd yX6_addBoat 3 := ⟨by decide +kernel, by decide +kernel, by decide +kernel⟩
theorem imX6_addBoat : Cond.instanceMethod yX6_addBoat ∈ ml_all := ml_tb 801 (by decide +kernel) rfl
theorem seX6_addBoat : Cond.selects yX6_addBoat.cls yX6_addBoat yX6_addBoat ∈ ml_all := ml_tb 802 (by decide +kernel) rfl
theorem mlL_7 : Cond.methodLink RL 7 yX6_addBoat ∈ ml_all := ml_tb 800 (by decide +kernel) rfl
theorem wcX6_setValve : ml_wc yX6_setValve cX6_setValve 3 (some .int) := ⟨ml_tb 996 (by decide +kernel) rfl, ml_tb 1 (by decide +kernel) rfl, by decide⟩
theorem wdX6_setValve : ml_wd yX6_setValve 2 := ⟨by decide +kernel, by decide +kernel, by decide +kernel⟩
theorem imX6_setValve : Cond.instanceMethod yX6_setValve ∈ ml_all := ml_tb 994 (by decide +kernel) rfl
theorem seX6_setValve : Cond.selects yX6_setValve.cls yX6_setValve yX6_setValve ∈ ml_all := ml_tb 995 (by decide +kernel) rfl
theorem mlL_17 : Cond.methodLink RL 17 yX6_setValve ∈ ml_all := ml_tb 993 (by decide +kernel) rfl
theorem wcX6_openGate : ml_wc yX6_openGate cX6_openGate 2 (some .int) := ⟨ml_tb 1004 (by decide +kernel) rfl, ml_tb 1 (by decide +kernel) rfl, by decide⟩
theorem wdX6_openGate : ml_wd yX6_openGate 1 := ⟨by decide +kernel, by decide +kernel, by decide +kernel⟩
theorem imX6_openGate : Cond.instanceMethod yX6_openGate ∈ ml_all := ml_tb 1002 (by decide +kernel) rfl
theorem seX6_openGate : Cond.selects yX6_openGate.cls yX6_openGate yX6_openGate ∈ ml_all := ml_tb 1003 (by decide +kernel) rfl
theorem mlL_23 : Cond.methodLink RL 23 yX6_openGate ∈ ml_all := ml_tb 1001 (by decide +kernel) rfl
theorem wcX6_shutGate : ml_wc yX6_shutGate cX6_shutGate 2 (some .int) := ⟨ml_tb 1011 (by decide +kernel) rfl, ml_tb 1 (by decide +kernel) rfl, by decide⟩
theorem wdX6_shutGate : ml_wd yX6_shutGate 1 := ⟨by decide +kernel, by decide +kernel, by decide +kernel⟩
theorem imX6_shutGate : Cond.instanceMethod yX6_shutGate ∈ ml_all := ml_tb 1009 (by decide +kernel) rfl
theorem seX6_shutGate : Cond.selects yX6_shutGate.cls yX6_shutGate yX6_shutGate ∈ ml_all := ml_tb 1010 (by decide +kernel) rfl
theorem mlL_29 : Cond.methodLink RL 29 yX6_shutGate ∈ ml_all := ml_tb 1008 (by decide +kernel) rfl
theorem wcX6_setRain : ml_wc yX6_setRain cX6_setRain 2 (some .int) := ⟨ml_tb 1018 (by decide +kernel) rfl, ml_tb 1 (by decide +kernel) rfl, by decide⟩
theorem wdX6_setRain : ml_wd yX6_setRain 1 := ⟨by decide +kernel, by decide +kernel, by decide +kernel⟩
theorem imX6_setRain : Cond.instanceMethod yX6_setRain ∈ ml_all := ml_tb 1016 (by decide +kernel) rfl
theorem seX6_setRain : Cond.selects yX6_setRain.cls yX6_setRain yX6_setRain ∈ ml_all := ml_tb 1017 (by decide +kernel) rfl
theorem mlL_32 : Cond.methodLink RL 32 yX6_setRain ∈ ml_all := ml_tb 1015 (by decide +kernel) rfl
theorem wcX6_setDrain : ml_wc yX6_setDrain cX6_setDrain 2 (some .int) := ⟨ml_tb 1025 (by decide +kernel) rfl, ml_tb 1 (by decide +kernel) rfl, by decide⟩
theorem wdX6_setDrain : ml_wd yX6_setDrain 1 := ⟨by decide +kernel, by decide +kernel, by decide +kernel⟩
theorem imX6_setDrain : Cond.instanceMethod yX6_setDrain ∈ ml_all := ml_tb 1023 (by decide +kernel) rfl
theorem seX6_setDrain : Cond.selects yX6_setDrain.cls yX6_setDrain yX6_setDrain ∈ ml_all := ml_tb 1024 (by decide +kernel) rfl
theorem mlL_35 : Cond.methodLink RL 35 yX6_setDrain ∈ ml_all := ml_tb 1022 (by decide +kernel) rfl
theorem wcX6_advance : ml_wc yX6_advance cX6_advance 2 (some .int) := ⟨ml_tb 1032 (by decide +kernel) rfl, ml_tb 1 (by decide +kernel) rfl, by decide⟩
theorem wdX6_advance : ml_wd yX6_advance 1 := ⟨by decide +kernel, by decide +kernel, by decide +kernel⟩
theorem imX6_advance : Cond.instanceMethod yX6_advance ∈ ml_all := ml_tb 1030 (by decide +kernel) rfl
theorem seX6_advance : Cond.selects yX6_advance.cls yX6_advance yX6_advance ∈ ml_all := ml_tb 1031 (by decide +kernel) rfl
theorem mlL_38 : Cond.methodLink RL 38 yX6_advance ∈ ml_all := ml_tb 1029 (by decide +kernel) rfl
theorem wcX6_area : ml_wc yX6_area cX6_area 2 (some .int) := ⟨ml_tb 1039 (by decide +kernel) rfl, ml_tb 1 (by decide +kernel) rfl, by decide⟩
theorem wdX6_area : ml_wd yX6_area 1 := ⟨by decide +kernel, by decide +kernel, by decide +kernel⟩
theorem imX6_area : Cond.instanceMethod yX6_area ∈ ml_all := ml_tb 1037 (by decide +kernel) rfl
theorem seX6_area : Cond.selects yX6_area.cls yX6_area yX6_area ∈ ml_all := ml_tb 1038 (by decide +kernel) rfl
theorem mlL_41 : Cond.methodLink RL 41 yX6_area ∈ ml_all := ml_tb 1036 (by decide +kernel) rfl
theorem wcX6_volume : ml_wc yX6_volume cX6_volume 2 (some .int) := ⟨ml_tb 1051 (by decide +kernel) rfl, ml_tb 1 (by decide +kernel) rfl, by decide⟩
theorem wdX6_volume : ml_wd yX6_volume 1 := ⟨by decide +kernel, by decide +kernel, by decide +kernel⟩
theorem imX6_volume : Cond.instanceMethod yX6_volume ∈ ml_all := ml_tb 1049 (by decide +kernel) rfl
theorem seX6_volume : Cond.selects yX6_volume.cls yX6_volume yX6_volume ∈ ml_all := ml_tb 1050 (by decide +kernel) rfl
theorem mlL_44 : Cond.methodLink RL 44 yX6_volume ∈ ml_all := ml_tb 1048 (by decide +kernel) rfl
theorem wcX6_level : ml_wc yX6_level cX6_level 2 (some .int) := ⟨ml_tb 1058 (by decide +kernel) rfl, ml_tb 1 (by decide +kernel) rfl, by decide⟩
theorem wdX6_level : ml_wd yX6_level 1 := ⟨by decide +kernel, by decide +kernel, by decide +kernel⟩
theorem imX6_level : Cond.instanceMethod yX6_level ∈ ml_all := ml_tb 1056 (by decide +kernel) rfl
theorem seX6_level : Cond.selects yX6_level.cls yX6_level yX6_level ∈ ml_all := ml_tb 1057 (by decide +kernel) rfl
theorem mlL_47 : Cond.methodLink RL 47 yX6_level ∈ ml_all := ml_tb 1055 (by decide +kernel) rfl
theorem wcX6_exactLevel : ml_wc yX6_exactLevel cX6_exactLevel 2 (some .double) := ⟨ml_tb 1065 (by decide +kernel) rfl, ml_tb 1 (by decide +kernel) rfl, by decide⟩
theorem wdX6_exactLevel : ml_wd yX6_exactLevel 1 := ⟨by decide +kernel, by decide +kernel, by decide +kernel⟩
theorem imX6_exactLevel : Cond.instanceMethod yX6_exactLevel ∈ ml_all := ml_tb 1063 (by decide +kernel) rfl
theorem seX6_exactLevel : Cond.selects yX6_exactLevel.cls yX6_exactLevel yX6_exactLevel ∈ ml_all := ml_tb 1064 (by decide +kernel) rfl
theorem mlL_50 : Cond.methodLink RL 50 yX6_exactLevel ∈ ml_all := ml_tb 1062 (by decide +kernel) rfl
theorem wcX6_isHigher : ml_wc yX6_isHigher cX6_isHigher 3 (some .boolean) := ⟨ml_tb 1072 (by decide +kernel) rfl, ml_tb 1 (by decide +kernel) rfl, by decide⟩
theorem wdX6_isHigher : ml_wd yX6_isHigher 2 := ⟨by decide +kernel, by decide +kernel, by decide +kernel⟩
theorem imX6_isHigher : Cond.instanceMethod yX6_isHigher ∈ ml_all := ml_tb 1070 (by decide +kernel) rfl
theorem seX6_isHigher : Cond.selects yX6_isHigher.cls yX6_isHigher yX6_isHigher ∈ ml_all := ml_tb 1071 (by decide +kernel) rfl
theorem mlL_54 : Cond.methodLink RL 54 yX6_isHigher ∈ ml_all := ml_tb 1069 (by decide +kernel) rfl
theorem wcX6_equalizingAmount : ml_wc yX6_equalizingAmount cX6_equalizingAmount 2 (some .int) := ⟨ml_tb 1080 (by decide +kernel) rfl, ml_tb 1 (by decide +kernel) rfl, by decide⟩
theorem wdX6_equalizingAmount : ml_wd yX6_equalizingAmount 1 := ⟨by decide +kernel, by decide +kernel, by decide +kernel⟩
theorem imX6_equalizingAmount : Cond.instanceMethod yX6_equalizingAmount ∈ ml_all := ml_tb 1078 (by decide +kernel) rfl
theorem seX6_equalizingAmount : Cond.selects yX6_equalizingAmount.cls yX6_equalizingAmount yX6_equalizingAmount ∈ ml_all := ml_tb 1079 (by decide +kernel) rfl
theorem mlL_58 : Cond.methodLink RL 58 yX6_equalizingAmount ∈ ml_all := ml_tb 1077 (by decide +kernel) rfl
theorem wcX6_equalizingAmountByLitres : ml_wc yX6_equalizingAmountByLitres cX6_equalizingAmountByLitres 2 (some .int) := ⟨ml_tb 1092 (by decide +kernel) rfl, ml_tb 1 (by decide +kernel) rfl, by decide⟩
theorem wdX6_equalizingAmountByLitres : ml_wd yX6_equalizingAmountByLitres 1 := ⟨by decide +kernel, by decide +kernel, by decide +kernel⟩
theorem imX6_equalizingAmountByLitres : Cond.instanceMethod yX6_equalizingAmountByLitres ∈ ml_all := ml_tb 1090 (by decide +kernel) rfl
theorem seX6_equalizingAmountByLitres : Cond.selects yX6_equalizingAmountByLitres.cls yX6_equalizingAmountByLitres yX6_equalizingAmountByLitres ∈ ml_all := ml_tb 1091 (by decide +kernel) rfl
theorem mlL_61 : Cond.methodLink RL 61 yX6_equalizingAmountByLitres ∈ ml_all := ml_tb 1089 (by decide +kernel) rfl
theorem wcX6_opening : ml_wc yX6_opening cX6_opening 2 (some .int) := ⟨ml_tb 1100 (by decide +kernel) rfl, ml_tb 1 (by decide +kernel) rfl, by decide⟩
theorem wdX6_opening : ml_wd yX6_opening 1 := ⟨by decide +kernel, by decide +kernel, by decide +kernel⟩
theorem imX6_opening : Cond.instanceMethod yX6_opening ∈ ml_all := ml_tb 1098 (by decide +kernel) rfl
theorem seX6_opening : Cond.selects yX6_opening.cls yX6_opening yX6_opening ∈ ml_all := ml_tb 1099 (by decide +kernel) rfl
theorem mlL_64 : Cond.methodLink RL 64 yX6_opening ∈ ml_all := ml_tb 1097 (by decide +kernel) rfl
theorem wcX6_isOpen : ml_wc yX6_isOpen cX6_isOpen 2 (some .boolean) := ⟨ml_tb 1107 (by decide +kernel) rfl, ml_tb 1 (by decide +kernel) rfl, by decide⟩
theorem wdX6_isOpen : ml_wd yX6_isOpen 1 := ⟨by decide +kernel, by decide +kernel, by decide +kernel⟩
theorem imX6_isOpen : Cond.instanceMethod yX6_isOpen ∈ ml_all := ml_tb 1105 (by decide +kernel) rfl
theorem seX6_isOpen : Cond.selects yX6_isOpen.cls yX6_isOpen yX6_isOpen ∈ ml_all := ml_tb 1106 (by decide +kernel) rfl
theorem mlL_67 : Cond.methodLink RL 67 yX6_isOpen ∈ ml_all := ml_tb 1104 (by decide +kernel) rfl
theorem wcX6_flow : ml_wc yX6_flow cX6_flow 2 (some .int) := ⟨ml_tb 1114 (by decide +kernel) rfl, ml_tb 1 (by decide +kernel) rfl, by decide⟩
theorem wdX6_flow : ml_wd yX6_flow 1 := ⟨by decide +kernel, by decide +kernel, by decide +kernel⟩
theorem imX6_flow : Cond.instanceMethod yX6_flow ∈ ml_all := ml_tb 1112 (by decide +kernel) rfl
theorem seX6_flow : Cond.selects yX6_flow.cls yX6_flow yX6_flow ∈ ml_all := ml_tb 1113 (by decide +kernel) rfl
theorem mlL_71 : Cond.methodLink RL 71 yX6_flow ∈ ml_all := ml_tb 1111 (by decide +kernel) rfl
theorem wcX6_basinByLevel : ml_wc yX6_basinByLevel cX6_basinByLevel 3 (some .int) := ⟨ml_tb 1123 (by decide +kernel) rfl, ml_tb 1 (by decide +kernel) rfl, by decide⟩
theorem wdX6_basinByLevel : ml_wd yX6_basinByLevel 1 := ⟨by decide +kernel, by decide +kernel, by decide +kernel⟩
theorem imX6_basinByLevel : Cond.instanceMethod yX6_basinByLevel ∈ ml_all := ml_tb 1121 (by decide +kernel) rfl
theorem seX6_basinByLevel : Cond.selects yX6_basinByLevel.cls yX6_basinByLevel yX6_basinByLevel ∈ ml_all := ml_tb 1122 (by decide +kernel) rfl
theorem mlL_74 : Cond.methodLink RL 74 yX6_basinByLevel ∈ ml_all := ml_tb 1120 (by decide +kernel) rfl
theorem wcX6_colour : ml_wc yX6_colour cX6_colour 2 (some .char) := ⟨ml_tb 1150 (by decide +kernel) rfl, ml_tb 1 (by decide +kernel) rfl, by decide⟩
theorem wdX6_colour : ml_wd yX6_colour 1 := ⟨by decide +kernel, by decide +kernel, by decide +kernel⟩
theorem imX6_colour : Cond.instanceMethod yX6_colour ∈ ml_all := ml_tb 1148 (by decide +kernel) rfl
theorem seX6_colour : Cond.selects yX6_colour.cls yX6_colour yX6_colour ∈ ml_all := ml_tb 1149 (by decide +kernel) rfl
theorem mlL_79 : Cond.methodLink RL 79 yX6_colour ∈ ml_all := ml_tb 1147 (by decide +kernel) rfl
theorem wcX6_draught : ml_wc yX6_draught cX6_draught 2 (some .int) := ⟨ml_tb 1167 (by decide +kernel) rfl, ml_tb 1 (by decide +kernel) rfl, by decide⟩
theorem wdX6_draught : ml_wd yX6_draught 1 := ⟨by decide +kernel, by decide +kernel, by decide +kernel⟩
theorem imX6_draught : Cond.instanceMethod yX6_draught ∈ ml_all := ml_tb 1165 (by decide +kernel) rfl
theorem seX6_draught : Cond.selects yX6_draught.cls yX6_draught yX6_draught ∈ ml_all := ml_tb 1166 (by decide +kernel) rfl
theorem mlL_83 : Cond.methodLink RL 83 yX6_draught ∈ ml_all := ml_tb 1164 (by decide +kernel) rfl
theorem wcX6_isGoingDown : ml_wc yX6_isGoingDown cX6_isGoingDown 2 (some .boolean) := ⟨ml_tb 1174 (by decide +kernel) rfl, ml_tb 1 (by decide +kernel) rfl, by decide⟩
theorem wdX6_isGoingDown : ml_wd yX6_isGoingDown 1 := ⟨by decide +kernel, by decide +kernel, by decide +kernel⟩
theorem imX6_isGoingDown : Cond.instanceMethod yX6_isGoingDown ∈ ml_all := ml_tb 1172 (by decide +kernel) rfl
theorem seX6_isGoingDown : Cond.selects yX6_isGoingDown.cls yX6_isGoingDown yX6_isGoingDown ∈ ml_all := ml_tb 1173 (by decide +kernel) rfl
theorem mlL_86 : Cond.methodLink RL 86 yX6_isGoingDown ∈ ml_all := ml_tb 1171 (by decide +kernel) rfl
theorem wcX6_basinOf : ml_wc yX6_basinOf cX6_basinOf 2 (some .int) := ⟨ml_tb 1181 (by decide +kernel) rfl, ml_tb 1 (by decide +kernel) rfl, by decide⟩
theorem wdX6_basinOf : ml_wd yX6_basinOf 1 := ⟨by decide +kernel, by decide +kernel, by decide +kernel⟩
theorem imX6_basinOf : Cond.instanceMethod yX6_basinOf ∈ ml_all := ml_tb 1179 (by decide +kernel) rfl
theorem seX6_basinOf : Cond.selects yX6_basinOf.cls yX6_basinOf yX6_basinOf ∈ ml_all := ml_tb 1180 (by decide +kernel) rfl
theorem mlL_89 : Cond.methodLink RL 89 yX6_basinOf ∈ ml_all := ml_tb 1178 (by decide +kernel) rfl
theorem wcX6_boatsIn : ml_wc yX6_boatsIn cX6_boatsIn 2 (some .int) := ⟨ml_tb 1188 (by decide +kernel) rfl, ml_tb 1 (by decide +kernel) rfl, by decide⟩
theorem wdX6_boatsIn : ml_wd yX6_boatsIn 1 := ⟨by decide +kernel, by decide +kernel, by decide +kernel⟩
theorem imX6_boatsIn : Cond.instanceMethod yX6_boatsIn ∈ ml_all := ml_tb 1186 (by decide +kernel) rfl
theorem seX6_boatsIn : Cond.selects yX6_boatsIn.cls yX6_boatsIn yX6_boatsIn ∈ ml_all := ml_tb 1187 (by decide +kernel) rfl
theorem mlL_92 : Cond.methodLink RL 92 yX6_boatsIn ∈ ml_all := ml_tb 1185 (by decide +kernel) rfl
theorem wcX6_boatInOrder : ml_wc yX6_boatInOrder cX6_boatInOrder 3 (some .int) := ⟨ml_tb 1196 (by decide +kernel) rfl, ml_tb 1 (by decide +kernel) rfl, by decide⟩
theorem wdX6_boatInOrder : ml_wd yX6_boatInOrder 1 := ⟨by decide +kernel, by decide +kernel, by decide +kernel⟩
theorem imX6_boatInOrder : Cond.instanceMethod yX6_boatInOrder ∈ ml_all := ml_tb 1194 (by decide +kernel) rfl
theorem seX6_boatInOrder : Cond.selects yX6_boatInOrder.cls yX6_boatInOrder yX6_boatInOrder ∈ ml_all := ml_tb 1195 (by decide +kernel) rfl
theorem mlL_95 : Cond.methodLink RL 95 yX6_boatInOrder ∈ ml_all := ml_tb 1193 (by decide +kernel) rfl
theorem wcX6_floats : ml_wc yX6_floats cX6_floats 3 (some .boolean) := ⟨ml_tb 1207 (by decide +kernel) rfl, ml_tb 1 (by decide +kernel) rfl, by decide⟩
theorem wdX6_floats : ml_wd yX6_floats 2 := ⟨by decide +kernel, by decide +kernel, by decide +kernel⟩
theorem imX6_floats : Cond.instanceMethod yX6_floats ∈ ml_all := ml_tb 1205 (by decide +kernel) rfl
theorem seX6_floats : Cond.selects yX6_floats.cls yX6_floats yX6_floats ∈ ml_all := ml_tb 1206 (by decide +kernel) rfl
theorem mlL_98 : Cond.methodLink RL 98 yX6_floats ∈ ml_all := ml_tb 1204 (by decide +kernel) rfl
theorem wcX6_leftTotal : ml_wc yX6_leftTotal cX6_leftTotal 3 (some .int) := ⟨ml_tb 1215 (by decide +kernel) rfl, ml_tb 1 (by decide +kernel) rfl, by decide⟩
theorem wdX6_leftTotal : ml_wd yX6_leftTotal 1 := ⟨by decide +kernel, by decide +kernel, by decide +kernel⟩
theorem imX6_leftTotal : Cond.instanceMethod yX6_leftTotal ∈ ml_all := ml_tb 1213 (by decide +kernel) rfl
theorem seX6_leftTotal : Cond.selects yX6_leftTotal.cls yX6_leftTotal yX6_leftTotal ∈ ml_all := ml_tb 1214 (by decide +kernel) rfl
theorem mlL_101 : Cond.methodLink RL 101 yX6_leftTotal ∈ ml_all := ml_tb 1212 (by decide +kernel) rfl
theorem wcX6_minutesUntilLeaving : ml_wc yX6_minutesUntilLeaving cX6_minutesUntilLeaving 4 (some .int) := ⟨ml_tb 1224 (by decide +kernel) rfl, ml_tb 1 (by decide +kernel) rfl, by decide⟩
theorem wdX6_minutesUntilLeaving : ml_wd yX6_minutesUntilLeaving 1 := ⟨by decide +kernel, by decide +kernel, by decide +kernel⟩
theorem imX6_minutesUntilLeaving : Cond.instanceMethod yX6_minutesUntilLeaving ∈ ml_all := ml_tb 1222 (by decide +kernel) rfl
theorem seX6_minutesUntilLeaving : Cond.selects yX6_minutesUntilLeaving.cls yX6_minutesUntilLeaving yX6_minutesUntilLeaving ∈ ml_all := ml_tb 1223 (by decide +kernel) rfl
theorem mlL_105 : Cond.methodLink RL 105 yX6_minutesUntilLeaving ∈ ml_all := ml_tb 1221 (by decide +kernel) rfl
theorem wcX6_minutesUntilEqual : ml_wc yX6_minutesUntilEqual cX6_minutesUntilEqual 3 (some .int) := ⟨ml_tb 1237 (by decide +kernel) rfl, ml_tb 1 (by decide +kernel) rfl, by decide⟩
theorem wdX6_minutesUntilEqual : ml_wd yX6_minutesUntilEqual 1 := ⟨by decide +kernel, by decide +kernel, by decide +kernel⟩
theorem imX6_minutesUntilEqual : Cond.instanceMethod yX6_minutesUntilEqual ∈ ml_all := ml_tb 1235 (by decide +kernel) rfl
theorem seX6_minutesUntilEqual : Cond.selects yX6_minutesUntilEqual.cls yX6_minutesUntilEqual yX6_minutesUntilEqual ∈ ml_all := ml_tb 1236 (by decide +kernel) rfl
theorem mlL_108 : Cond.methodLink RL 108 yX6_minutesUntilEqual ∈ ml_all := ml_tb 1234 (by decide +kernel) rfl
theorem wcX6_volumeAfter : ml_wc yX6_volumeAfter cX6_volumeAfter 3 (some .int) := ⟨ml_tb 1245 (by decide +kernel) rfl, ml_tb 1 (by decide +kernel) rfl, by decide⟩
theorem wdX6_volumeAfter : ml_wd yX6_volumeAfter 2 := ⟨by decide +kernel, by decide +kernel, by decide +kernel⟩
theorem imX6_volumeAfter : Cond.instanceMethod yX6_volumeAfter ∈ ml_all := ml_tb 1243 (by decide +kernel) rfl
theorem seX6_volumeAfter : Cond.selects yX6_volumeAfter.cls yX6_volumeAfter yX6_volumeAfter ∈ ml_all := ml_tb 1244 (by decide +kernel) rfl
theorem mlL_111 : Cond.methodLink RL 111 yX6_volumeAfter ∈ ml_all := ml_tb 1242 (by decide +kernel) rfl
theorem wcX6_eventKind : ml_wc yX6_eventKind cX6_eventKind 2 (some .char) := ⟨ml_tb 1253 (by decide +kernel) rfl, ml_tb 1 (by decide +kernel) rfl, by decide⟩
theorem wdX6_eventKind : ml_wd yX6_eventKind 1 := ⟨by decide +kernel, by decide +kernel, by decide +kernel⟩
theorem imX6_eventKind : Cond.instanceMethod yX6_eventKind ∈ ml_all := ml_tb 1251 (by decide +kernel) rfl
theorem seX6_eventKind : Cond.selects yX6_eventKind.cls yX6_eventKind yX6_eventKind ∈ ml_all := ml_tb 1252 (by decide +kernel) rfl
theorem mlL_114 : Cond.methodLink RL 114 yX6_eventKind ∈ ml_all := ml_tb 1250 (by decide +kernel) rfl
theorem wcX6_eventNumber : ml_wc yX6_eventNumber cX6_eventNumber 2 (some .int) := ⟨ml_tb 1272 (by decide +kernel) rfl, ml_tb 1 (by decide +kernel) rfl, by decide⟩
theorem wdX6_eventNumber : ml_wd yX6_eventNumber 1 := ⟨by decide +kernel, by decide +kernel, by decide +kernel⟩
theorem imX6_eventNumber : Cond.instanceMethod yX6_eventNumber ∈ ml_all := ml_tb 1270 (by decide +kernel) rfl
theorem seX6_eventNumber : Cond.selects yX6_eventNumber.cls yX6_eventNumber yX6_eventNumber ∈ ml_all := ml_tb 1271 (by decide +kernel) rfl
theorem mlL_117 : Cond.methodLink RL 117 yX6_eventNumber ∈ ml_all := ml_tb 1269 (by decide +kernel) rfl
theorem wcX6_renderBoat : ml_wc yX6_renderBoat cX6_renderBoat 2 (some .int) := ⟨ml_tb 1279 (by decide +kernel) rfl, ml_tb 1 (by decide +kernel) rfl, by decide⟩
theorem wdX6_renderBoat : ml_wd yX6_renderBoat 1 := ⟨by decide +kernel, by decide +kernel, by decide +kernel⟩
theorem imX6_renderBoat : Cond.instanceMethod yX6_renderBoat ∈ ml_all := ml_tb 1277 (by decide +kernel) rfl
theorem seX6_renderBoat : Cond.selects yX6_renderBoat.cls yX6_renderBoat yX6_renderBoat ∈ ml_all := ml_tb 1278 (by decide +kernel) rfl
theorem mlL_120 : Cond.methodLink RL 120 yX6_renderBoat ∈ ml_all := ml_tb 1276 (by decide +kernel) rfl
theorem wcX6_outputAt : ml_wc yX6_outputAt cX6_outputAt 2 (some .char) := ⟨ml_tb 1286 (by decide +kernel) rfl, ml_tb 1 (by decide +kernel) rfl, by decide⟩
theorem wdX6_outputAt : ml_wd yX6_outputAt 1 := ⟨by decide +kernel, by decide +kernel, by decide +kernel⟩
theorem imX6_outputAt : Cond.instanceMethod yX6_outputAt ∈ ml_all := ml_tb 1284 (by decide +kernel) rfl
theorem seX6_outputAt : Cond.selects yX6_outputAt.cls yX6_outputAt yX6_outputAt ∈ ml_all := ml_tb 1285 (by decide +kernel) rfl
theorem mlL_123 : Cond.methodLink RL 123 yX6_outputAt ∈ ml_all := ml_tb 1283 (by decide +kernel) rfl
theorem wcX6_type : ml_wc yX6_type cX6_type 2 (some .int) := ⟨ml_tb 1304 (by decide +kernel) rfl, ml_tb 1 (by decide +kernel) rfl, by decide⟩
theorem wdX6_type : ml_wd yX6_type 1 := ⟨by decide +kernel, by decide +kernel, by decide +kernel⟩
theorem imX6_type : Cond.instanceMethod yX6_type ∈ ml_all := ml_tb 1302 (by decide +kernel) rfl
theorem seX6_type : Cond.selects yX6_type.cls yX6_type yX6_type ∈ ml_all := ml_tb 1303 (by decide +kernel) rfl
theorem mlL_126 : Cond.methodLink RL 126 yX6_type ∈ ml_all := ml_tb 1301 (by decide +kernel) rfl
theorem wcX6_runScript : ml_wc yX6_runScript cX6_runScript 6 (some .int) := ⟨ml_tb 1313 (by decide +kernel) rfl, ml_tb 1 (by decide +kernel) rfl, by decide⟩
theorem wdX6_runScript : ml_wd yX6_runScript 0 := ⟨by decide +kernel, by decide +kernel, by decide +kernel⟩
theorem imX6_runScript : Cond.instanceMethod yX6_runScript ∈ ml_all := ml_tb 1311 (by decide +kernel) rfl
theorem seX6_runScript : Cond.selects yX6_runScript.cls yX6_runScript yX6_runScript ∈ ml_all := ml_tb 1312 (by decide +kernel) rfl
theorem mlL_129 : Cond.methodLink RL 129 yX6_runScript ∈ ml_all := ml_tb 1310 (by decide +kernel) rfl
theorem wcX6_errorPosition : ml_wc yX6_errorPosition cX6_errorPosition 1 (some .int) := ⟨ml_tb 1428 (by decide +kernel) rfl, ml_tb 1 (by decide +kernel) rfl, by decide⟩
theorem wdX6_errorPosition : ml_wd yX6_errorPosition 0 := ⟨by decide +kernel, by decide +kernel, by decide +kernel⟩
theorem imX6_errorPosition : Cond.instanceMethod yX6_errorPosition ∈ ml_all := ml_tb 1426 (by decide +kernel) rfl
theorem seX6_errorPosition : Cond.selects yX6_errorPosition.cls yX6_errorPosition yX6_errorPosition ∈ ml_all := ml_tb 1427 (by decide +kernel) rfl
theorem mlL_133 : Cond.methodLink RL 133 yX6_errorPosition ∈ ml_all := ml_tb 1425 (by decide +kernel) rfl
theorem wcX6_failedCommand : ml_wc yX6_failedCommand cX6_failedCommand 1 (some .int) := ⟨ml_tb 1436 (by decide +kernel) rfl, ml_tb 1 (by decide +kernel) rfl, by decide⟩
theorem wdX6_failedCommand : ml_wd yX6_failedCommand 0 := ⟨by decide +kernel, by decide +kernel, by decide +kernel⟩
theorem imX6_failedCommand : Cond.instanceMethod yX6_failedCommand ∈ ml_all := ml_tb 1434 (by decide +kernel) rfl
theorem seX6_failedCommand : Cond.selects yX6_failedCommand.cls yX6_failedCommand yX6_failedCommand ∈ ml_all := ml_tb 1435 (by decide +kernel) rfl
theorem mlL_136 : Cond.methodLink RL 136 yX6_failedCommand ∈ ml_all := ml_tb 1433 (by decide +kernel) rfl
theorem wcX6_undo : ml_wc yX6_undo cX6_undo 1 (some .int) := ⟨ml_tb 1444 (by decide +kernel) rfl, ml_tb 1 (by decide +kernel) rfl, by decide⟩
theorem wdX6_undo : ml_wd yX6_undo 0 := ⟨by decide +kernel, by decide +kernel, by decide +kernel⟩
theorem imX6_undo : Cond.instanceMethod yX6_undo ∈ ml_all := ml_tb 1442 (by decide +kernel) rfl
theorem seX6_undo : Cond.selects yX6_undo.cls yX6_undo yX6_undo ∈ ml_all := ml_tb 1443 (by decide +kernel) rfl
theorem mlL_139 : Cond.methodLink RL 139 yX6_undo ∈ ml_all := ml_tb 1441 (by decide +kernel) rfl
theorem wcX6_restore : ml_wc yX6_restore cX6_restore 1 (some .int) := ⟨ml_tb 1456 (by decide +kernel) rfl, ml_tb 1 (by decide +kernel) rfl, by decide⟩
theorem wdX6_restore : ml_wd yX6_restore 0 := ⟨by decide +kernel, by decide +kernel, by decide +kernel⟩
theorem imX6_restore : Cond.instanceMethod yX6_restore ∈ ml_all := ml_tb 1454 (by decide +kernel) rfl
theorem seX6_restore : Cond.selects yX6_restore.cls yX6_restore yX6_restore ∈ ml_all := ml_tb 1455 (by decide +kernel) rfl
theorem mlL_142 : Cond.methodLink RL 142 yX6_restore ∈ ml_all := ml_tb 1453 (by decide +kernel) rfl
/-- a wrapper: what the class answers or throws, as a number and an answer's place -/
def lw_wr (pf : Int32 → ml_M → ml_M) (cat : Nat → Int32) (x : Option ml_R) : Option ml_R := match x with
  | none => none
  | some (.inl r, M) => some (.inl 0, pf r M)
  | some (.inr e, M) => if cat e = 0 then none else some (.inl (cat e), M)
theorem lw_wr_k {pf : Int32 → ml_M → ml_M} {cat : Nat → Int32} {x : Option ml_R} {res : ml_R} (h : lw_wr pf cat x = some res) : ∃ rs, x = some rs ∧ (∀ r9, rs.1 = .inl r9 → ((Sum.inl 0, pf r9 rs.2) : ml_R) = res) ∧ ∀ e9, rs.1 = .inr e9 → cat e9 ≠ 0 ∧ ((Sum.inl (cat e9), rs.2) : ml_R) = res := by
  match x, h with
  | some (.inl r, M1), h => exact ⟨_, rfl, fun r9 h9 => (by cases h9; exact Option.some.inj h), fun e9 h9 => (by cases h9)⟩
  | some (.inr e, M1), h =>
    have h : (if cat e = 0 then none else some ((Sum.inl (cat e), M1) : ml_R)) = some res := h
    by_cases hc : cat e = 0
    · rw [if_pos hc] at h; cases h
    · rw [if_neg hc] at h
      exact ⟨_, rfl, fun r9 h9 => (by cases h9), fun e9 h9 => (by cases h9; exact ⟨hc, Option.some.inj h⟩)⟩
def lw_pi (r : Int32) (M : ml_M) : ml_M := ml_w M 181 0 r
def lw_pz (r : Int32) (M : ml_M) : ml_M := ml_w M 181 0 (if r = 0 then 0 else 1)
def lw_pd (_ : Int32) (M : ml_M) : ml_M := ml_w (ml_w M 182 0 (M 200 0)) 182 1 (M 200 1)
def fL_addBoat (a0 : Int32) (a1 : Int32) (a2 : Int32) (M : ml_M) : Option ml_R := lw_wr lw_pi (fun e => if e = 2 then 1 else if e = 3 then 2 else 0) (fX6_addBoat a0 a1 a2 M)
set_option maxHeartbeats 4000000 in
set_option maxRecDepth 100000 in
theorem fL_addBoat_c (a0 : Int32) (a1 : Int32) (a2 : Int32) (M : ml_M) (res : ml_R) {g : ml_G} (hst : g.2.2.2.2.2.stackTraces = false) (h : fL_addBoat a0 a1 a2 M = some res) : ml_CW yL_addBoat cL_addBoat 6 (some .int) [(0, 12, 15, 13), (0, 12, 19, 15)] 8 1 6 g (fun r _ => some (.int r)) [ml_rf g 0, .int a0, .int a1, .int a2, ml_rf g 181] M res := by
  refine ml_ofW [(0, ml_rf g 0), (1, .int a0), (2, .int a1), (3, .int a2), (4, ml_rf g 181)] hst (by decide) (Nat.le_of_ble_eq_true rfl) rfl (fun E F => ?_)
  unfold fL_addBoat at h
  obtain ⟨rs, hx, hr, hxx⟩ := lw_wr_k h
  refine ml_aload (q := 4) F dL_addBoat_0 rfl ?_
  refine ml_iconst (v := 0) F dL_addBoat_2 (by decide) ?_
  refine ml_aload_n (q := 0) F dL_addBoat_3 rfl rfl ?_
  refine ml_iload_n (q := 1) F dL_addBoat_4 rfl rfl ?_
  refine ml_iload_n (q := 2) F dL_addBoat_5 rfl rfl ?_
  refine ml_iload_n (q := 3) F dL_addBoat_6 rfl rfl ?_
  refine ml_callVC (rs := rs) (av := [.int a0, .int a1, .int a2]) (vl2 := (fun r _ => some (.int r))) (st := [.int 0, ml_rf g 181]) (kb := 0) (ci := 10) (T := TX6) (N := 9) F (pc0 g) rfl (fX6_addBoat_c a0 a1 a2 M rs hst hx) wcX6_addBoat mlL_7 wdX6_addBoat (by decide) (by decide) (by decide) rfl seX6_addBoat imX6_addBoat rfl (Nat.le_of_ble_eq_true rfl) dL_addBoat_7 (fun r9 h9 => ?_) (fun e9 h9 => ?_)
  · have h := hr r9 h9
    refine ml_i2l F dL_addBoat_10 ?_
    refine ml_last (x := r9) F rfl dL_addBoat_11 ?_
    refine ml_goto (tgt := 23) F dL_addBoat_12 (by decide) ?_
    refine ml_iconst (v := 0) F dL_addBoat_23 (by decide) ?_
    exact ml_iret (st := []) F h rfl rfl rfl (by decide) (by decide) dL_addBoat_24
  · obtain ⟨hc, h⟩ := hxx e9 h9
    have hc2 : e9 = 2 ∨ e9 = 3 := by
      by_cases h0 : e9 = 2
      · exact Or.inl h0
      · skip
        by_cases h1 : e9 = 3
        · exact Or.inr h1
        · exact absurd (by simp [h0, h1]) hc
    rcases hc2 with rfl | rfl
    · refine ⟨15, ⟨[], ⟨0, 12, 15, 13⟩, [⟨0, 12, 19, 15⟩], rfl, (fun z hz => by cases hz), by decide, by decide, ml_tb 798 (by decide +kernel) rfl, by decide, rfl⟩, fun q => ?_⟩
      refine ml_astore (ls2 := [(5, .ref q), (0, ml_rf g 0), (1, .int a0), (2, .int a1), (3, .int a2), (4, ml_rf g 181)]) F dL_addBoat_15 (by decide) rfl ?_
      refine ml_iconst (v := 1) F dL_addBoat_17 (by decide) ?_
      exact ml_iret (st := []) F h rfl rfl rfl (by decide) (by decide) dL_addBoat_18
    · refine ⟨19, ⟨[⟨0, 12, 15, 13⟩], ⟨0, 12, 19, 15⟩, [], rfl, (fun z hz => by rcases List.mem_cons.mp hz with rfl | hz; exact Or.inr ⟨by decide, "java/lang/IllegalArgumentException", ml_tb 798 (by decide +kernel) rfl, by decide⟩; cases hz), by decide, by decide, ml_tb 799 (by decide +kernel) rfl, by decide, rfl⟩, fun q => ?_⟩
      refine ml_astore (ls2 := [(5, .ref q), (0, ml_rf g 0), (1, .int a0), (2, .int a1), (3, .int a2), (4, ml_rf g 181)]) F dL_addBoat_19 (by decide) rfl ?_
      refine ml_iconst (v := 2) F dL_addBoat_21 (by decide) ?_
      exact ml_iret (st := []) F h rfl rfl rfl (by decide) (by decide) dL_addBoat_22
def fL_setValve (a0 : Int32) (a1 : Int32) (M : ml_M) : Option ml_R := lw_wr lw_pi (fun e => if e = 1 then 1 else if e = 2 then 2 else 0) (fX6_setValve a0 a1 M)
set_option maxHeartbeats 4000000 in
set_option maxRecDepth 100000 in
theorem fL_setValve_c (a0 : Int32) (a1 : Int32) (M : ml_M) (res : ml_R) {g : ml_G} (hst : g.2.2.2.2.2.stackTraces = false) (h : fL_setValve a0 a1 M = some res) : ml_CW yL_setValve cL_setValve 5 (some .int) [(0, 10, 13, 21), (0, 10, 17, 13)] 8 1 6 g (fun r _ => some (.int r)) [ml_rf g 0, .int a0, .int a1, ml_rf g 181] M res := by
  refine ml_ofW [(0, ml_rf g 0), (1, .int a0), (2, .int a1), (3, ml_rf g 181)] hst (by decide) (Nat.le_of_ble_eq_true rfl) rfl (fun E F => ?_)
  unfold fL_setValve at h
  obtain ⟨rs, hx, hr, hxx⟩ := lw_wr_k h
  refine ml_aload_n (q := 3) F dL_setValve_0 rfl rfl ?_
  refine ml_iconst (v := 0) F dL_setValve_1 (by decide) ?_
  refine ml_aload_n (q := 0) F dL_setValve_2 rfl rfl ?_
  refine ml_iload_n (q := 1) F dL_setValve_3 rfl rfl ?_
  refine ml_iload_n (q := 2) F dL_setValve_4 rfl rfl ?_
  refine ml_callVC (rs := rs) (av := [.int a0, .int a1]) (vl2 := (fun r _ => some (.int r))) (st := [.int 0, ml_rf g 181]) (kb := 0) (ci := 10) (T := TX6) (N := 9) F (pc0 g) rfl (fX6_setValve_c a0 a1 M rs hst hx) wcX6_setValve mlL_17 wdX6_setValve (by decide) (by decide) (by decide) rfl seX6_setValve imX6_setValve rfl (Nat.le_of_ble_eq_true rfl) dL_setValve_5 (fun r9 h9 => ?_) (fun e9 h9 => ?_)
  · have h := hr r9 h9
    refine ml_i2l F dL_setValve_8 ?_
    refine ml_last (x := r9) F rfl dL_setValve_9 ?_
    refine ml_goto (tgt := 21) F dL_setValve_10 (by decide) ?_
    refine ml_iconst (v := 0) F dL_setValve_21 (by decide) ?_
    exact ml_iret (st := []) F h rfl rfl rfl (by decide) (by decide) dL_setValve_22
  · obtain ⟨hc, h⟩ := hxx e9 h9
    have hc2 : e9 = 1 ∨ e9 = 2 := by
      by_cases h0 : e9 = 1
      · exact Or.inl h0
      · skip
        by_cases h1 : e9 = 2
        · exact Or.inr h1
        · exact absurd (by simp [h0, h1]) hc
    rcases hc2 with rfl | rfl
    · refine ⟨13, ⟨[], ⟨0, 10, 13, 21⟩, [⟨0, 10, 17, 13⟩], rfl, (fun z hz => by cases hz), by decide, by decide, ml_tb 992 (by decide +kernel) rfl, by decide, rfl⟩, fun q => ?_⟩
      refine ml_astore (ls2 := [(4, .ref q), (0, ml_rf g 0), (1, .int a0), (2, .int a1), (3, ml_rf g 181)]) F dL_setValve_13 (by decide) rfl ?_
      refine ml_iconst (v := 1) F dL_setValve_15 (by decide) ?_
      exact ml_iret (st := []) F h rfl rfl rfl (by decide) (by decide) dL_setValve_16
    · refine ⟨17, ⟨[⟨0, 10, 13, 21⟩], ⟨0, 10, 17, 13⟩, [], rfl, (fun z hz => by rcases List.mem_cons.mp hz with rfl | hz; exact Or.inr ⟨by decide, "java/lang/IndexOutOfBoundsException", ml_tb 992 (by decide +kernel) rfl, by decide⟩; cases hz), by decide, by decide, ml_tb 798 (by decide +kernel) rfl, by decide, rfl⟩, fun q => ?_⟩
      refine ml_astore (ls2 := [(4, .ref q), (0, ml_rf g 0), (1, .int a0), (2, .int a1), (3, ml_rf g 181)]) F dL_setValve_17 (by decide) rfl ?_
      refine ml_iconst (v := 2) F dL_setValve_19 (by decide) ?_
      exact ml_iret (st := []) F h rfl rfl rfl (by decide) (by decide) dL_setValve_20
def fL_openGate (a0 : Int32) (M : ml_M) : Option ml_R := lw_wr lw_pi (fun e => if e = 1 then 1 else if e = 3 then 2 else if e = 5 then 3 else 0) (fX6_openGate a0 M)
set_option maxHeartbeats 4000000 in
set_option maxRecDepth 100000 in
theorem fL_openGate_c (a0 : Int32) (M : ml_M) (res : ml_R) {g : ml_G} (hst : g.2.2.2.2.2.stackTraces = false) (h : fL_openGate a0 M = some res) : ml_CW yL_openGate cL_openGate 4 (some .int) [(0, 9, 12, 21), (0, 9, 15, 15), (0, 9, 18, 27)] 8 1 6 g (fun r _ => some (.int r)) [ml_rf g 0, .int a0, ml_rf g 181] M res := by
  refine ml_ofW [(0, ml_rf g 0), (1, .int a0), (2, ml_rf g 181)] hst (by decide) (Nat.le_of_ble_eq_true rfl) rfl (fun E F => ?_)
  unfold fL_openGate at h
  obtain ⟨rs, hx, hr, hxx⟩ := lw_wr_k h
  refine ml_aload_n (q := 2) F dL_openGate_0 rfl rfl ?_
  refine ml_iconst (v := 0) F dL_openGate_1 (by decide) ?_
  refine ml_aload_n (q := 0) F dL_openGate_2 rfl rfl ?_
  refine ml_iload_n (q := 1) F dL_openGate_3 rfl rfl ?_
  refine ml_callVC (rs := rs) (av := [.int a0]) (vl2 := (fun r _ => some (.int r))) (st := [.int 0, ml_rf g 181]) (kb := 0) (ci := 10) (T := TX6) (N := 9) F (pc0 g) rfl (fX6_openGate_c a0 M rs hst hx) wcX6_openGate mlL_23 wdX6_openGate (by decide) (by decide) (by decide) rfl seX6_openGate imX6_openGate rfl (Nat.le_of_ble_eq_true rfl) dL_openGate_4 (fun r9 h9 => ?_) (fun e9 h9 => ?_)
  · have h := hr r9 h9
    refine ml_i2l F dL_openGate_7 ?_
    refine ml_last (x := r9) F rfl dL_openGate_8 ?_
    refine ml_goto (tgt := 21) F dL_openGate_9 (by decide) ?_
    refine ml_iconst (v := 0) F dL_openGate_21 (by decide) ?_
    exact ml_iret (st := []) F h rfl rfl rfl (by decide) (by decide) dL_openGate_22
  · obtain ⟨hc, h⟩ := hxx e9 h9
    have hc2 : e9 = 1 ∨ e9 = 3 ∨ e9 = 5 := by
      by_cases h0 : e9 = 1
      · exact Or.inl h0
      · skip
        by_cases h1 : e9 = 3
        · exact Or.inr (Or.inl h1)
        · skip
          by_cases h2 : e9 = 5
          · exact Or.inr (Or.inr h2)
          · exact absurd (by simp [h0, h1, h2]) hc
    rcases hc2 with rfl | rfl | rfl
    · refine ⟨12, ⟨[], ⟨0, 9, 12, 21⟩, [⟨0, 9, 15, 15⟩, ⟨0, 9, 18, 27⟩], rfl, (fun z hz => by cases hz), by decide, by decide, ml_tb 992 (by decide +kernel) rfl, by decide, rfl⟩, fun q => ?_⟩
      refine ml_astore_n (ls2 := [(3, .ref q), (0, ml_rf g 0), (1, .int a0), (2, ml_rf g 181)]) F dL_openGate_12 rfl (by decide) rfl ?_
      refine ml_iconst (v := 1) F dL_openGate_13 (by decide) ?_
      exact ml_iret (st := []) F h rfl rfl rfl (by decide) (by decide) dL_openGate_14
    · refine ⟨15, ⟨[⟨0, 9, 12, 21⟩], ⟨0, 9, 15, 15⟩, [⟨0, 9, 18, 27⟩], rfl, (fun z hz => by rcases List.mem_cons.mp hz with rfl | hz; exact Or.inr ⟨by decide, "java/lang/IndexOutOfBoundsException", ml_tb 992 (by decide +kernel) rfl, by decide⟩; cases hz), by decide, by decide, ml_tb 799 (by decide +kernel) rfl, by decide, rfl⟩, fun q => ?_⟩
      refine ml_astore_n (ls2 := [(3, .ref q), (0, ml_rf g 0), (1, .int a0), (2, ml_rf g 181)]) F dL_openGate_15 rfl (by decide) rfl ?_
      refine ml_iconst (v := 2) F dL_openGate_16 (by decide) ?_
      exact ml_iret (st := []) F h rfl rfl rfl (by decide) (by decide) dL_openGate_17
    · refine ⟨18, ⟨[⟨0, 9, 12, 21⟩, ⟨0, 9, 15, 15⟩], ⟨0, 9, 18, 27⟩, [], rfl, (fun z hz => by rcases List.mem_cons.mp hz with rfl | hz; exact Or.inr ⟨by decide, "java/lang/IndexOutOfBoundsException", ml_tb 992 (by decide +kernel) rfl, by decide⟩; rcases List.mem_cons.mp hz with rfl | hz; exact Or.inr ⟨by decide, "java/lang/IllegalStateException", ml_tb 799 (by decide +kernel) rfl, by decide⟩; cases hz), by decide, by decide, ml_tb 1000 (by decide +kernel) rfl, by decide, rfl⟩, fun q => ?_⟩
      refine ml_astore_n (ls2 := [(3, .ref q), (0, ml_rf g 0), (1, .int a0), (2, ml_rf g 181)]) F dL_openGate_18 rfl (by decide) rfl ?_
      refine ml_iconst (v := 3) F dL_openGate_19 (by decide) ?_
      exact ml_iret (st := []) F h rfl rfl rfl (by decide) (by decide) dL_openGate_20
def fL_shutGate (a0 : Int32) (M : ml_M) : Option ml_R := lw_wr lw_pi (fun e => if e = 1 then 1 else if e = 3 then 2 else 0) (fX6_shutGate a0 M)
set_option maxHeartbeats 4000000 in
set_option maxRecDepth 100000 in
theorem fL_shutGate_c (a0 : Int32) (M : ml_M) (res : ml_R) {g : ml_G} (hst : g.2.2.2.2.2.stackTraces = false) (h : fL_shutGate a0 M = some res) : ml_CW yL_shutGate cL_shutGate 4 (some .int) [(0, 9, 12, 21), (0, 9, 15, 15)] 8 1 6 g (fun r _ => some (.int r)) [ml_rf g 0, .int a0, ml_rf g 181] M res := by
  refine ml_ofW [(0, ml_rf g 0), (1, .int a0), (2, ml_rf g 181)] hst (by decide) (Nat.le_of_ble_eq_true rfl) rfl (fun E F => ?_)
  unfold fL_shutGate at h
  obtain ⟨rs, hx, hr, hxx⟩ := lw_wr_k h
  refine ml_aload_n (q := 2) F dL_shutGate_0 rfl rfl ?_
  refine ml_iconst (v := 0) F dL_shutGate_1 (by decide) ?_
  refine ml_aload_n (q := 0) F dL_shutGate_2 rfl rfl ?_
  refine ml_iload_n (q := 1) F dL_shutGate_3 rfl rfl ?_
  refine ml_callVC (rs := rs) (av := [.int a0]) (vl2 := (fun r _ => some (.int r))) (st := [.int 0, ml_rf g 181]) (kb := 0) (ci := 10) (T := TX6) (N := 9) F (pc0 g) rfl (fX6_shutGate_c a0 M rs hst hx) wcX6_shutGate mlL_29 wdX6_shutGate (by decide) (by decide) (by decide) rfl seX6_shutGate imX6_shutGate rfl (Nat.le_of_ble_eq_true rfl) dL_shutGate_4 (fun r9 h9 => ?_) (fun e9 h9 => ?_)
  · have h := hr r9 h9
    refine ml_i2l F dL_shutGate_7 ?_
    refine ml_last (x := r9) F rfl dL_shutGate_8 ?_
    refine ml_goto (tgt := 18) F dL_shutGate_9 (by decide) ?_
    refine ml_iconst (v := 0) F dL_shutGate_18 (by decide) ?_
    exact ml_iret (st := []) F h rfl rfl rfl (by decide) (by decide) dL_shutGate_19
  · obtain ⟨hc, h⟩ := hxx e9 h9
    have hc2 : e9 = 1 ∨ e9 = 3 := by
      by_cases h0 : e9 = 1
      · exact Or.inl h0
      · skip
        by_cases h1 : e9 = 3
        · exact Or.inr h1
        · exact absurd (by simp [h0, h1]) hc
    rcases hc2 with rfl | rfl
    · refine ⟨12, ⟨[], ⟨0, 9, 12, 21⟩, [⟨0, 9, 15, 15⟩], rfl, (fun z hz => by cases hz), by decide, by decide, ml_tb 992 (by decide +kernel) rfl, by decide, rfl⟩, fun q => ?_⟩
      refine ml_astore_n (ls2 := [(3, .ref q), (0, ml_rf g 0), (1, .int a0), (2, ml_rf g 181)]) F dL_shutGate_12 rfl (by decide) rfl ?_
      refine ml_iconst (v := 1) F dL_shutGate_13 (by decide) ?_
      exact ml_iret (st := []) F h rfl rfl rfl (by decide) (by decide) dL_shutGate_14
    · refine ⟨15, ⟨[⟨0, 9, 12, 21⟩], ⟨0, 9, 15, 15⟩, [], rfl, (fun z hz => by rcases List.mem_cons.mp hz with rfl | hz; exact Or.inr ⟨by decide, "java/lang/IndexOutOfBoundsException", ml_tb 992 (by decide +kernel) rfl, by decide⟩; cases hz), by decide, by decide, ml_tb 799 (by decide +kernel) rfl, by decide, rfl⟩, fun q => ?_⟩
      refine ml_astore_n (ls2 := [(3, .ref q), (0, ml_rf g 0), (1, .int a0), (2, ml_rf g 181)]) F dL_shutGate_15 rfl (by decide) rfl ?_
      refine ml_iconst (v := 2) F dL_shutGate_16 (by decide) ?_
      exact ml_iret (st := []) F h rfl rfl rfl (by decide) (by decide) dL_shutGate_17
def fL_setRain (a0 : Int32) (M : ml_M) : Option ml_R := lw_wr lw_pi (fun e => if e = 2 then 1 else 0) (fX6_setRain a0 M)
set_option maxHeartbeats 4000000 in
set_option maxRecDepth 100000 in
theorem fL_setRain_c (a0 : Int32) (M : ml_M) (res : ml_R) {g : ml_G} (hst : g.2.2.2.2.2.stackTraces = false) (h : fL_setRain a0 M = some res) : ml_CW yL_setRain cL_setRain 4 (some .int) [(0, 9, 12, 13)] 8 1 6 g (fun r _ => some (.int r)) [ml_rf g 0, .int a0, ml_rf g 181] M res := by
  refine ml_ofW [(0, ml_rf g 0), (1, .int a0), (2, ml_rf g 181)] hst (by decide) (Nat.le_of_ble_eq_true rfl) rfl (fun E F => ?_)
  unfold fL_setRain at h
  obtain ⟨rs, hx, hr, hxx⟩ := lw_wr_k h
  refine ml_aload_n (q := 2) F dL_setRain_0 rfl rfl ?_
  refine ml_iconst (v := 0) F dL_setRain_1 (by decide) ?_
  refine ml_aload_n (q := 0) F dL_setRain_2 rfl rfl ?_
  refine ml_iload_n (q := 1) F dL_setRain_3 rfl rfl ?_
  refine ml_callVC (rs := rs) (av := [.int a0]) (vl2 := (fun r _ => some (.int r))) (st := [.int 0, ml_rf g 181]) (kb := 0) (ci := 10) (T := TX6) (N := 9) F (pc0 g) rfl (fX6_setRain_c a0 M rs hst hx) wcX6_setRain mlL_32 wdX6_setRain (by decide) (by decide) (by decide) rfl seX6_setRain imX6_setRain rfl (Nat.le_of_ble_eq_true rfl) dL_setRain_4 (fun r9 h9 => ?_) (fun e9 h9 => ?_)
  · have h := hr r9 h9
    refine ml_i2l F dL_setRain_7 ?_
    refine ml_last (x := r9) F rfl dL_setRain_8 ?_
    refine ml_goto (tgt := 15) F dL_setRain_9 (by decide) ?_
    refine ml_iconst (v := 0) F dL_setRain_15 (by decide) ?_
    exact ml_iret (st := []) F h rfl rfl rfl (by decide) (by decide) dL_setRain_16
  · obtain ⟨hc, h⟩ := hxx e9 h9
    have hc2 : e9 = 2 := by
      by_cases h1 : e9 = 2
      · exact h1
      · exact absurd (if_neg h1) hc
    rcases hc2 with rfl
    refine ⟨12, ⟨[], ⟨0, 9, 12, 13⟩, [], rfl, (fun z hz => by cases hz), by decide, by decide, ml_tb 798 (by decide +kernel) rfl, by decide, rfl⟩, fun q => ?_⟩
    refine ml_astore_n (ls2 := [(3, .ref q), (0, ml_rf g 0), (1, .int a0), (2, ml_rf g 181)]) F dL_setRain_12 rfl (by decide) rfl ?_
    refine ml_iconst (v := 1) F dL_setRain_13 (by decide) ?_
    exact ml_iret (st := []) F h rfl rfl rfl (by decide) (by decide) dL_setRain_14
def fL_setDrain (a0 : Int32) (M : ml_M) : Option ml_R := lw_wr lw_pi (fun e => if e = 2 then 1 else 0) (fX6_setDrain a0 M)
set_option maxHeartbeats 4000000 in
set_option maxRecDepth 100000 in
theorem fL_setDrain_c (a0 : Int32) (M : ml_M) (res : ml_R) {g : ml_G} (hst : g.2.2.2.2.2.stackTraces = false) (h : fL_setDrain a0 M = some res) : ml_CW yL_setDrain cL_setDrain 4 (some .int) [(0, 9, 12, 13)] 8 1 6 g (fun r _ => some (.int r)) [ml_rf g 0, .int a0, ml_rf g 181] M res := by
  refine ml_ofW [(0, ml_rf g 0), (1, .int a0), (2, ml_rf g 181)] hst (by decide) (Nat.le_of_ble_eq_true rfl) rfl (fun E F => ?_)
  unfold fL_setDrain at h
  obtain ⟨rs, hx, hr, hxx⟩ := lw_wr_k h
  refine ml_aload_n (q := 2) F dL_setDrain_0 rfl rfl ?_
  refine ml_iconst (v := 0) F dL_setDrain_1 (by decide) ?_
  refine ml_aload_n (q := 0) F dL_setDrain_2 rfl rfl ?_
  refine ml_iload_n (q := 1) F dL_setDrain_3 rfl rfl ?_
  refine ml_callVC (rs := rs) (av := [.int a0]) (vl2 := (fun r _ => some (.int r))) (st := [.int 0, ml_rf g 181]) (kb := 0) (ci := 10) (T := TX6) (N := 9) F (pc0 g) rfl (fX6_setDrain_c a0 M rs hst hx) wcX6_setDrain mlL_35 wdX6_setDrain (by decide) (by decide) (by decide) rfl seX6_setDrain imX6_setDrain rfl (Nat.le_of_ble_eq_true rfl) dL_setDrain_4 (fun r9 h9 => ?_) (fun e9 h9 => ?_)
  · have h := hr r9 h9
    refine ml_i2l F dL_setDrain_7 ?_
    refine ml_last (x := r9) F rfl dL_setDrain_8 ?_
    refine ml_goto (tgt := 15) F dL_setDrain_9 (by decide) ?_
    refine ml_iconst (v := 0) F dL_setDrain_15 (by decide) ?_
    exact ml_iret (st := []) F h rfl rfl rfl (by decide) (by decide) dL_setDrain_16
  · obtain ⟨hc, h⟩ := hxx e9 h9
    have hc2 : e9 = 2 := by
      by_cases h1 : e9 = 2
      · exact h1
      · exact absurd (if_neg h1) hc
    rcases hc2 with rfl
    refine ⟨12, ⟨[], ⟨0, 9, 12, 13⟩, [], rfl, (fun z hz => by cases hz), by decide, by decide, ml_tb 798 (by decide +kernel) rfl, by decide, rfl⟩, fun q => ?_⟩
    refine ml_astore_n (ls2 := [(3, .ref q), (0, ml_rf g 0), (1, .int a0), (2, ml_rf g 181)]) F dL_setDrain_12 rfl (by decide) rfl ?_
    refine ml_iconst (v := 1) F dL_setDrain_13 (by decide) ?_
    exact ml_iret (st := []) F h rfl rfl rfl (by decide) (by decide) dL_setDrain_14
def fL_advance (a0 : Int32) (M : ml_M) : Option ml_R := lw_wr lw_pi (fun e => if e = 2 then 1 else 0) (fX6_advance a0 M)
set_option maxHeartbeats 4000000 in
set_option maxRecDepth 100000 in
theorem fL_advance_c (a0 : Int32) (M : ml_M) (res : ml_R) {g : ml_G} (hst : g.2.2.2.2.2.stackTraces = false) (h : fL_advance a0 M = some res) : ml_CW yL_advance cL_advance 4 (some .int) [(0, 9, 12, 13)] 8 1 6 g (fun r _ => some (.int r)) [ml_rf g 0, .int a0, ml_rf g 181] M res := by
  refine ml_ofW [(0, ml_rf g 0), (1, .int a0), (2, ml_rf g 181)] hst (by decide) (Nat.le_of_ble_eq_true rfl) rfl (fun E F => ?_)
  unfold fL_advance at h
  obtain ⟨rs, hx, hr, hxx⟩ := lw_wr_k h
  refine ml_aload_n (q := 2) F dL_advance_0 rfl rfl ?_
  refine ml_iconst (v := 0) F dL_advance_1 (by decide) ?_
  refine ml_aload_n (q := 0) F dL_advance_2 rfl rfl ?_
  refine ml_iload_n (q := 1) F dL_advance_3 rfl rfl ?_
  refine ml_callVC (rs := rs) (av := [.int a0]) (vl2 := (fun r _ => some (.int r))) (st := [.int 0, ml_rf g 181]) (kb := 0) (ci := 10) (T := TX6) (N := 9) F (pc0 g) rfl (fX6_advance_c a0 M rs hst hx) wcX6_advance mlL_38 wdX6_advance (by decide) (by decide) (by decide) rfl seX6_advance imX6_advance rfl (Nat.le_of_ble_eq_true rfl) dL_advance_4 (fun r9 h9 => ?_) (fun e9 h9 => ?_)
  · have h := hr r9 h9
    refine ml_i2l F dL_advance_7 ?_
    refine ml_last (x := r9) F rfl dL_advance_8 ?_
    refine ml_goto (tgt := 15) F dL_advance_9 (by decide) ?_
    refine ml_iconst (v := 0) F dL_advance_15 (by decide) ?_
    exact ml_iret (st := []) F h rfl rfl rfl (by decide) (by decide) dL_advance_16
  · obtain ⟨hc, h⟩ := hxx e9 h9
    have hc2 : e9 = 2 := by
      by_cases h1 : e9 = 2
      · exact h1
      · exact absurd (if_neg h1) hc
    rcases hc2 with rfl
    refine ⟨12, ⟨[], ⟨0, 9, 12, 13⟩, [], rfl, (fun z hz => by cases hz), by decide, by decide, ml_tb 798 (by decide +kernel) rfl, by decide, rfl⟩, fun q => ?_⟩
    refine ml_astore_n (ls2 := [(3, .ref q), (0, ml_rf g 0), (1, .int a0), (2, ml_rf g 181)]) F dL_advance_12 rfl (by decide) rfl ?_
    refine ml_iconst (v := 1) F dL_advance_13 (by decide) ?_
    exact ml_iret (st := []) F h rfl rfl rfl (by decide) (by decide) dL_advance_14
def fL_area (a0 : Int32) (M : ml_M) : Option ml_R := lw_wr lw_pi (fun e => if e = 1 then 1 else 0) (fX6_area a0 M)
set_option maxHeartbeats 4000000 in
set_option maxRecDepth 100000 in
theorem fL_area_c (a0 : Int32) (M : ml_M) (res : ml_R) {g : ml_G} (hst : g.2.2.2.2.2.stackTraces = false) (h : fL_area a0 M = some res) : ml_CW yL_area cL_area 4 (some .int) [(0, 9, 12, 21)] 3 1 6 g (fun r _ => some (.int r)) [ml_rf g 0, .int a0, ml_rf g 181] M res := by
  refine ml_ofW [(0, ml_rf g 0), (1, .int a0), (2, ml_rf g 181)] hst (by decide) (Nat.le_of_ble_eq_true rfl) rfl (fun E F => ?_)
  unfold fL_area at h
  obtain ⟨rs, hx, hr, hxx⟩ := lw_wr_k h
  refine ml_aload_n (q := 2) F dL_area_0 rfl rfl ?_
  refine ml_iconst (v := 0) F dL_area_1 (by decide) ?_
  refine ml_aload_n (q := 0) F dL_area_2 rfl rfl ?_
  refine ml_iload_n (q := 1) F dL_area_3 rfl rfl ?_
  refine ml_callVC (rs := rs) (av := [.int a0]) (vl2 := (fun r _ => some (.int r))) (st := [.int 0, ml_rf g 181]) (kb := 0) (ci := 10) (T := TX6) (N := 9) F (pc0 g) rfl (fX6_area_c a0 M rs hst hx) wcX6_area mlL_41 wdX6_area (by decide) (by decide) (by decide) rfl seX6_area imX6_area rfl (Nat.le_of_ble_eq_true rfl) dL_area_4 (fun r9 h9 => ?_) (fun e9 h9 => ?_)
  · have h := hr r9 h9
    refine ml_i2l F dL_area_7 ?_
    refine ml_last (x := r9) F rfl dL_area_8 ?_
    refine ml_goto (tgt := 15) F dL_area_9 (by decide) ?_
    refine ml_iconst (v := 0) F dL_area_15 (by decide) ?_
    exact ml_iret (st := []) F h rfl rfl rfl (by decide) (by decide) dL_area_16
  · obtain ⟨hc, h⟩ := hxx e9 h9
    have hc2 : e9 = 1 := by
      by_cases h1 : e9 = 1
      · exact h1
      · exact absurd (if_neg h1) hc
    rcases hc2 with rfl
    refine ⟨12, ⟨[], ⟨0, 9, 12, 21⟩, [], rfl, (fun z hz => by cases hz), by decide, by decide, ml_tb 992 (by decide +kernel) rfl, by decide, rfl⟩, fun q => ?_⟩
    refine ml_astore_n (ls2 := [(3, .ref q), (0, ml_rf g 0), (1, .int a0), (2, ml_rf g 181)]) F dL_area_12 rfl (by decide) rfl ?_
    refine ml_iconst (v := 1) F dL_area_13 (by decide) ?_
    exact ml_iret (st := []) F h rfl rfl rfl (by decide) (by decide) dL_area_14
def fL_volume (a0 : Int32) (M : ml_M) : Option ml_R := lw_wr lw_pi (fun e => if e = 1 then 1 else 0) (fX6_volume a0 M)
set_option maxHeartbeats 4000000 in
set_option maxRecDepth 100000 in
theorem fL_volume_c (a0 : Int32) (M : ml_M) (res : ml_R) {g : ml_G} (hst : g.2.2.2.2.2.stackTraces = false) (h : fL_volume a0 M = some res) : ml_CW yL_volume cL_volume 4 (some .int) [(0, 9, 12, 21)] 3 1 6 g (fun r _ => some (.int r)) [ml_rf g 0, .int a0, ml_rf g 181] M res := by
  refine ml_ofW [(0, ml_rf g 0), (1, .int a0), (2, ml_rf g 181)] hst (by decide) (Nat.le_of_ble_eq_true rfl) rfl (fun E F => ?_)
  unfold fL_volume at h
  obtain ⟨rs, hx, hr, hxx⟩ := lw_wr_k h
  refine ml_aload_n (q := 2) F dL_volume_0 rfl rfl ?_
  refine ml_iconst (v := 0) F dL_volume_1 (by decide) ?_
  refine ml_aload_n (q := 0) F dL_volume_2 rfl rfl ?_
  refine ml_iload_n (q := 1) F dL_volume_3 rfl rfl ?_
  refine ml_callVC (rs := rs) (av := [.int a0]) (vl2 := (fun r _ => some (.int r))) (st := [.int 0, ml_rf g 181]) (kb := 0) (ci := 10) (T := TX6) (N := 9) F (pc0 g) rfl (fX6_volume_c a0 M rs hst hx) wcX6_volume mlL_44 wdX6_volume (by decide) (by decide) (by decide) rfl seX6_volume imX6_volume rfl (Nat.le_of_ble_eq_true rfl) dL_volume_4 (fun r9 h9 => ?_) (fun e9 h9 => ?_)
  · have h := hr r9 h9
    refine ml_i2l F dL_volume_7 ?_
    refine ml_last (x := r9) F rfl dL_volume_8 ?_
    refine ml_goto (tgt := 15) F dL_volume_9 (by decide) ?_
    refine ml_iconst (v := 0) F dL_volume_15 (by decide) ?_
    exact ml_iret (st := []) F h rfl rfl rfl (by decide) (by decide) dL_volume_16
  · obtain ⟨hc, h⟩ := hxx e9 h9
    have hc2 : e9 = 1 := by
      by_cases h1 : e9 = 1
      · exact h1
      · exact absurd (if_neg h1) hc
    rcases hc2 with rfl
    refine ⟨12, ⟨[], ⟨0, 9, 12, 21⟩, [], rfl, (fun z hz => by cases hz), by decide, by decide, ml_tb 992 (by decide +kernel) rfl, by decide, rfl⟩, fun q => ?_⟩
    refine ml_astore_n (ls2 := [(3, .ref q), (0, ml_rf g 0), (1, .int a0), (2, ml_rf g 181)]) F dL_volume_12 rfl (by decide) rfl ?_
    refine ml_iconst (v := 1) F dL_volume_13 (by decide) ?_
    exact ml_iret (st := []) F h rfl rfl rfl (by decide) (by decide) dL_volume_14
def fL_level (a0 : Int32) (M : ml_M) : Option ml_R := lw_wr lw_pi (fun e => if e = 1 then 1 else 0) (fX6_level a0 M)
set_option maxHeartbeats 4000000 in
set_option maxRecDepth 100000 in
theorem fL_level_c (a0 : Int32) (M : ml_M) (res : ml_R) {g : ml_G} (hst : g.2.2.2.2.2.stackTraces = false) (h : fL_level a0 M = some res) : ml_CW yL_level cL_level 4 (some .int) [(0, 9, 12, 21)] 4 1 6 g (fun r _ => some (.int r)) [ml_rf g 0, .int a0, ml_rf g 181] M res := by
  refine ml_ofW [(0, ml_rf g 0), (1, .int a0), (2, ml_rf g 181)] hst (by decide) (Nat.le_of_ble_eq_true rfl) rfl (fun E F => ?_)
  unfold fL_level at h
  obtain ⟨rs, hx, hr, hxx⟩ := lw_wr_k h
  refine ml_aload_n (q := 2) F dL_level_0 rfl rfl ?_
  refine ml_iconst (v := 0) F dL_level_1 (by decide) ?_
  refine ml_aload_n (q := 0) F dL_level_2 rfl rfl ?_
  refine ml_iload_n (q := 1) F dL_level_3 rfl rfl ?_
  refine ml_callVC (rs := rs) (av := [.int a0]) (vl2 := (fun r _ => some (.int r))) (st := [.int 0, ml_rf g 181]) (kb := 0) (ci := 10) (T := TX6) (N := 9) F (pc0 g) rfl (fX6_level_c a0 M rs hst hx) wcX6_level mlL_47 wdX6_level (by decide) (by decide) (by decide) rfl seX6_level imX6_level rfl (Nat.le_of_ble_eq_true rfl) dL_level_4 (fun r9 h9 => ?_) (fun e9 h9 => ?_)
  · have h := hr r9 h9
    refine ml_i2l F dL_level_7 ?_
    refine ml_last (x := r9) F rfl dL_level_8 ?_
    refine ml_goto (tgt := 15) F dL_level_9 (by decide) ?_
    refine ml_iconst (v := 0) F dL_level_15 (by decide) ?_
    exact ml_iret (st := []) F h rfl rfl rfl (by decide) (by decide) dL_level_16
  · obtain ⟨hc, h⟩ := hxx e9 h9
    have hc2 : e9 = 1 := by
      by_cases h1 : e9 = 1
      · exact h1
      · exact absurd (if_neg h1) hc
    rcases hc2 with rfl
    refine ⟨12, ⟨[], ⟨0, 9, 12, 21⟩, [], rfl, (fun z hz => by cases hz), by decide, by decide, ml_tb 992 (by decide +kernel) rfl, by decide, rfl⟩, fun q => ?_⟩
    refine ml_astore_n (ls2 := [(3, .ref q), (0, ml_rf g 0), (1, .int a0), (2, ml_rf g 181)]) F dL_level_12 rfl (by decide) rfl ?_
    refine ml_iconst (v := 1) F dL_level_13 (by decide) ?_
    exact ml_iret (st := []) F h rfl rfl rfl (by decide) (by decide) dL_level_14
def fL_exactLevel (a0 : Int32) (M : ml_M) : Option ml_R := lw_wr lw_pd (fun e => if e = 1 then 1 else 0) (fX6_exactLevel a0 M)
set_option maxHeartbeats 4000000 in
set_option maxRecDepth 100000 in
theorem fL_exactLevel_c (a0 : Int32) (M : ml_M) (res : ml_R) {g : ml_G} (hst : g.2.2.2.2.2.stackTraces = false) (h : fL_exactLevel a0 M = some res) : ml_CW yL_exactLevel cL_exactLevel 4 (some .int) [(0, 8, 11, 21)] 3 1 6 g (fun r _ => some (.int r)) [ml_rf g 0, .int a0, ml_rf g 182] M res := by
  refine ml_ofW [(0, ml_rf g 0), (1, .int a0), (2, ml_rf g 182)] hst (by decide) (Nat.le_of_ble_eq_true rfl) rfl (fun E F => ?_)
  unfold fL_exactLevel at h
  obtain ⟨rs, hx, hr, hxx⟩ := lw_wr_k h
  refine ml_aload_n (q := 2) F dL_exactLevel_0 rfl rfl ?_
  refine ml_iconst (v := 0) F dL_exactLevel_1 (by decide) ?_
  refine ml_aload_n (q := 0) F dL_exactLevel_2 rfl rfl ?_
  refine ml_iload_n (q := 1) F dL_exactLevel_3 rfl rfl ?_
  refine ml_callVC (rs := rs) (av := [.int a0]) (vl2 := (fun _ M => some (.double (FP.ddiv (FP.i2d (M 200 0)) (FP.i2d (M 200 1)))))) (st := [.int 0, ml_rf g 182]) (kb := 0) (ci := 10) (T := TX6) (N := 9) F (pc0 g) rfl (fX6_exactLevel_c a0 M rs hst hx) wcX6_exactLevel mlL_50 wdX6_exactLevel (by decide) (by decide) (by decide) rfl seX6_exactLevel imX6_exactLevel rfl (Nat.le_of_ble_eq_true rfl) dL_exactLevel_4 (fun r9 h9 => ?_) (fun e9 h9 => ?_)
  · have h := hr r9 h9
    refine ml_dast (a := rs.2 200 0) (b := rs.2 200 1) F rfl dL_exactLevel_7 ?_
    refine ml_goto (tgt := 14) F dL_exactLevel_8 (by decide) ?_
    refine ml_iconst (v := 0) F dL_exactLevel_14 (by decide) ?_
    exact ml_iret (st := []) F h rfl rfl rfl (by decide) (by decide) dL_exactLevel_15
  · obtain ⟨hc, h⟩ := hxx e9 h9
    have hc2 : e9 = 1 := by
      by_cases h1 : e9 = 1
      · exact h1
      · exact absurd (if_neg h1) hc
    rcases hc2 with rfl
    refine ⟨11, ⟨[], ⟨0, 8, 11, 21⟩, [], rfl, (fun z hz => by cases hz), by decide, by decide, ml_tb 992 (by decide +kernel) rfl, by decide, rfl⟩, fun q => ?_⟩
    refine ml_astore_n (ls2 := [(3, .ref q), (0, ml_rf g 0), (1, .int a0), (2, ml_rf g 182)]) F dL_exactLevel_11 rfl (by decide) rfl ?_
    refine ml_iconst (v := 1) F dL_exactLevel_12 (by decide) ?_
    exact ml_iret (st := []) F h rfl rfl rfl (by decide) (by decide) dL_exactLevel_13
def fL_isHigher (a0 : Int32) (a1 : Int32) (M : ml_M) : Option ml_R := lw_wr lw_pz (fun e => if e = 1 then 1 else 0) (fX6_isHigher a0 a1 M)
set_option maxHeartbeats 4000000 in
set_option maxRecDepth 100000 in
theorem fL_isHigher_c (a0 : Int32) (a1 : Int32) (M : ml_M) (res : ml_R) {g : ml_G} (hst : g.2.2.2.2.2.stackTraces = false) (h : fL_isHigher a0 a1 M = some res) : ml_CW yL_isHigher cL_isHigher 5 (some .int) [(0, 17, 20, 21)] 4 2 12 g (fun r _ => some (.int r)) [ml_rf g 0, .int a0, .int a1, ml_rf g 181] M res := by
  refine ml_ofW [(0, ml_rf g 0), (1, .int a0), (2, .int a1), (3, ml_rf g 181)] hst (by decide) (Nat.le_of_ble_eq_true rfl) rfl (fun E F => ?_)
  unfold fL_isHigher at h
  obtain ⟨rs, hx, hr, hxx⟩ := lw_wr_k h
  refine ml_aload_n (q := 3) F dL_isHigher_0 rfl rfl ?_
  refine ml_iconst (v := 0) F dL_isHigher_1 (by decide) ?_
  refine ml_aload_n (q := 0) F dL_isHigher_2 rfl rfl ?_
  refine ml_iload_n (q := 1) F dL_isHigher_3 rfl rfl ?_
  refine ml_iload_n (q := 2) F dL_isHigher_4 rfl rfl ?_
  refine ml_callVC (rs := rs) (av := [.int a0, .int a1]) (vl2 := (fun r _ => some (.int r))) (st := [.int 0, ml_rf g 181]) (kb := 0) (ci := 10) (T := TX6) (N := 9) F (pc0 g) rfl (fX6_isHigher_c a0 a1 M rs hst hx) wcX6_isHigher mlL_54 wdX6_isHigher (by decide) (by decide) (by decide) rfl seX6_isHigher imX6_isHigher rfl (Nat.le_of_ble_eq_true rfl) dL_isHigher_5 (fun r9 h9 => ?_) (fun e9 h9 => ?_)
  · have h := hr r9 h9
    by_cases hz : r9 = 0
    · refine ml_if_eqT (tgt := 15) F dL_isHigher_8 (by decide) hz ?_
      refine ml_lconst (v := 0) F dL_isHigher_15 (by decide) ?_
      refine ml_last (x := 0) F (by decide) dL_isHigher_16 ?_
      unfold lw_pz at h
      rw [if_pos hz] at h
      refine ml_goto (tgt := 24) F dL_isHigher_17 (by decide) ?_
      refine ml_iconst (v := 0) F dL_isHigher_24 (by decide) ?_
      exact ml_iret (st := []) F h rfl rfl rfl (by decide) (by decide) dL_isHigher_25
    · refine ml_if_eqF (tgt := 15) F dL_isHigher_8 (by decide) hz ?_
      refine ml_lconst (v := 1) F dL_isHigher_11 (by decide) ?_
      refine ml_goto (tgt := 16) F dL_isHigher_12 (by decide) ?_
      refine ml_last (x := 1) F (by decide) dL_isHigher_16 ?_
      unfold lw_pz at h
      rw [if_neg hz] at h
      refine ml_goto (tgt := 24) F dL_isHigher_17 (by decide) ?_
      refine ml_iconst (v := 0) F dL_isHigher_24 (by decide) ?_
      exact ml_iret (st := []) F h rfl rfl rfl (by decide) (by decide) dL_isHigher_25
  · obtain ⟨hc, h⟩ := hxx e9 h9
    have hc2 : e9 = 1 := by
      by_cases h1 : e9 = 1
      · exact h1
      · exact absurd (if_neg h1) hc
    rcases hc2 with rfl
    refine ⟨20, ⟨[], ⟨0, 17, 20, 21⟩, [], rfl, (fun z hz => by cases hz), by decide, by decide, ml_tb 992 (by decide +kernel) rfl, by decide, rfl⟩, fun q => ?_⟩
    refine ml_astore (ls2 := [(4, .ref q), (0, ml_rf g 0), (1, .int a0), (2, .int a1), (3, ml_rf g 181)]) F dL_isHigher_20 (by decide) rfl ?_
    refine ml_iconst (v := 1) F dL_isHigher_22 (by decide) ?_
    exact ml_iret (st := []) F h rfl rfl rfl (by decide) (by decide) dL_isHigher_23
def fL_equalizingAmount (a0 : Int32) (M : ml_M) : Option ml_R := lw_wr lw_pi (fun e => if e = 1 then 1 else 0) (fX6_equalizingAmount a0 M)
set_option maxHeartbeats 4000000 in
set_option maxRecDepth 100000 in
theorem fL_equalizingAmount_c (a0 : Int32) (M : ml_M) (res : ml_R) {g : ml_G} (hst : g.2.2.2.2.2.stackTraces = false) (h : fL_equalizingAmount a0 M = some res) : ml_CW yL_equalizingAmount cL_equalizingAmount 4 (some .int) [(0, 9, 12, 21)] 5 1 6 g (fun r _ => some (.int r)) [ml_rf g 0, .int a0, ml_rf g 181] M res := by
  refine ml_ofW [(0, ml_rf g 0), (1, .int a0), (2, ml_rf g 181)] hst (by decide) (Nat.le_of_ble_eq_true rfl) rfl (fun E F => ?_)
  unfold fL_equalizingAmount at h
  obtain ⟨rs, hx, hr, hxx⟩ := lw_wr_k h
  refine ml_aload_n (q := 2) F dL_equalizingAmount_0 rfl rfl ?_
  refine ml_iconst (v := 0) F dL_equalizingAmount_1 (by decide) ?_
  refine ml_aload_n (q := 0) F dL_equalizingAmount_2 rfl rfl ?_
  refine ml_iload_n (q := 1) F dL_equalizingAmount_3 rfl rfl ?_
  refine ml_callVC (rs := rs) (av := [.int a0]) (vl2 := (fun r _ => some (.int r))) (st := [.int 0, ml_rf g 181]) (kb := 0) (ci := 10) (T := TX6) (N := 9) F (pc0 g) rfl (fX6_equalizingAmount_c a0 M rs hst hx) wcX6_equalizingAmount mlL_58 wdX6_equalizingAmount (by decide) (by decide) (by decide) rfl seX6_equalizingAmount imX6_equalizingAmount rfl (Nat.le_of_ble_eq_true rfl) dL_equalizingAmount_4 (fun r9 h9 => ?_) (fun e9 h9 => ?_)
  · have h := hr r9 h9
    refine ml_i2l F dL_equalizingAmount_7 ?_
    refine ml_last (x := r9) F rfl dL_equalizingAmount_8 ?_
    refine ml_goto (tgt := 15) F dL_equalizingAmount_9 (by decide) ?_
    refine ml_iconst (v := 0) F dL_equalizingAmount_15 (by decide) ?_
    exact ml_iret (st := []) F h rfl rfl rfl (by decide) (by decide) dL_equalizingAmount_16
  · obtain ⟨hc, h⟩ := hxx e9 h9
    have hc2 : e9 = 1 := by
      by_cases h1 : e9 = 1
      · exact h1
      · exact absurd (if_neg h1) hc
    rcases hc2 with rfl
    refine ⟨12, ⟨[], ⟨0, 9, 12, 21⟩, [], rfl, (fun z hz => by cases hz), by decide, by decide, ml_tb 992 (by decide +kernel) rfl, by decide, rfl⟩, fun q => ?_⟩
    refine ml_astore_n (ls2 := [(3, .ref q), (0, ml_rf g 0), (1, .int a0), (2, ml_rf g 181)]) F dL_equalizingAmount_12 rfl (by decide) rfl ?_
    refine ml_iconst (v := 1) F dL_equalizingAmount_13 (by decide) ?_
    exact ml_iret (st := []) F h rfl rfl rfl (by decide) (by decide) dL_equalizingAmount_14
def fL_equalizingAmountByLitres (a0 : Int32) (M : ml_M) : Option ml_R := lw_wr lw_pi (fun e => if e = 1 then 1 else 0) (fX6_equalizingAmountByLitres a0 M)
set_option maxHeartbeats 4000000 in
set_option maxRecDepth 100000 in
theorem fL_equalizingAmountByLitres_c (a0 : Int32) (M : ml_M) (res : ml_R) {g : ml_G} (hst : g.2.2.2.2.2.stackTraces = false) (h : fL_equalizingAmountByLitres a0 M = some res) : ml_CW yL_equalizingAmountByLitres cL_equalizingAmountByLitres 4 (some .int) [(0, 9, 12, 21)] 5 1 6 g (fun r _ => some (.int r)) [ml_rf g 0, .int a0, ml_rf g 181] M res := by
  refine ml_ofW [(0, ml_rf g 0), (1, .int a0), (2, ml_rf g 181)] hst (by decide) (Nat.le_of_ble_eq_true rfl) rfl (fun E F => ?_)
  unfold fL_equalizingAmountByLitres at h
  obtain ⟨rs, hx, hr, hxx⟩ := lw_wr_k h
  refine ml_aload_n (q := 2) F dL_equalizingAmountByLitres_0 rfl rfl ?_
  refine ml_iconst (v := 0) F dL_equalizingAmountByLitres_1 (by decide) ?_
  refine ml_aload_n (q := 0) F dL_equalizingAmountByLitres_2 rfl rfl ?_
  refine ml_iload_n (q := 1) F dL_equalizingAmountByLitres_3 rfl rfl ?_
  refine ml_callVC (rs := rs) (av := [.int a0]) (vl2 := (fun r _ => some (.int r))) (st := [.int 0, ml_rf g 181]) (kb := 0) (ci := 10) (T := TX6) (N := 9) F (pc0 g) rfl (fX6_equalizingAmountByLitres_c a0 M rs hst hx) wcX6_equalizingAmountByLitres mlL_61 wdX6_equalizingAmountByLitres (by decide) (by decide) (by decide) rfl seX6_equalizingAmountByLitres imX6_equalizingAmountByLitres rfl (Nat.le_of_ble_eq_true rfl) dL_equalizingAmountByLitres_4 (fun r9 h9 => ?_) (fun e9 h9 => ?_)
  · have h := hr r9 h9
    refine ml_i2l F dL_equalizingAmountByLitres_7 ?_
    refine ml_last (x := r9) F rfl dL_equalizingAmountByLitres_8 ?_
    refine ml_goto (tgt := 15) F dL_equalizingAmountByLitres_9 (by decide) ?_
    refine ml_iconst (v := 0) F dL_equalizingAmountByLitres_15 (by decide) ?_
    exact ml_iret (st := []) F h rfl rfl rfl (by decide) (by decide) dL_equalizingAmountByLitres_16
  · obtain ⟨hc, h⟩ := hxx e9 h9
    have hc2 : e9 = 1 := by
      by_cases h1 : e9 = 1
      · exact h1
      · exact absurd (if_neg h1) hc
    rcases hc2 with rfl
    refine ⟨12, ⟨[], ⟨0, 9, 12, 21⟩, [], rfl, (fun z hz => by cases hz), by decide, by decide, ml_tb 992 (by decide +kernel) rfl, by decide, rfl⟩, fun q => ?_⟩
    refine ml_astore_n (ls2 := [(3, .ref q), (0, ml_rf g 0), (1, .int a0), (2, ml_rf g 181)]) F dL_equalizingAmountByLitres_12 rfl (by decide) rfl ?_
    refine ml_iconst (v := 1) F dL_equalizingAmountByLitres_13 (by decide) ?_
    exact ml_iret (st := []) F h rfl rfl rfl (by decide) (by decide) dL_equalizingAmountByLitres_14
def fL_opening (a0 : Int32) (M : ml_M) : Option ml_R := lw_wr lw_pi (fun e => if e = 1 then 1 else 0) (fX6_opening a0 M)
set_option maxHeartbeats 4000000 in
set_option maxRecDepth 100000 in
theorem fL_opening_c (a0 : Int32) (M : ml_M) (res : ml_R) {g : ml_G} (hst : g.2.2.2.2.2.stackTraces = false) (h : fL_opening a0 M = some res) : ml_CW yL_opening cL_opening 4 (some .int) [(0, 9, 12, 21)] 4 1 6 g (fun r _ => some (.int r)) [ml_rf g 0, .int a0, ml_rf g 181] M res := by
  refine ml_ofW [(0, ml_rf g 0), (1, .int a0), (2, ml_rf g 181)] hst (by decide) (Nat.le_of_ble_eq_true rfl) rfl (fun E F => ?_)
  unfold fL_opening at h
  obtain ⟨rs, hx, hr, hxx⟩ := lw_wr_k h
  refine ml_aload_n (q := 2) F dL_opening_0 rfl rfl ?_
  refine ml_iconst (v := 0) F dL_opening_1 (by decide) ?_
  refine ml_aload_n (q := 0) F dL_opening_2 rfl rfl ?_
  refine ml_iload_n (q := 1) F dL_opening_3 rfl rfl ?_
  refine ml_callVC (rs := rs) (av := [.int a0]) (vl2 := (fun r _ => some (.int r))) (st := [.int 0, ml_rf g 181]) (kb := 0) (ci := 10) (T := TX6) (N := 9) F (pc0 g) rfl (fX6_opening_c a0 M rs hst hx) wcX6_opening mlL_64 wdX6_opening (by decide) (by decide) (by decide) rfl seX6_opening imX6_opening rfl (Nat.le_of_ble_eq_true rfl) dL_opening_4 (fun r9 h9 => ?_) (fun e9 h9 => ?_)
  · have h := hr r9 h9
    refine ml_i2l F dL_opening_7 ?_
    refine ml_last (x := r9) F rfl dL_opening_8 ?_
    refine ml_goto (tgt := 15) F dL_opening_9 (by decide) ?_
    refine ml_iconst (v := 0) F dL_opening_15 (by decide) ?_
    exact ml_iret (st := []) F h rfl rfl rfl (by decide) (by decide) dL_opening_16
  · obtain ⟨hc, h⟩ := hxx e9 h9
    have hc2 : e9 = 1 := by
      by_cases h1 : e9 = 1
      · exact h1
      · exact absurd (if_neg h1) hc
    rcases hc2 with rfl
    refine ⟨12, ⟨[], ⟨0, 9, 12, 21⟩, [], rfl, (fun z hz => by cases hz), by decide, by decide, ml_tb 992 (by decide +kernel) rfl, by decide, rfl⟩, fun q => ?_⟩
    refine ml_astore_n (ls2 := [(3, .ref q), (0, ml_rf g 0), (1, .int a0), (2, ml_rf g 181)]) F dL_opening_12 rfl (by decide) rfl ?_
    refine ml_iconst (v := 1) F dL_opening_13 (by decide) ?_
    exact ml_iret (st := []) F h rfl rfl rfl (by decide) (by decide) dL_opening_14
def fL_isOpen (a0 : Int32) (M : ml_M) : Option ml_R := lw_wr lw_pz (fun e => if e = 1 then 1 else 0) (fX6_isOpen a0 M)
set_option maxHeartbeats 4000000 in
set_option maxRecDepth 100000 in
theorem fL_isOpen_c (a0 : Int32) (M : ml_M) (res : ml_R) {g : ml_G} (hst : g.2.2.2.2.2.stackTraces = false) (h : fL_isOpen a0 M = some res) : ml_CW yL_isOpen cL_isOpen 4 (some .int) [(0, 16, 19, 21)] 4 1 6 g (fun r _ => some (.int r)) [ml_rf g 0, .int a0, ml_rf g 181] M res := by
  refine ml_ofW [(0, ml_rf g 0), (1, .int a0), (2, ml_rf g 181)] hst (by decide) (Nat.le_of_ble_eq_true rfl) rfl (fun E F => ?_)
  unfold fL_isOpen at h
  obtain ⟨rs, hx, hr, hxx⟩ := lw_wr_k h
  refine ml_aload_n (q := 2) F dL_isOpen_0 rfl rfl ?_
  refine ml_iconst (v := 0) F dL_isOpen_1 (by decide) ?_
  refine ml_aload_n (q := 0) F dL_isOpen_2 rfl rfl ?_
  refine ml_iload_n (q := 1) F dL_isOpen_3 rfl rfl ?_
  refine ml_callVC (rs := rs) (av := [.int a0]) (vl2 := (fun r _ => some (.int r))) (st := [.int 0, ml_rf g 181]) (kb := 0) (ci := 10) (T := TX6) (N := 9) F (pc0 g) rfl (fX6_isOpen_c a0 M rs hst hx) wcX6_isOpen mlL_67 wdX6_isOpen (by decide) (by decide) (by decide) rfl seX6_isOpen imX6_isOpen rfl (Nat.le_of_ble_eq_true rfl) dL_isOpen_4 (fun r9 h9 => ?_) (fun e9 h9 => ?_)
  · have h := hr r9 h9
    by_cases hz : r9 = 0
    · refine ml_if_eqT (tgt := 14) F dL_isOpen_7 (by decide) hz ?_
      refine ml_lconst (v := 0) F dL_isOpen_14 (by decide) ?_
      refine ml_last (x := 0) F (by decide) dL_isOpen_15 ?_
      unfold lw_pz at h
      rw [if_pos hz] at h
      refine ml_goto (tgt := 22) F dL_isOpen_16 (by decide) ?_
      refine ml_iconst (v := 0) F dL_isOpen_22 (by decide) ?_
      exact ml_iret (st := []) F h rfl rfl rfl (by decide) (by decide) dL_isOpen_23
    · refine ml_if_eqF (tgt := 14) F dL_isOpen_7 (by decide) hz ?_
      refine ml_lconst (v := 1) F dL_isOpen_10 (by decide) ?_
      refine ml_goto (tgt := 15) F dL_isOpen_11 (by decide) ?_
      refine ml_last (x := 1) F (by decide) dL_isOpen_15 ?_
      unfold lw_pz at h
      rw [if_neg hz] at h
      refine ml_goto (tgt := 22) F dL_isOpen_16 (by decide) ?_
      refine ml_iconst (v := 0) F dL_isOpen_22 (by decide) ?_
      exact ml_iret (st := []) F h rfl rfl rfl (by decide) (by decide) dL_isOpen_23
  · obtain ⟨hc, h⟩ := hxx e9 h9
    have hc2 : e9 = 1 := by
      by_cases h1 : e9 = 1
      · exact h1
      · exact absurd (if_neg h1) hc
    rcases hc2 with rfl
    refine ⟨19, ⟨[], ⟨0, 16, 19, 21⟩, [], rfl, (fun z hz => by cases hz), by decide, by decide, ml_tb 992 (by decide +kernel) rfl, by decide, rfl⟩, fun q => ?_⟩
    refine ml_astore_n (ls2 := [(3, .ref q), (0, ml_rf g 0), (1, .int a0), (2, ml_rf g 181)]) F dL_isOpen_19 rfl (by decide) rfl ?_
    refine ml_iconst (v := 1) F dL_isOpen_20 (by decide) ?_
    exact ml_iret (st := []) F h rfl rfl rfl (by decide) (by decide) dL_isOpen_21
def fL_flow (a0 : Int32) (M : ml_M) : Option ml_R := lw_wr lw_pi (fun e => if e = 1 then 1 else 0) (fX6_flow a0 M)
set_option maxHeartbeats 4000000 in
set_option maxRecDepth 100000 in
theorem fL_flow_c (a0 : Int32) (M : ml_M) (res : ml_R) {g : ml_G} (hst : g.2.2.2.2.2.stackTraces = false) (h : fL_flow a0 M = some res) : ml_CW yL_flow cL_flow 4 (some .int) [(0, 9, 12, 21)] 6 1 6 g (fun r _ => some (.int r)) [ml_rf g 0, .int a0, ml_rf g 181] M res := by
  refine ml_ofW [(0, ml_rf g 0), (1, .int a0), (2, ml_rf g 181)] hst (by decide) (Nat.le_of_ble_eq_true rfl) rfl (fun E F => ?_)
  unfold fL_flow at h
  obtain ⟨rs, hx, hr, hxx⟩ := lw_wr_k h
  refine ml_aload_n (q := 2) F dL_flow_0 rfl rfl ?_
  refine ml_iconst (v := 0) F dL_flow_1 (by decide) ?_
  refine ml_aload_n (q := 0) F dL_flow_2 rfl rfl ?_
  refine ml_iload_n (q := 1) F dL_flow_3 rfl rfl ?_
  refine ml_callVC (rs := rs) (av := [.int a0]) (vl2 := (fun r _ => some (.int r))) (st := [.int 0, ml_rf g 181]) (kb := 0) (ci := 10) (T := TX6) (N := 9) F (pc0 g) rfl (fX6_flow_c a0 M rs hst hx) wcX6_flow mlL_71 wdX6_flow (by decide) (by decide) (by decide) rfl seX6_flow imX6_flow rfl (Nat.le_of_ble_eq_true rfl) dL_flow_4 (fun r9 h9 => ?_) (fun e9 h9 => ?_)
  · have h := hr r9 h9
    refine ml_i2l F dL_flow_7 ?_
    refine ml_last (x := r9) F rfl dL_flow_8 ?_
    refine ml_goto (tgt := 15) F dL_flow_9 (by decide) ?_
    refine ml_iconst (v := 0) F dL_flow_15 (by decide) ?_
    exact ml_iret (st := []) F h rfl rfl rfl (by decide) (by decide) dL_flow_16
  · obtain ⟨hc, h⟩ := hxx e9 h9
    have hc2 : e9 = 1 := by
      by_cases h1 : e9 = 1
      · exact h1
      · exact absurd (if_neg h1) hc
    rcases hc2 with rfl
    refine ⟨12, ⟨[], ⟨0, 9, 12, 21⟩, [], rfl, (fun z hz => by cases hz), by decide, by decide, ml_tb 992 (by decide +kernel) rfl, by decide, rfl⟩, fun q => ?_⟩
    refine ml_astore_n (ls2 := [(3, .ref q), (0, ml_rf g 0), (1, .int a0), (2, ml_rf g 181)]) F dL_flow_12 rfl (by decide) rfl ?_
    refine ml_iconst (v := 1) F dL_flow_13 (by decide) ?_
    exact ml_iret (st := []) F h rfl rfl rfl (by decide) (by decide) dL_flow_14
def fL_basinByLevel (a0 : Int32) (M : ml_M) : Option ml_R := lw_wr lw_pi (fun e => if e = 4 then 1 else 0) (fX6_basinByLevel a0 M)
set_option maxHeartbeats 4000000 in
set_option maxRecDepth 100000 in
theorem fL_basinByLevel_c (a0 : Int32) (M : ml_M) (res : ml_R) {g : ml_G} (hst : g.2.2.2.2.2.stackTraces = false) (h : fL_basinByLevel a0 M = some res) : ml_CW yL_basinByLevel cL_basinByLevel 4 (some .int) [(0, 9, 12, 77)] 5 1 6 g (fun r _ => some (.int r)) [ml_rf g 0, .int a0, ml_rf g 181] M res := by
  refine ml_ofW [(0, ml_rf g 0), (1, .int a0), (2, ml_rf g 181)] hst (by decide) (Nat.le_of_ble_eq_true rfl) rfl (fun E F => ?_)
  unfold fL_basinByLevel at h
  obtain ⟨rs, hx, hr, hxx⟩ := lw_wr_k h
  refine ml_aload_n (q := 2) F dL_basinByLevel_0 rfl rfl ?_
  refine ml_iconst (v := 0) F dL_basinByLevel_1 (by decide) ?_
  refine ml_aload_n (q := 0) F dL_basinByLevel_2 rfl rfl ?_
  refine ml_iload_n (q := 1) F dL_basinByLevel_3 rfl rfl ?_
  refine ml_callVC (rs := rs) (av := [.int a0]) (vl2 := (fun r _ => some (.int r))) (st := [.int 0, ml_rf g 181]) (kb := 0) (ci := 10) (T := TX6) (N := 9) F (pc0 g) rfl (fX6_basinByLevel_c a0 M rs hst hx) wcX6_basinByLevel mlL_74 wdX6_basinByLevel (by decide) (by decide) (by decide) rfl seX6_basinByLevel imX6_basinByLevel rfl (Nat.le_of_ble_eq_true rfl) dL_basinByLevel_4 (fun r9 h9 => ?_) (fun e9 h9 => ?_)
  · have h := hr r9 h9
    refine ml_i2l F dL_basinByLevel_7 ?_
    refine ml_last (x := r9) F rfl dL_basinByLevel_8 ?_
    refine ml_goto (tgt := 15) F dL_basinByLevel_9 (by decide) ?_
    refine ml_iconst (v := 0) F dL_basinByLevel_15 (by decide) ?_
    exact ml_iret (st := []) F h rfl rfl rfl (by decide) (by decide) dL_basinByLevel_16
  · obtain ⟨hc, h⟩ := hxx e9 h9
    have hc2 : e9 = 4 := by
      by_cases h1 : e9 = 4
      · exact h1
      · exact absurd (if_neg h1) hc
    rcases hc2 with rfl
    refine ⟨12, ⟨[], ⟨0, 9, 12, 77⟩, [], rfl, (fun z hz => by cases hz), by decide, by decide, ml_tb 1119 (by decide +kernel) rfl, by decide, rfl⟩, fun q => ?_⟩
    refine ml_astore_n (ls2 := [(3, .ref q), (0, ml_rf g 0), (1, .int a0), (2, ml_rf g 181)]) F dL_basinByLevel_12 rfl (by decide) rfl ?_
    refine ml_iconst (v := 1) F dL_basinByLevel_13 (by decide) ?_
    exact ml_iret (st := []) F h rfl rfl rfl (by decide) (by decide) dL_basinByLevel_14
def fL_colour (a0 : Int32) (M : ml_M) : Option ml_R := lw_wr lw_pi (fun e => if e = 1 then 1 else 0) (fX6_colour a0 M)
set_option maxHeartbeats 4000000 in
set_option maxRecDepth 100000 in
theorem fL_colour_c (a0 : Int32) (M : ml_M) (res : ml_R) {g : ml_G} (hst : g.2.2.2.2.2.stackTraces = false) (h : fL_colour a0 M = some res) : ml_CW yL_colour cL_colour 4 (some .int) [(0, 9, 12, 21)] 3 1 6 g (fun r _ => some (.int r)) [ml_rf g 0, .int a0, ml_rf g 181] M res := by
  refine ml_ofW [(0, ml_rf g 0), (1, .int a0), (2, ml_rf g 181)] hst (by decide) (Nat.le_of_ble_eq_true rfl) rfl (fun E F => ?_)
  unfold fL_colour at h
  obtain ⟨rs, hx, hr, hxx⟩ := lw_wr_k h
  refine ml_aload_n (q := 2) F dL_colour_0 rfl rfl ?_
  refine ml_iconst (v := 0) F dL_colour_1 (by decide) ?_
  refine ml_aload_n (q := 0) F dL_colour_2 rfl rfl ?_
  refine ml_iload_n (q := 1) F dL_colour_3 rfl rfl ?_
  refine ml_callVC (rs := rs) (av := [.int a0]) (vl2 := (fun r _ => some (.int r))) (st := [.int 0, ml_rf g 181]) (kb := 0) (ci := 10) (T := TX6) (N := 9) F (pc0 g) rfl (fX6_colour_c a0 M rs hst hx) wcX6_colour mlL_79 wdX6_colour (by decide) (by decide) (by decide) rfl seX6_colour imX6_colour rfl (Nat.le_of_ble_eq_true rfl) dL_colour_4 (fun r9 h9 => ?_) (fun e9 h9 => ?_)
  · have h := hr r9 h9
    refine ml_i2l F dL_colour_7 ?_
    refine ml_last (x := r9) F rfl dL_colour_8 ?_
    refine ml_goto (tgt := 15) F dL_colour_9 (by decide) ?_
    refine ml_iconst (v := 0) F dL_colour_15 (by decide) ?_
    exact ml_iret (st := []) F h rfl rfl rfl (by decide) (by decide) dL_colour_16
  · obtain ⟨hc, h⟩ := hxx e9 h9
    have hc2 : e9 = 1 := by
      by_cases h1 : e9 = 1
      · exact h1
      · exact absurd (if_neg h1) hc
    rcases hc2 with rfl
    refine ⟨12, ⟨[], ⟨0, 9, 12, 21⟩, [], rfl, (fun z hz => by cases hz), by decide, by decide, ml_tb 992 (by decide +kernel) rfl, by decide, rfl⟩, fun q => ?_⟩
    refine ml_astore_n (ls2 := [(3, .ref q), (0, ml_rf g 0), (1, .int a0), (2, ml_rf g 181)]) F dL_colour_12 rfl (by decide) rfl ?_
    refine ml_iconst (v := 1) F dL_colour_13 (by decide) ?_
    exact ml_iret (st := []) F h rfl rfl rfl (by decide) (by decide) dL_colour_14
def fL_draught (a0 : Int32) (M : ml_M) : Option ml_R := lw_wr lw_pi (fun e => if e = 1 then 1 else 0) (fX6_draught a0 M)
set_option maxHeartbeats 4000000 in
set_option maxRecDepth 100000 in
theorem fL_draught_c (a0 : Int32) (M : ml_M) (res : ml_R) {g : ml_G} (hst : g.2.2.2.2.2.stackTraces = false) (h : fL_draught a0 M = some res) : ml_CW yL_draught cL_draught 4 (some .int) [(0, 9, 12, 21)] 3 1 6 g (fun r _ => some (.int r)) [ml_rf g 0, .int a0, ml_rf g 181] M res := by
  refine ml_ofW [(0, ml_rf g 0), (1, .int a0), (2, ml_rf g 181)] hst (by decide) (Nat.le_of_ble_eq_true rfl) rfl (fun E F => ?_)
  unfold fL_draught at h
  obtain ⟨rs, hx, hr, hxx⟩ := lw_wr_k h
  refine ml_aload_n (q := 2) F dL_draught_0 rfl rfl ?_
  refine ml_iconst (v := 0) F dL_draught_1 (by decide) ?_
  refine ml_aload_n (q := 0) F dL_draught_2 rfl rfl ?_
  refine ml_iload_n (q := 1) F dL_draught_3 rfl rfl ?_
  refine ml_callVC (rs := rs) (av := [.int a0]) (vl2 := (fun r _ => some (.int r))) (st := [.int 0, ml_rf g 181]) (kb := 0) (ci := 10) (T := TX6) (N := 9) F (pc0 g) rfl (fX6_draught_c a0 M rs hst hx) wcX6_draught mlL_83 wdX6_draught (by decide) (by decide) (by decide) rfl seX6_draught imX6_draught rfl (Nat.le_of_ble_eq_true rfl) dL_draught_4 (fun r9 h9 => ?_) (fun e9 h9 => ?_)
  · have h := hr r9 h9
    refine ml_i2l F dL_draught_7 ?_
    refine ml_last (x := r9) F rfl dL_draught_8 ?_
    refine ml_goto (tgt := 15) F dL_draught_9 (by decide) ?_
    refine ml_iconst (v := 0) F dL_draught_15 (by decide) ?_
    exact ml_iret (st := []) F h rfl rfl rfl (by decide) (by decide) dL_draught_16
  · obtain ⟨hc, h⟩ := hxx e9 h9
    have hc2 : e9 = 1 := by
      by_cases h1 : e9 = 1
      · exact h1
      · exact absurd (if_neg h1) hc
    rcases hc2 with rfl
    refine ⟨12, ⟨[], ⟨0, 9, 12, 21⟩, [], rfl, (fun z hz => by cases hz), by decide, by decide, ml_tb 992 (by decide +kernel) rfl, by decide, rfl⟩, fun q => ?_⟩
    refine ml_astore_n (ls2 := [(3, .ref q), (0, ml_rf g 0), (1, .int a0), (2, ml_rf g 181)]) F dL_draught_12 rfl (by decide) rfl ?_
    refine ml_iconst (v := 1) F dL_draught_13 (by decide) ?_
    exact ml_iret (st := []) F h rfl rfl rfl (by decide) (by decide) dL_draught_14
def fL_isGoingDown (a0 : Int32) (M : ml_M) : Option ml_R := lw_wr lw_pz (fun e => if e = 1 then 1 else 0) (fX6_isGoingDown a0 M)
set_option maxHeartbeats 4000000 in
set_option maxRecDepth 100000 in
theorem fL_isGoingDown_c (a0 : Int32) (M : ml_M) (res : ml_R) {g : ml_G} (hst : g.2.2.2.2.2.stackTraces = false) (h : fL_isGoingDown a0 M = some res) : ml_CW yL_isGoingDown cL_isGoingDown 4 (some .int) [(0, 16, 19, 21)] 3 1 6 g (fun r _ => some (.int r)) [ml_rf g 0, .int a0, ml_rf g 181] M res := by
  refine ml_ofW [(0, ml_rf g 0), (1, .int a0), (2, ml_rf g 181)] hst (by decide) (Nat.le_of_ble_eq_true rfl) rfl (fun E F => ?_)
  unfold fL_isGoingDown at h
  obtain ⟨rs, hx, hr, hxx⟩ := lw_wr_k h
  refine ml_aload_n (q := 2) F dL_isGoingDown_0 rfl rfl ?_
  refine ml_iconst (v := 0) F dL_isGoingDown_1 (by decide) ?_
  refine ml_aload_n (q := 0) F dL_isGoingDown_2 rfl rfl ?_
  refine ml_iload_n (q := 1) F dL_isGoingDown_3 rfl rfl ?_
  refine ml_callVC (rs := rs) (av := [.int a0]) (vl2 := (fun r _ => some (.int r))) (st := [.int 0, ml_rf g 181]) (kb := 0) (ci := 10) (T := TX6) (N := 9) F (pc0 g) rfl (fX6_isGoingDown_c a0 M rs hst hx) wcX6_isGoingDown mlL_86 wdX6_isGoingDown (by decide) (by decide) (by decide) rfl seX6_isGoingDown imX6_isGoingDown rfl (Nat.le_of_ble_eq_true rfl) dL_isGoingDown_4 (fun r9 h9 => ?_) (fun e9 h9 => ?_)
  · have h := hr r9 h9
    by_cases hz : r9 = 0
    · refine ml_if_eqT (tgt := 14) F dL_isGoingDown_7 (by decide) hz ?_
      refine ml_lconst (v := 0) F dL_isGoingDown_14 (by decide) ?_
      refine ml_last (x := 0) F (by decide) dL_isGoingDown_15 ?_
      unfold lw_pz at h
      rw [if_pos hz] at h
      refine ml_goto (tgt := 22) F dL_isGoingDown_16 (by decide) ?_
      refine ml_iconst (v := 0) F dL_isGoingDown_22 (by decide) ?_
      exact ml_iret (st := []) F h rfl rfl rfl (by decide) (by decide) dL_isGoingDown_23
    · refine ml_if_eqF (tgt := 14) F dL_isGoingDown_7 (by decide) hz ?_
      refine ml_lconst (v := 1) F dL_isGoingDown_10 (by decide) ?_
      refine ml_goto (tgt := 15) F dL_isGoingDown_11 (by decide) ?_
      refine ml_last (x := 1) F (by decide) dL_isGoingDown_15 ?_
      unfold lw_pz at h
      rw [if_neg hz] at h
      refine ml_goto (tgt := 22) F dL_isGoingDown_16 (by decide) ?_
      refine ml_iconst (v := 0) F dL_isGoingDown_22 (by decide) ?_
      exact ml_iret (st := []) F h rfl rfl rfl (by decide) (by decide) dL_isGoingDown_23
  · obtain ⟨hc, h⟩ := hxx e9 h9
    have hc2 : e9 = 1 := by
      by_cases h1 : e9 = 1
      · exact h1
      · exact absurd (if_neg h1) hc
    rcases hc2 with rfl
    refine ⟨19, ⟨[], ⟨0, 16, 19, 21⟩, [], rfl, (fun z hz => by cases hz), by decide, by decide, ml_tb 992 (by decide +kernel) rfl, by decide, rfl⟩, fun q => ?_⟩
    refine ml_astore_n (ls2 := [(3, .ref q), (0, ml_rf g 0), (1, .int a0), (2, ml_rf g 181)]) F dL_isGoingDown_19 rfl (by decide) rfl ?_
    refine ml_iconst (v := 1) F dL_isGoingDown_20 (by decide) ?_
    exact ml_iret (st := []) F h rfl rfl rfl (by decide) (by decide) dL_isGoingDown_21
def fL_basinOf (a0 : Int32) (M : ml_M) : Option ml_R := lw_wr lw_pi (fun e => if e = 1 then 1 else 0) (fX6_basinOf a0 M)
set_option maxHeartbeats 4000000 in
set_option maxRecDepth 100000 in
theorem fL_basinOf_c (a0 : Int32) (M : ml_M) (res : ml_R) {g : ml_G} (hst : g.2.2.2.2.2.stackTraces = false) (h : fL_basinOf a0 M = some res) : ml_CW yL_basinOf cL_basinOf 4 (some .int) [(0, 9, 12, 21)] 3 1 6 g (fun r _ => some (.int r)) [ml_rf g 0, .int a0, ml_rf g 181] M res := by
  refine ml_ofW [(0, ml_rf g 0), (1, .int a0), (2, ml_rf g 181)] hst (by decide) (Nat.le_of_ble_eq_true rfl) rfl (fun E F => ?_)
  unfold fL_basinOf at h
  obtain ⟨rs, hx, hr, hxx⟩ := lw_wr_k h
  refine ml_aload_n (q := 2) F dL_basinOf_0 rfl rfl ?_
  refine ml_iconst (v := 0) F dL_basinOf_1 (by decide) ?_
  refine ml_aload_n (q := 0) F dL_basinOf_2 rfl rfl ?_
  refine ml_iload_n (q := 1) F dL_basinOf_3 rfl rfl ?_
  refine ml_callVC (rs := rs) (av := [.int a0]) (vl2 := (fun r _ => some (.int r))) (st := [.int 0, ml_rf g 181]) (kb := 0) (ci := 10) (T := TX6) (N := 9) F (pc0 g) rfl (fX6_basinOf_c a0 M rs hst hx) wcX6_basinOf mlL_89 wdX6_basinOf (by decide) (by decide) (by decide) rfl seX6_basinOf imX6_basinOf rfl (Nat.le_of_ble_eq_true rfl) dL_basinOf_4 (fun r9 h9 => ?_) (fun e9 h9 => ?_)
  · have h := hr r9 h9
    refine ml_i2l F dL_basinOf_7 ?_
    refine ml_last (x := r9) F rfl dL_basinOf_8 ?_
    refine ml_goto (tgt := 15) F dL_basinOf_9 (by decide) ?_
    refine ml_iconst (v := 0) F dL_basinOf_15 (by decide) ?_
    exact ml_iret (st := []) F h rfl rfl rfl (by decide) (by decide) dL_basinOf_16
  · obtain ⟨hc, h⟩ := hxx e9 h9
    have hc2 : e9 = 1 := by
      by_cases h1 : e9 = 1
      · exact h1
      · exact absurd (if_neg h1) hc
    rcases hc2 with rfl
    refine ⟨12, ⟨[], ⟨0, 9, 12, 21⟩, [], rfl, (fun z hz => by cases hz), by decide, by decide, ml_tb 992 (by decide +kernel) rfl, by decide, rfl⟩, fun q => ?_⟩
    refine ml_astore_n (ls2 := [(3, .ref q), (0, ml_rf g 0), (1, .int a0), (2, ml_rf g 181)]) F dL_basinOf_12 rfl (by decide) rfl ?_
    refine ml_iconst (v := 1) F dL_basinOf_13 (by decide) ?_
    exact ml_iret (st := []) F h rfl rfl rfl (by decide) (by decide) dL_basinOf_14
def fL_boatsIn (a0 : Int32) (M : ml_M) : Option ml_R := lw_wr lw_pi (fun e => if e = 1 then 1 else 0) (fX6_boatsIn a0 M)
set_option maxHeartbeats 4000000 in
set_option maxRecDepth 100000 in
theorem fL_boatsIn_c (a0 : Int32) (M : ml_M) (res : ml_R) {g : ml_G} (hst : g.2.2.2.2.2.stackTraces = false) (h : fL_boatsIn a0 M = some res) : ml_CW yL_boatsIn cL_boatsIn 4 (some .int) [(0, 9, 12, 21)] 3 1 6 g (fun r _ => some (.int r)) [ml_rf g 0, .int a0, ml_rf g 181] M res := by
  refine ml_ofW [(0, ml_rf g 0), (1, .int a0), (2, ml_rf g 181)] hst (by decide) (Nat.le_of_ble_eq_true rfl) rfl (fun E F => ?_)
  unfold fL_boatsIn at h
  obtain ⟨rs, hx, hr, hxx⟩ := lw_wr_k h
  refine ml_aload_n (q := 2) F dL_boatsIn_0 rfl rfl ?_
  refine ml_iconst (v := 0) F dL_boatsIn_1 (by decide) ?_
  refine ml_aload_n (q := 0) F dL_boatsIn_2 rfl rfl ?_
  refine ml_iload_n (q := 1) F dL_boatsIn_3 rfl rfl ?_
  refine ml_callVC (rs := rs) (av := [.int a0]) (vl2 := (fun r _ => some (.int r))) (st := [.int 0, ml_rf g 181]) (kb := 0) (ci := 10) (T := TX6) (N := 9) F (pc0 g) rfl (fX6_boatsIn_c a0 M rs hst hx) wcX6_boatsIn mlL_92 wdX6_boatsIn (by decide) (by decide) (by decide) rfl seX6_boatsIn imX6_boatsIn rfl (Nat.le_of_ble_eq_true rfl) dL_boatsIn_4 (fun r9 h9 => ?_) (fun e9 h9 => ?_)
  · have h := hr r9 h9
    refine ml_i2l F dL_boatsIn_7 ?_
    refine ml_last (x := r9) F rfl dL_boatsIn_8 ?_
    refine ml_goto (tgt := 15) F dL_boatsIn_9 (by decide) ?_
    refine ml_iconst (v := 0) F dL_boatsIn_15 (by decide) ?_
    exact ml_iret (st := []) F h rfl rfl rfl (by decide) (by decide) dL_boatsIn_16
  · obtain ⟨hc, h⟩ := hxx e9 h9
    have hc2 : e9 = 1 := by
      by_cases h1 : e9 = 1
      · exact h1
      · exact absurd (if_neg h1) hc
    rcases hc2 with rfl
    refine ⟨12, ⟨[], ⟨0, 9, 12, 21⟩, [], rfl, (fun z hz => by cases hz), by decide, by decide, ml_tb 992 (by decide +kernel) rfl, by decide, rfl⟩, fun q => ?_⟩
    refine ml_astore_n (ls2 := [(3, .ref q), (0, ml_rf g 0), (1, .int a0), (2, ml_rf g 181)]) F dL_boatsIn_12 rfl (by decide) rfl ?_
    refine ml_iconst (v := 1) F dL_boatsIn_13 (by decide) ?_
    exact ml_iret (st := []) F h rfl rfl rfl (by decide) (by decide) dL_boatsIn_14
def fL_boatInOrder (a0 : Int32) (M : ml_M) : Option ml_R := lw_wr lw_pi (fun e => if e = 4 then 1 else 0) (fX6_boatInOrder a0 M)
set_option maxHeartbeats 4000000 in
set_option maxRecDepth 100000 in
theorem fL_boatInOrder_c (a0 : Int32) (M : ml_M) (res : ml_R) {g : ml_G} (hst : g.2.2.2.2.2.stackTraces = false) (h : fL_boatInOrder a0 M = some res) : ml_CW yL_boatInOrder cL_boatInOrder 4 (some .int) [(0, 9, 12, 77)] 3 1 6 g (fun r _ => some (.int r)) [ml_rf g 0, .int a0, ml_rf g 181] M res := by
  refine ml_ofW [(0, ml_rf g 0), (1, .int a0), (2, ml_rf g 181)] hst (by decide) (Nat.le_of_ble_eq_true rfl) rfl (fun E F => ?_)
  unfold fL_boatInOrder at h
  obtain ⟨rs, hx, hr, hxx⟩ := lw_wr_k h
  refine ml_aload_n (q := 2) F dL_boatInOrder_0 rfl rfl ?_
  refine ml_iconst (v := 0) F dL_boatInOrder_1 (by decide) ?_
  refine ml_aload_n (q := 0) F dL_boatInOrder_2 rfl rfl ?_
  refine ml_iload_n (q := 1) F dL_boatInOrder_3 rfl rfl ?_
  refine ml_callVC (rs := rs) (av := [.int a0]) (vl2 := (fun r _ => some (.int r))) (st := [.int 0, ml_rf g 181]) (kb := 0) (ci := 10) (T := TX6) (N := 9) F (pc0 g) rfl (fX6_boatInOrder_c a0 M rs hst hx) wcX6_boatInOrder mlL_95 wdX6_boatInOrder (by decide) (by decide) (by decide) rfl seX6_boatInOrder imX6_boatInOrder rfl (Nat.le_of_ble_eq_true rfl) dL_boatInOrder_4 (fun r9 h9 => ?_) (fun e9 h9 => ?_)
  · have h := hr r9 h9
    refine ml_i2l F dL_boatInOrder_7 ?_
    refine ml_last (x := r9) F rfl dL_boatInOrder_8 ?_
    refine ml_goto (tgt := 15) F dL_boatInOrder_9 (by decide) ?_
    refine ml_iconst (v := 0) F dL_boatInOrder_15 (by decide) ?_
    exact ml_iret (st := []) F h rfl rfl rfl (by decide) (by decide) dL_boatInOrder_16
  · obtain ⟨hc, h⟩ := hxx e9 h9
    have hc2 : e9 = 4 := by
      by_cases h1 : e9 = 4
      · exact h1
      · exact absurd (if_neg h1) hc
    rcases hc2 with rfl
    refine ⟨12, ⟨[], ⟨0, 9, 12, 77⟩, [], rfl, (fun z hz => by cases hz), by decide, by decide, ml_tb 1119 (by decide +kernel) rfl, by decide, rfl⟩, fun q => ?_⟩
    refine ml_astore_n (ls2 := [(3, .ref q), (0, ml_rf g 0), (1, .int a0), (2, ml_rf g 181)]) F dL_boatInOrder_12 rfl (by decide) rfl ?_
    refine ml_iconst (v := 1) F dL_boatInOrder_13 (by decide) ?_
    exact ml_iret (st := []) F h rfl rfl rfl (by decide) (by decide) dL_boatInOrder_14
def fL_floats (a0 : Int32) (a1 : Int32) (M : ml_M) : Option ml_R := lw_wr lw_pz (fun e => if e = 1 then 1 else 0) (fX6_floats a0 a1 M)
set_option maxHeartbeats 4000000 in
set_option maxRecDepth 100000 in
theorem fL_floats_c (a0 : Int32) (a1 : Int32) (M : ml_M) (res : ml_R) {g : ml_G} (hst : g.2.2.2.2.2.stackTraces = false) (h : fL_floats a0 a1 M = some res) : ml_CW yL_floats cL_floats 5 (some .int) [(0, 17, 20, 21)] 4 2 12 g (fun r _ => some (.int r)) [ml_rf g 0, .int a0, .int a1, ml_rf g 181] M res := by
  refine ml_ofW [(0, ml_rf g 0), (1, .int a0), (2, .int a1), (3, ml_rf g 181)] hst (by decide) (Nat.le_of_ble_eq_true rfl) rfl (fun E F => ?_)
  unfold fL_floats at h
  obtain ⟨rs, hx, hr, hxx⟩ := lw_wr_k h
  refine ml_aload_n (q := 3) F dL_floats_0 rfl rfl ?_
  refine ml_iconst (v := 0) F dL_floats_1 (by decide) ?_
  refine ml_aload_n (q := 0) F dL_floats_2 rfl rfl ?_
  refine ml_iload_n (q := 1) F dL_floats_3 rfl rfl ?_
  refine ml_iload_n (q := 2) F dL_floats_4 rfl rfl ?_
  refine ml_callVC (rs := rs) (av := [.int a0, .int a1]) (vl2 := (fun r _ => some (.int r))) (st := [.int 0, ml_rf g 181]) (kb := 0) (ci := 10) (T := TX6) (N := 9) F (pc0 g) rfl (fX6_floats_c a0 a1 M rs hst hx) wcX6_floats mlL_98 wdX6_floats (by decide) (by decide) (by decide) rfl seX6_floats imX6_floats rfl (Nat.le_of_ble_eq_true rfl) dL_floats_5 (fun r9 h9 => ?_) (fun e9 h9 => ?_)
  · have h := hr r9 h9
    by_cases hz : r9 = 0
    · refine ml_if_eqT (tgt := 15) F dL_floats_8 (by decide) hz ?_
      refine ml_lconst (v := 0) F dL_floats_15 (by decide) ?_
      refine ml_last (x := 0) F (by decide) dL_floats_16 ?_
      unfold lw_pz at h
      rw [if_pos hz] at h
      refine ml_goto (tgt := 24) F dL_floats_17 (by decide) ?_
      refine ml_iconst (v := 0) F dL_floats_24 (by decide) ?_
      exact ml_iret (st := []) F h rfl rfl rfl (by decide) (by decide) dL_floats_25
    · refine ml_if_eqF (tgt := 15) F dL_floats_8 (by decide) hz ?_
      refine ml_lconst (v := 1) F dL_floats_11 (by decide) ?_
      refine ml_goto (tgt := 16) F dL_floats_12 (by decide) ?_
      refine ml_last (x := 1) F (by decide) dL_floats_16 ?_
      unfold lw_pz at h
      rw [if_neg hz] at h
      refine ml_goto (tgt := 24) F dL_floats_17 (by decide) ?_
      refine ml_iconst (v := 0) F dL_floats_24 (by decide) ?_
      exact ml_iret (st := []) F h rfl rfl rfl (by decide) (by decide) dL_floats_25
  · obtain ⟨hc, h⟩ := hxx e9 h9
    have hc2 : e9 = 1 := by
      by_cases h1 : e9 = 1
      · exact h1
      · exact absurd (if_neg h1) hc
    rcases hc2 with rfl
    refine ⟨20, ⟨[], ⟨0, 17, 20, 21⟩, [], rfl, (fun z hz => by cases hz), by decide, by decide, ml_tb 992 (by decide +kernel) rfl, by decide, rfl⟩, fun q => ?_⟩
    refine ml_astore (ls2 := [(4, .ref q), (0, ml_rf g 0), (1, .int a0), (2, .int a1), (3, ml_rf g 181)]) F dL_floats_20 (by decide) rfl ?_
    refine ml_iconst (v := 1) F dL_floats_22 (by decide) ?_
    exact ml_iret (st := []) F h rfl rfl rfl (by decide) (by decide) dL_floats_23
def fL_leftTotal (a0 : Int32) (M : ml_M) : Option ml_R := lw_wr lw_pi (fun e => if e = 2 then 1 else 0) (fX6_leftTotal a0 M)
set_option maxHeartbeats 4000000 in
set_option maxRecDepth 100000 in
theorem fL_leftTotal_c (a0 : Int32) (M : ml_M) (res : ml_R) {g : ml_G} (hst : g.2.2.2.2.2.stackTraces = false) (h : fL_leftTotal a0 M = some res) : ml_CW yL_leftTotal cL_leftTotal 4 (some .int) [(0, 9, 12, 13)] 3 1 6 g (fun r _ => some (.int r)) [ml_rf g 0, .int a0, ml_rf g 181] M res := by
  refine ml_ofW [(0, ml_rf g 0), (1, .int a0), (2, ml_rf g 181)] hst (by decide) (Nat.le_of_ble_eq_true rfl) rfl (fun E F => ?_)
  unfold fL_leftTotal at h
  obtain ⟨rs, hx, hr, hxx⟩ := lw_wr_k h
  refine ml_aload_n (q := 2) F dL_leftTotal_0 rfl rfl ?_
  refine ml_iconst (v := 0) F dL_leftTotal_1 (by decide) ?_
  refine ml_aload_n (q := 0) F dL_leftTotal_2 rfl rfl ?_
  refine ml_iload_n (q := 1) F dL_leftTotal_3 rfl rfl ?_
  refine ml_callVC (rs := rs) (av := [.int a0]) (vl2 := (fun r _ => some (.int r))) (st := [.int 0, ml_rf g 181]) (kb := 0) (ci := 10) (T := TX6) (N := 9) F (pc0 g) rfl (fX6_leftTotal_c a0 M rs hst hx) wcX6_leftTotal mlL_101 wdX6_leftTotal (by decide) (by decide) (by decide) rfl seX6_leftTotal imX6_leftTotal rfl (Nat.le_of_ble_eq_true rfl) dL_leftTotal_4 (fun r9 h9 => ?_) (fun e9 h9 => ?_)
  · have h := hr r9 h9
    refine ml_i2l F dL_leftTotal_7 ?_
    refine ml_last (x := r9) F rfl dL_leftTotal_8 ?_
    refine ml_goto (tgt := 15) F dL_leftTotal_9 (by decide) ?_
    refine ml_iconst (v := 0) F dL_leftTotal_15 (by decide) ?_
    exact ml_iret (st := []) F h rfl rfl rfl (by decide) (by decide) dL_leftTotal_16
  · obtain ⟨hc, h⟩ := hxx e9 h9
    have hc2 : e9 = 2 := by
      by_cases h1 : e9 = 2
      · exact h1
      · exact absurd (if_neg h1) hc
    rcases hc2 with rfl
    refine ⟨12, ⟨[], ⟨0, 9, 12, 13⟩, [], rfl, (fun z hz => by cases hz), by decide, by decide, ml_tb 798 (by decide +kernel) rfl, by decide, rfl⟩, fun q => ?_⟩
    refine ml_astore_n (ls2 := [(3, .ref q), (0, ml_rf g 0), (1, .int a0), (2, ml_rf g 181)]) F dL_leftTotal_12 rfl (by decide) rfl ?_
    refine ml_iconst (v := 1) F dL_leftTotal_13 (by decide) ?_
    exact ml_iret (st := []) F h rfl rfl rfl (by decide) (by decide) dL_leftTotal_14
def fL_minutesUntilLeaving (a0 : Int32) (M : ml_M) : Option ml_R := lw_wr lw_pi (fun e => if e = 1 then 1 else if e = 4 then 2 else 0) (fX6_minutesUntilLeaving a0 M)
set_option maxHeartbeats 4000000 in
set_option maxRecDepth 100000 in
theorem fL_minutesUntilLeaving_c (a0 : Int32) (M : ml_M) (res : ml_R) {g : ml_G} (hst : g.2.2.2.2.2.stackTraces = false) (h : fL_minutesUntilLeaving a0 M = some res) : ml_CW yL_minutesUntilLeaving cL_minutesUntilLeaving 4 (some .int) [(0, 9, 12, 21), (0, 9, 15, 77)] 7 2 12 g (fun r _ => some (.int r)) [ml_rf g 0, .int a0, ml_rf g 181] M res := by
  refine ml_ofW [(0, ml_rf g 0), (1, .int a0), (2, ml_rf g 181)] hst (by decide) (Nat.le_of_ble_eq_true rfl) rfl (fun E F => ?_)
  unfold fL_minutesUntilLeaving at h
  obtain ⟨rs, hx, hr, hxx⟩ := lw_wr_k h
  refine ml_aload_n (q := 2) F dL_minutesUntilLeaving_0 rfl rfl ?_
  refine ml_iconst (v := 0) F dL_minutesUntilLeaving_1 (by decide) ?_
  refine ml_aload_n (q := 0) F dL_minutesUntilLeaving_2 rfl rfl ?_
  refine ml_iload_n (q := 1) F dL_minutesUntilLeaving_3 rfl rfl ?_
  refine ml_callVC (rs := rs) (av := [.int a0]) (vl2 := (fun r _ => some (.int r))) (st := [.int 0, ml_rf g 181]) (kb := 0) (ci := 10) (T := TX6) (N := 9) F (pc0 g) rfl (fX6_minutesUntilLeaving_c a0 M rs hst hx) wcX6_minutesUntilLeaving mlL_105 wdX6_minutesUntilLeaving (by decide) (by decide) (by decide) rfl seX6_minutesUntilLeaving imX6_minutesUntilLeaving rfl (Nat.le_of_ble_eq_true rfl) dL_minutesUntilLeaving_4 (fun r9 h9 => ?_) (fun e9 h9 => ?_)
  · have h := hr r9 h9
    refine ml_i2l F dL_minutesUntilLeaving_7 ?_
    refine ml_last (x := r9) F rfl dL_minutesUntilLeaving_8 ?_
    refine ml_goto (tgt := 18) F dL_minutesUntilLeaving_9 (by decide) ?_
    refine ml_iconst (v := 0) F dL_minutesUntilLeaving_18 (by decide) ?_
    exact ml_iret (st := []) F h rfl rfl rfl (by decide) (by decide) dL_minutesUntilLeaving_19
  · obtain ⟨hc, h⟩ := hxx e9 h9
    have hc2 : e9 = 1 ∨ e9 = 4 := by
      by_cases h0 : e9 = 1
      · exact Or.inl h0
      · skip
        by_cases h1 : e9 = 4
        · exact Or.inr h1
        · exact absurd (by simp [h0, h1]) hc
    rcases hc2 with rfl | rfl
    · refine ⟨12, ⟨[], ⟨0, 9, 12, 21⟩, [⟨0, 9, 15, 77⟩], rfl, (fun z hz => by cases hz), by decide, by decide, ml_tb 992 (by decide +kernel) rfl, by decide, rfl⟩, fun q => ?_⟩
      refine ml_astore_n (ls2 := [(3, .ref q), (0, ml_rf g 0), (1, .int a0), (2, ml_rf g 181)]) F dL_minutesUntilLeaving_12 rfl (by decide) rfl ?_
      refine ml_iconst (v := 1) F dL_minutesUntilLeaving_13 (by decide) ?_
      exact ml_iret (st := []) F h rfl rfl rfl (by decide) (by decide) dL_minutesUntilLeaving_14
    · refine ⟨15, ⟨[⟨0, 9, 12, 21⟩], ⟨0, 9, 15, 77⟩, [], rfl, (fun z hz => by rcases List.mem_cons.mp hz with rfl | hz; exact Or.inr ⟨by decide, "java/lang/IndexOutOfBoundsException", ml_tb 992 (by decide +kernel) rfl, by decide⟩; cases hz), by decide, by decide, ml_tb 1119 (by decide +kernel) rfl, by decide, rfl⟩, fun q => ?_⟩
      refine ml_astore_n (ls2 := [(3, .ref q), (0, ml_rf g 0), (1, .int a0), (2, ml_rf g 181)]) F dL_minutesUntilLeaving_15 rfl (by decide) rfl ?_
      refine ml_iconst (v := 2) F dL_minutesUntilLeaving_16 (by decide) ?_
      exact ml_iret (st := []) F h rfl rfl rfl (by decide) (by decide) dL_minutesUntilLeaving_17
def fL_minutesUntilEqual (a0 : Int32) (M : ml_M) : Option ml_R := lw_wr lw_pi (fun e => if e = 1 then 1 else if e = 4 then 2 else 0) (fX6_minutesUntilEqual a0 M)
set_option maxHeartbeats 4000000 in
set_option maxRecDepth 100000 in
theorem fL_minutesUntilEqual_c (a0 : Int32) (M : ml_M) (res : ml_R) {g : ml_G} (hst : g.2.2.2.2.2.stackTraces = false) (h : fL_minutesUntilEqual a0 M = some res) : ml_CW yL_minutesUntilEqual cL_minutesUntilEqual 4 (some .int) [(0, 9, 12, 21), (0, 9, 15, 77)] 7 2 12 g (fun r _ => some (.int r)) [ml_rf g 0, .int a0, ml_rf g 181] M res := by
  refine ml_ofW [(0, ml_rf g 0), (1, .int a0), (2, ml_rf g 181)] hst (by decide) (Nat.le_of_ble_eq_true rfl) rfl (fun E F => ?_)
  unfold fL_minutesUntilEqual at h
  obtain ⟨rs, hx, hr, hxx⟩ := lw_wr_k h
  refine ml_aload_n (q := 2) F dL_minutesUntilEqual_0 rfl rfl ?_
  refine ml_iconst (v := 0) F dL_minutesUntilEqual_1 (by decide) ?_
  refine ml_aload_n (q := 0) F dL_minutesUntilEqual_2 rfl rfl ?_
  refine ml_iload_n (q := 1) F dL_minutesUntilEqual_3 rfl rfl ?_
  refine ml_callVC (rs := rs) (av := [.int a0]) (vl2 := (fun r _ => some (.int r))) (st := [.int 0, ml_rf g 181]) (kb := 0) (ci := 10) (T := TX6) (N := 9) F (pc0 g) rfl (fX6_minutesUntilEqual_c a0 M rs hst hx) wcX6_minutesUntilEqual mlL_108 wdX6_minutesUntilEqual (by decide) (by decide) (by decide) rfl seX6_minutesUntilEqual imX6_minutesUntilEqual rfl (Nat.le_of_ble_eq_true rfl) dL_minutesUntilEqual_4 (fun r9 h9 => ?_) (fun e9 h9 => ?_)
  · have h := hr r9 h9
    refine ml_i2l F dL_minutesUntilEqual_7 ?_
    refine ml_last (x := r9) F rfl dL_minutesUntilEqual_8 ?_
    refine ml_goto (tgt := 18) F dL_minutesUntilEqual_9 (by decide) ?_
    refine ml_iconst (v := 0) F dL_minutesUntilEqual_18 (by decide) ?_
    exact ml_iret (st := []) F h rfl rfl rfl (by decide) (by decide) dL_minutesUntilEqual_19
  · obtain ⟨hc, h⟩ := hxx e9 h9
    have hc2 : e9 = 1 ∨ e9 = 4 := by
      by_cases h0 : e9 = 1
      · exact Or.inl h0
      · skip
        by_cases h1 : e9 = 4
        · exact Or.inr h1
        · exact absurd (by simp [h0, h1]) hc
    rcases hc2 with rfl | rfl
    · refine ⟨12, ⟨[], ⟨0, 9, 12, 21⟩, [⟨0, 9, 15, 77⟩], rfl, (fun z hz => by cases hz), by decide, by decide, ml_tb 992 (by decide +kernel) rfl, by decide, rfl⟩, fun q => ?_⟩
      refine ml_astore_n (ls2 := [(3, .ref q), (0, ml_rf g 0), (1, .int a0), (2, ml_rf g 181)]) F dL_minutesUntilEqual_12 rfl (by decide) rfl ?_
      refine ml_iconst (v := 1) F dL_minutesUntilEqual_13 (by decide) ?_
      exact ml_iret (st := []) F h rfl rfl rfl (by decide) (by decide) dL_minutesUntilEqual_14
    · refine ⟨15, ⟨[⟨0, 9, 12, 21⟩], ⟨0, 9, 15, 77⟩, [], rfl, (fun z hz => by rcases List.mem_cons.mp hz with rfl | hz; exact Or.inr ⟨by decide, "java/lang/IndexOutOfBoundsException", ml_tb 992 (by decide +kernel) rfl, by decide⟩; cases hz), by decide, by decide, ml_tb 1119 (by decide +kernel) rfl, by decide, rfl⟩, fun q => ?_⟩
      refine ml_astore_n (ls2 := [(3, .ref q), (0, ml_rf g 0), (1, .int a0), (2, ml_rf g 181)]) F dL_minutesUntilEqual_15 rfl (by decide) rfl ?_
      refine ml_iconst (v := 2) F dL_minutesUntilEqual_16 (by decide) ?_
      exact ml_iret (st := []) F h rfl rfl rfl (by decide) (by decide) dL_minutesUntilEqual_17
def fL_volumeAfter (a0 : Int32) (a1 : Int32) (M : ml_M) : Option ml_R := lw_wr lw_pi (fun e => if e = 1 then 1 else if e = 2 then 2 else 0) (fX6_volumeAfter a0 a1 M)
set_option maxHeartbeats 4000000 in
set_option maxRecDepth 100000 in
theorem fL_volumeAfter_c (a0 : Int32) (a1 : Int32) (M : ml_M) (res : ml_R) {g : ml_G} (hst : g.2.2.2.2.2.stackTraces = false) (h : fL_volumeAfter a0 a1 M = some res) : ml_CW yL_volumeAfter cL_volumeAfter 5 (some .int) [(0, 10, 13, 21), (0, 10, 17, 13)] 7 2 12 g (fun r _ => some (.int r)) [ml_rf g 0, .int a0, .int a1, ml_rf g 181] M res := by
  refine ml_ofW [(0, ml_rf g 0), (1, .int a0), (2, .int a1), (3, ml_rf g 181)] hst (by decide) (Nat.le_of_ble_eq_true rfl) rfl (fun E F => ?_)
  unfold fL_volumeAfter at h
  obtain ⟨rs, hx, hr, hxx⟩ := lw_wr_k h
  refine ml_aload_n (q := 3) F dL_volumeAfter_0 rfl rfl ?_
  refine ml_iconst (v := 0) F dL_volumeAfter_1 (by decide) ?_
  refine ml_aload_n (q := 0) F dL_volumeAfter_2 rfl rfl ?_
  refine ml_iload_n (q := 1) F dL_volumeAfter_3 rfl rfl ?_
  refine ml_iload_n (q := 2) F dL_volumeAfter_4 rfl rfl ?_
  refine ml_callVC (rs := rs) (av := [.int a0, .int a1]) (vl2 := (fun r _ => some (.int r))) (st := [.int 0, ml_rf g 181]) (kb := 0) (ci := 10) (T := TX6) (N := 9) F (pc0 g) rfl (fX6_volumeAfter_c a0 a1 M rs hst hx) wcX6_volumeAfter mlL_111 wdX6_volumeAfter (by decide) (by decide) (by decide) rfl seX6_volumeAfter imX6_volumeAfter rfl (Nat.le_of_ble_eq_true rfl) dL_volumeAfter_5 (fun r9 h9 => ?_) (fun e9 h9 => ?_)
  · have h := hr r9 h9
    refine ml_i2l F dL_volumeAfter_8 ?_
    refine ml_last (x := r9) F rfl dL_volumeAfter_9 ?_
    refine ml_goto (tgt := 21) F dL_volumeAfter_10 (by decide) ?_
    refine ml_iconst (v := 0) F dL_volumeAfter_21 (by decide) ?_
    exact ml_iret (st := []) F h rfl rfl rfl (by decide) (by decide) dL_volumeAfter_22
  · obtain ⟨hc, h⟩ := hxx e9 h9
    have hc2 : e9 = 1 ∨ e9 = 2 := by
      by_cases h0 : e9 = 1
      · exact Or.inl h0
      · skip
        by_cases h1 : e9 = 2
        · exact Or.inr h1
        · exact absurd (by simp [h0, h1]) hc
    rcases hc2 with rfl | rfl
    · refine ⟨13, ⟨[], ⟨0, 10, 13, 21⟩, [⟨0, 10, 17, 13⟩], rfl, (fun z hz => by cases hz), by decide, by decide, ml_tb 992 (by decide +kernel) rfl, by decide, rfl⟩, fun q => ?_⟩
      refine ml_astore (ls2 := [(4, .ref q), (0, ml_rf g 0), (1, .int a0), (2, .int a1), (3, ml_rf g 181)]) F dL_volumeAfter_13 (by decide) rfl ?_
      refine ml_iconst (v := 1) F dL_volumeAfter_15 (by decide) ?_
      exact ml_iret (st := []) F h rfl rfl rfl (by decide) (by decide) dL_volumeAfter_16
    · refine ⟨17, ⟨[⟨0, 10, 13, 21⟩], ⟨0, 10, 17, 13⟩, [], rfl, (fun z hz => by rcases List.mem_cons.mp hz with rfl | hz; exact Or.inr ⟨by decide, "java/lang/IndexOutOfBoundsException", ml_tb 992 (by decide +kernel) rfl, by decide⟩; cases hz), by decide, by decide, ml_tb 798 (by decide +kernel) rfl, by decide, rfl⟩, fun q => ?_⟩
      refine ml_astore (ls2 := [(4, .ref q), (0, ml_rf g 0), (1, .int a0), (2, .int a1), (3, ml_rf g 181)]) F dL_volumeAfter_17 (by decide) rfl ?_
      refine ml_iconst (v := 2) F dL_volumeAfter_19 (by decide) ?_
      exact ml_iret (st := []) F h rfl rfl rfl (by decide) (by decide) dL_volumeAfter_20
def fL_eventKind (a0 : Int32) (M : ml_M) : Option ml_R := lw_wr lw_pi (fun e => if e = 4 then 1 else 0) (fX6_eventKind a0 M)
set_option maxHeartbeats 4000000 in
set_option maxRecDepth 100000 in
theorem fL_eventKind_c (a0 : Int32) (M : ml_M) (res : ml_R) {g : ml_G} (hst : g.2.2.2.2.2.stackTraces = false) (h : fL_eventKind a0 M = some res) : ml_CW yL_eventKind cL_eventKind 4 (some .int) [(0, 9, 12, 77)] 4 1 6 g (fun r _ => some (.int r)) [ml_rf g 0, .int a0, ml_rf g 181] M res := by
  refine ml_ofW [(0, ml_rf g 0), (1, .int a0), (2, ml_rf g 181)] hst (by decide) (Nat.le_of_ble_eq_true rfl) rfl (fun E F => ?_)
  unfold fL_eventKind at h
  obtain ⟨rs, hx, hr, hxx⟩ := lw_wr_k h
  refine ml_aload_n (q := 2) F dL_eventKind_0 rfl rfl ?_
  refine ml_iconst (v := 0) F dL_eventKind_1 (by decide) ?_
  refine ml_aload_n (q := 0) F dL_eventKind_2 rfl rfl ?_
  refine ml_iload_n (q := 1) F dL_eventKind_3 rfl rfl ?_
  refine ml_callVC (rs := rs) (av := [.int a0]) (vl2 := (fun r _ => some (.int r))) (st := [.int 0, ml_rf g 181]) (kb := 0) (ci := 10) (T := TX6) (N := 9) F (pc0 g) rfl (fX6_eventKind_c a0 M rs hst hx) wcX6_eventKind mlL_114 wdX6_eventKind (by decide) (by decide) (by decide) rfl seX6_eventKind imX6_eventKind rfl (Nat.le_of_ble_eq_true rfl) dL_eventKind_4 (fun r9 h9 => ?_) (fun e9 h9 => ?_)
  · have h := hr r9 h9
    refine ml_i2l F dL_eventKind_7 ?_
    refine ml_last (x := r9) F rfl dL_eventKind_8 ?_
    refine ml_goto (tgt := 15) F dL_eventKind_9 (by decide) ?_
    refine ml_iconst (v := 0) F dL_eventKind_15 (by decide) ?_
    exact ml_iret (st := []) F h rfl rfl rfl (by decide) (by decide) dL_eventKind_16
  · obtain ⟨hc, h⟩ := hxx e9 h9
    have hc2 : e9 = 4 := by
      by_cases h1 : e9 = 4
      · exact h1
      · exact absurd (if_neg h1) hc
    rcases hc2 with rfl
    refine ⟨12, ⟨[], ⟨0, 9, 12, 77⟩, [], rfl, (fun z hz => by cases hz), by decide, by decide, ml_tb 1119 (by decide +kernel) rfl, by decide, rfl⟩, fun q => ?_⟩
    refine ml_astore_n (ls2 := [(3, .ref q), (0, ml_rf g 0), (1, .int a0), (2, ml_rf g 181)]) F dL_eventKind_12 rfl (by decide) rfl ?_
    refine ml_iconst (v := 1) F dL_eventKind_13 (by decide) ?_
    exact ml_iret (st := []) F h rfl rfl rfl (by decide) (by decide) dL_eventKind_14
def fL_eventNumber (a0 : Int32) (M : ml_M) : Option ml_R := lw_wr lw_pi (fun e => if e = 4 then 1 else 0) (fX6_eventNumber a0 M)
set_option maxHeartbeats 4000000 in
set_option maxRecDepth 100000 in
theorem fL_eventNumber_c (a0 : Int32) (M : ml_M) (res : ml_R) {g : ml_G} (hst : g.2.2.2.2.2.stackTraces = false) (h : fL_eventNumber a0 M = some res) : ml_CW yL_eventNumber cL_eventNumber 4 (some .int) [(0, 9, 12, 77)] 4 1 6 g (fun r _ => some (.int r)) [ml_rf g 0, .int a0, ml_rf g 181] M res := by
  refine ml_ofW [(0, ml_rf g 0), (1, .int a0), (2, ml_rf g 181)] hst (by decide) (Nat.le_of_ble_eq_true rfl) rfl (fun E F => ?_)
  unfold fL_eventNumber at h
  obtain ⟨rs, hx, hr, hxx⟩ := lw_wr_k h
  refine ml_aload_n (q := 2) F dL_eventNumber_0 rfl rfl ?_
  refine ml_iconst (v := 0) F dL_eventNumber_1 (by decide) ?_
  refine ml_aload_n (q := 0) F dL_eventNumber_2 rfl rfl ?_
  refine ml_iload_n (q := 1) F dL_eventNumber_3 rfl rfl ?_
  refine ml_callVC (rs := rs) (av := [.int a0]) (vl2 := (fun r _ => some (.int r))) (st := [.int 0, ml_rf g 181]) (kb := 0) (ci := 10) (T := TX6) (N := 9) F (pc0 g) rfl (fX6_eventNumber_c a0 M rs hst hx) wcX6_eventNumber mlL_117 wdX6_eventNumber (by decide) (by decide) (by decide) rfl seX6_eventNumber imX6_eventNumber rfl (Nat.le_of_ble_eq_true rfl) dL_eventNumber_4 (fun r9 h9 => ?_) (fun e9 h9 => ?_)
  · have h := hr r9 h9
    refine ml_i2l F dL_eventNumber_7 ?_
    refine ml_last (x := r9) F rfl dL_eventNumber_8 ?_
    refine ml_goto (tgt := 15) F dL_eventNumber_9 (by decide) ?_
    refine ml_iconst (v := 0) F dL_eventNumber_15 (by decide) ?_
    exact ml_iret (st := []) F h rfl rfl rfl (by decide) (by decide) dL_eventNumber_16
  · obtain ⟨hc, h⟩ := hxx e9 h9
    have hc2 : e9 = 4 := by
      by_cases h1 : e9 = 4
      · exact h1
      · exact absurd (if_neg h1) hc
    rcases hc2 with rfl
    refine ⟨12, ⟨[], ⟨0, 9, 12, 77⟩, [], rfl, (fun z hz => by cases hz), by decide, by decide, ml_tb 1119 (by decide +kernel) rfl, by decide, rfl⟩, fun q => ?_⟩
    refine ml_astore_n (ls2 := [(3, .ref q), (0, ml_rf g 0), (1, .int a0), (2, ml_rf g 181)]) F dL_eventNumber_12 rfl (by decide) rfl ?_
    refine ml_iconst (v := 1) F dL_eventNumber_13 (by decide) ?_
    exact ml_iret (st := []) F h rfl rfl rfl (by decide) (by decide) dL_eventNumber_14
def fL_renderBoat (a0 : Int32) (M : ml_M) : Option ml_R := lw_wr lw_pi (fun e => if e = 1 then 1 else 0) (fX6_renderBoat a0 M)
set_option maxHeartbeats 4000000 in
set_option maxRecDepth 100000 in
theorem fL_renderBoat_c (a0 : Int32) (M : ml_M) (res : ml_R) {g : ml_G} (hst : g.2.2.2.2.2.stackTraces = false) (h : fL_renderBoat a0 M = some res) : ml_CW yL_renderBoat cL_renderBoat 4 (some .int) [(0, 9, 12, 21)] 6 1 6 g (fun r _ => some (.int r)) [ml_rf g 0, .int a0, ml_rf g 181] M res := by
  refine ml_ofW [(0, ml_rf g 0), (1, .int a0), (2, ml_rf g 181)] hst (by decide) (Nat.le_of_ble_eq_true rfl) rfl (fun E F => ?_)
  unfold fL_renderBoat at h
  obtain ⟨rs, hx, hr, hxx⟩ := lw_wr_k h
  refine ml_aload_n (q := 2) F dL_renderBoat_0 rfl rfl ?_
  refine ml_iconst (v := 0) F dL_renderBoat_1 (by decide) ?_
  refine ml_aload_n (q := 0) F dL_renderBoat_2 rfl rfl ?_
  refine ml_iload_n (q := 1) F dL_renderBoat_3 rfl rfl ?_
  refine ml_callVC (rs := rs) (av := [.int a0]) (vl2 := (fun r _ => some (.int r))) (st := [.int 0, ml_rf g 181]) (kb := 0) (ci := 10) (T := TX6) (N := 9) F (pc0 g) rfl (fX6_renderBoat_c a0 M rs hst hx) wcX6_renderBoat mlL_120 wdX6_renderBoat (by decide) (by decide) (by decide) rfl seX6_renderBoat imX6_renderBoat rfl (Nat.le_of_ble_eq_true rfl) dL_renderBoat_4 (fun r9 h9 => ?_) (fun e9 h9 => ?_)
  · have h := hr r9 h9
    refine ml_i2l F dL_renderBoat_7 ?_
    refine ml_last (x := r9) F rfl dL_renderBoat_8 ?_
    refine ml_goto (tgt := 15) F dL_renderBoat_9 (by decide) ?_
    refine ml_iconst (v := 0) F dL_renderBoat_15 (by decide) ?_
    exact ml_iret (st := []) F h rfl rfl rfl (by decide) (by decide) dL_renderBoat_16
  · obtain ⟨hc, h⟩ := hxx e9 h9
    have hc2 : e9 = 1 := by
      by_cases h1 : e9 = 1
      · exact h1
      · exact absurd (if_neg h1) hc
    rcases hc2 with rfl
    refine ⟨12, ⟨[], ⟨0, 9, 12, 21⟩, [], rfl, (fun z hz => by cases hz), by decide, by decide, ml_tb 992 (by decide +kernel) rfl, by decide, rfl⟩, fun q => ?_⟩
    refine ml_astore_n (ls2 := [(3, .ref q), (0, ml_rf g 0), (1, .int a0), (2, ml_rf g 181)]) F dL_renderBoat_12 rfl (by decide) rfl ?_
    refine ml_iconst (v := 1) F dL_renderBoat_13 (by decide) ?_
    exact ml_iret (st := []) F h rfl rfl rfl (by decide) (by decide) dL_renderBoat_14
def fL_outputAt (a0 : Int32) (M : ml_M) : Option ml_R := lw_wr lw_pi (fun e => if e = 1 then 1 else 0) (fX6_outputAt a0 M)
set_option maxHeartbeats 4000000 in
set_option maxRecDepth 100000 in
theorem fL_outputAt_c (a0 : Int32) (M : ml_M) (res : ml_R) {g : ml_G} (hst : g.2.2.2.2.2.stackTraces = false) (h : fL_outputAt a0 M = some res) : ml_CW yL_outputAt cL_outputAt 4 (some .int) [(0, 9, 12, 21)] 6 1 6 g (fun r _ => some (.int r)) [ml_rf g 0, .int a0, ml_rf g 181] M res := by
  refine ml_ofW [(0, ml_rf g 0), (1, .int a0), (2, ml_rf g 181)] hst (by decide) (Nat.le_of_ble_eq_true rfl) rfl (fun E F => ?_)
  unfold fL_outputAt at h
  obtain ⟨rs, hx, hr, hxx⟩ := lw_wr_k h
  refine ml_aload_n (q := 2) F dL_outputAt_0 rfl rfl ?_
  refine ml_iconst (v := 0) F dL_outputAt_1 (by decide) ?_
  refine ml_aload_n (q := 0) F dL_outputAt_2 rfl rfl ?_
  refine ml_iload_n (q := 1) F dL_outputAt_3 rfl rfl ?_
  refine ml_callVC (rs := rs) (av := [.int a0]) (vl2 := (fun r _ => some (.int r))) (st := [.int 0, ml_rf g 181]) (kb := 0) (ci := 10) (T := TX6) (N := 9) F (pc0 g) rfl (fX6_outputAt_c a0 M rs hst hx) wcX6_outputAt mlL_123 wdX6_outputAt (by decide) (by decide) (by decide) rfl seX6_outputAt imX6_outputAt rfl (Nat.le_of_ble_eq_true rfl) dL_outputAt_4 (fun r9 h9 => ?_) (fun e9 h9 => ?_)
  · have h := hr r9 h9
    refine ml_i2l F dL_outputAt_7 ?_
    refine ml_last (x := r9) F rfl dL_outputAt_8 ?_
    refine ml_goto (tgt := 15) F dL_outputAt_9 (by decide) ?_
    refine ml_iconst (v := 0) F dL_outputAt_15 (by decide) ?_
    exact ml_iret (st := []) F h rfl rfl rfl (by decide) (by decide) dL_outputAt_16
  · obtain ⟨hc, h⟩ := hxx e9 h9
    have hc2 : e9 = 1 := by
      by_cases h1 : e9 = 1
      · exact h1
      · exact absurd (if_neg h1) hc
    rcases hc2 with rfl
    refine ⟨12, ⟨[], ⟨0, 9, 12, 21⟩, [], rfl, (fun z hz => by cases hz), by decide, by decide, ml_tb 992 (by decide +kernel) rfl, by decide, rfl⟩, fun q => ?_⟩
    refine ml_astore_n (ls2 := [(3, .ref q), (0, ml_rf g 0), (1, .int a0), (2, ml_rf g 181)]) F dL_outputAt_12 rfl (by decide) rfl ?_
    refine ml_iconst (v := 1) F dL_outputAt_13 (by decide) ?_
    exact ml_iret (st := []) F h rfl rfl rfl (by decide) (by decide) dL_outputAt_14
def fL_type (a0 : Int32) (M : ml_M) : Option ml_R := lw_wr lw_pi (fun e => if e = 2 then 1 else if e = 3 then 2 else 0) (fX6_type a0 M)
set_option maxHeartbeats 4000000 in
set_option maxRecDepth 100000 in
theorem fL_type_c (a0 : Int32) (M : ml_M) (res : ml_R) {g : ml_G} (hst : g.2.2.2.2.2.stackTraces = false) (h : fL_type a0 M = some res) : ml_CW yL_type cL_type 4 (some .int) [(0, 9, 12, 13), (0, 9, 15, 15)] 2 1 6 g (fun r _ => some (.int r)) [ml_rf g 0, .int a0, ml_rf g 181] M res := by
  refine ml_ofW [(0, ml_rf g 0), (1, .int a0), (2, ml_rf g 181)] hst (by decide) (Nat.le_of_ble_eq_true rfl) rfl (fun E F => ?_)
  unfold fL_type at h
  obtain ⟨rs, hx, hr, hxx⟩ := lw_wr_k h
  refine ml_aload_n (q := 2) F dL_type_0 rfl rfl ?_
  refine ml_iconst (v := 0) F dL_type_1 (by decide) ?_
  refine ml_aload_n (q := 0) F dL_type_2 rfl rfl ?_
  refine ml_iload_n (q := 1) F dL_type_3 rfl rfl ?_
  refine ml_callVC (rs := rs) (av := [.int a0]) (vl2 := (fun r _ => some (.int r))) (st := [.int 0, ml_rf g 181]) (kb := 0) (ci := 10) (T := TX6) (N := 9) F (pc0 g) rfl (fX6_type_c a0 M rs hst hx) wcX6_type mlL_126 wdX6_type (by decide) (by decide) (by decide) rfl seX6_type imX6_type rfl (Nat.le_of_ble_eq_true rfl) dL_type_4 (fun r9 h9 => ?_) (fun e9 h9 => ?_)
  · have h := hr r9 h9
    refine ml_i2l F dL_type_7 ?_
    refine ml_last (x := r9) F rfl dL_type_8 ?_
    refine ml_goto (tgt := 18) F dL_type_9 (by decide) ?_
    refine ml_iconst (v := 0) F dL_type_18 (by decide) ?_
    exact ml_iret (st := []) F h rfl rfl rfl (by decide) (by decide) dL_type_19
  · obtain ⟨hc, h⟩ := hxx e9 h9
    have hc2 : e9 = 2 ∨ e9 = 3 := by
      by_cases h0 : e9 = 2
      · exact Or.inl h0
      · skip
        by_cases h1 : e9 = 3
        · exact Or.inr h1
        · exact absurd (by simp [h0, h1]) hc
    rcases hc2 with rfl | rfl
    · refine ⟨12, ⟨[], ⟨0, 9, 12, 13⟩, [⟨0, 9, 15, 15⟩], rfl, (fun z hz => by cases hz), by decide, by decide, ml_tb 798 (by decide +kernel) rfl, by decide, rfl⟩, fun q => ?_⟩
      refine ml_astore_n (ls2 := [(3, .ref q), (0, ml_rf g 0), (1, .int a0), (2, ml_rf g 181)]) F dL_type_12 rfl (by decide) rfl ?_
      refine ml_iconst (v := 1) F dL_type_13 (by decide) ?_
      exact ml_iret (st := []) F h rfl rfl rfl (by decide) (by decide) dL_type_14
    · refine ⟨15, ⟨[⟨0, 9, 12, 13⟩], ⟨0, 9, 15, 15⟩, [], rfl, (fun z hz => by rcases List.mem_cons.mp hz with rfl | hz; exact Or.inr ⟨by decide, "java/lang/IllegalArgumentException", ml_tb 798 (by decide +kernel) rfl, by decide⟩; cases hz), by decide, by decide, ml_tb 799 (by decide +kernel) rfl, by decide, rfl⟩, fun q => ?_⟩
      refine ml_astore_n (ls2 := [(3, .ref q), (0, ml_rf g 0), (1, .int a0), (2, ml_rf g 181)]) F dL_type_15 rfl (by decide) rfl ?_
      refine ml_iconst (v := 2) F dL_type_16 (by decide) ?_
      exact ml_iret (st := []) F h rfl rfl rfl (by decide) (by decide) dL_type_17
def fL_runScript (M : ml_M) : Option ml_R := lw_wr lw_pi (fun e => if e = 2 then 1 else if e = 3 then 2 else 0) (fX6_runScript M)
set_option maxHeartbeats 4000000 in
set_option maxRecDepth 100000 in
theorem fL_runScript_c (M : ml_M) (res : ml_R) {g : ml_G} (hst : g.2.2.2.2.2.stackTraces = false) (h : fL_runScript M = some res) : ml_CW yL_runScript cL_runScript 3 (some .int) [(0, 8, 11, 13), (0, 8, 14, 15)] 11 1 6 g (fun r _ => some (.int r)) [ml_rf g 0, ml_rf g 181] M res := by
  refine ml_ofW [(0, ml_rf g 0), (1, ml_rf g 181)] hst (by decide) (Nat.le_of_ble_eq_true rfl) rfl (fun E F => ?_)
  unfold fL_runScript at h
  obtain ⟨rs, hx, hr, hxx⟩ := lw_wr_k h
  refine ml_aload_n (q := 1) F dL_runScript_0 rfl rfl ?_
  refine ml_iconst (v := 0) F dL_runScript_1 (by decide) ?_
  refine ml_aload_n (q := 0) F dL_runScript_2 rfl rfl ?_
  refine ml_callVC (rs := rs) (av := []) (vl2 := (fun r _ => some (.int r))) (st := [.int 0, ml_rf g 181]) (kb := 0) (ci := 10) (T := TX6) (N := 9) F (pc0 g) rfl (fX6_runScript_c M rs hst hx) wcX6_runScript mlL_129 wdX6_runScript (by decide) (by decide) (by decide) rfl seX6_runScript imX6_runScript rfl (Nat.le_of_ble_eq_true rfl) dL_runScript_3 (fun r9 h9 => ?_) (fun e9 h9 => ?_)
  · have h := hr r9 h9
    refine ml_i2l F dL_runScript_6 ?_
    refine ml_last (x := r9) F rfl dL_runScript_7 ?_
    refine ml_goto (tgt := 17) F dL_runScript_8 (by decide) ?_
    refine ml_iconst (v := 0) F dL_runScript_17 (by decide) ?_
    exact ml_iret (st := []) F h rfl rfl rfl (by decide) (by decide) dL_runScript_18
  · obtain ⟨hc, h⟩ := hxx e9 h9
    have hc2 : e9 = 2 ∨ e9 = 3 := by
      by_cases h0 : e9 = 2
      · exact Or.inl h0
      · skip
        by_cases h1 : e9 = 3
        · exact Or.inr h1
        · exact absurd (by simp [h0, h1]) hc
    rcases hc2 with rfl | rfl
    · refine ⟨11, ⟨[], ⟨0, 8, 11, 13⟩, [⟨0, 8, 14, 15⟩], rfl, (fun z hz => by cases hz), by decide, by decide, ml_tb 798 (by decide +kernel) rfl, by decide, rfl⟩, fun q => ?_⟩
      refine ml_astore_n (ls2 := [(2, .ref q), (0, ml_rf g 0), (1, ml_rf g 181)]) F dL_runScript_11 rfl (by decide) rfl ?_
      refine ml_iconst (v := 1) F dL_runScript_12 (by decide) ?_
      exact ml_iret (st := []) F h rfl rfl rfl (by decide) (by decide) dL_runScript_13
    · refine ⟨14, ⟨[⟨0, 8, 11, 13⟩], ⟨0, 8, 14, 15⟩, [], rfl, (fun z hz => by rcases List.mem_cons.mp hz with rfl | hz; exact Or.inr ⟨by decide, "java/lang/IllegalArgumentException", ml_tb 798 (by decide +kernel) rfl, by decide⟩; cases hz), by decide, by decide, ml_tb 799 (by decide +kernel) rfl, by decide, rfl⟩, fun q => ?_⟩
      refine ml_astore_n (ls2 := [(2, .ref q), (0, ml_rf g 0), (1, ml_rf g 181)]) F dL_runScript_14 rfl (by decide) rfl ?_
      refine ml_iconst (v := 2) F dL_runScript_15 (by decide) ?_
      exact ml_iret (st := []) F h rfl rfl rfl (by decide) (by decide) dL_runScript_16
def fL_errorPosition (M : ml_M) : Option ml_R := lw_wr lw_pi (fun e => if e = 4 then 1 else 0) (fX6_errorPosition M)
set_option maxHeartbeats 4000000 in
set_option maxRecDepth 100000 in
theorem fL_errorPosition_c (M : ml_M) (res : ml_R) {g : ml_G} (hst : g.2.2.2.2.2.stackTraces = false) (h : fL_errorPosition M = some res) : ml_CW yL_errorPosition cL_errorPosition 3 (some .int) [(0, 8, 11, 77)] 2 1 6 g (fun r _ => some (.int r)) [ml_rf g 0, ml_rf g 181] M res := by
  refine ml_ofW [(0, ml_rf g 0), (1, ml_rf g 181)] hst (by decide) (Nat.le_of_ble_eq_true rfl) rfl (fun E F => ?_)
  unfold fL_errorPosition at h
  obtain ⟨rs, hx, hr, hxx⟩ := lw_wr_k h
  refine ml_aload_n (q := 1) F dL_errorPosition_0 rfl rfl ?_
  refine ml_iconst (v := 0) F dL_errorPosition_1 (by decide) ?_
  refine ml_aload_n (q := 0) F dL_errorPosition_2 rfl rfl ?_
  refine ml_callVC (rs := rs) (av := []) (vl2 := (fun r _ => some (.int r))) (st := [.int 0, ml_rf g 181]) (kb := 0) (ci := 10) (T := TX6) (N := 9) F (pc0 g) rfl (fX6_errorPosition_c M rs hst hx) wcX6_errorPosition mlL_133 wdX6_errorPosition (by decide) (by decide) (by decide) rfl seX6_errorPosition imX6_errorPosition rfl (Nat.le_of_ble_eq_true rfl) dL_errorPosition_3 (fun r9 h9 => ?_) (fun e9 h9 => ?_)
  · have h := hr r9 h9
    refine ml_i2l F dL_errorPosition_6 ?_
    refine ml_last (x := r9) F rfl dL_errorPosition_7 ?_
    refine ml_goto (tgt := 14) F dL_errorPosition_8 (by decide) ?_
    refine ml_iconst (v := 0) F dL_errorPosition_14 (by decide) ?_
    exact ml_iret (st := []) F h rfl rfl rfl (by decide) (by decide) dL_errorPosition_15
  · obtain ⟨hc, h⟩ := hxx e9 h9
    have hc2 : e9 = 4 := by
      by_cases h1 : e9 = 4
      · exact h1
      · exact absurd (if_neg h1) hc
    rcases hc2 with rfl
    refine ⟨11, ⟨[], ⟨0, 8, 11, 77⟩, [], rfl, (fun z hz => by cases hz), by decide, by decide, ml_tb 1119 (by decide +kernel) rfl, by decide, rfl⟩, fun q => ?_⟩
    refine ml_astore_n (ls2 := [(2, .ref q), (0, ml_rf g 0), (1, ml_rf g 181)]) F dL_errorPosition_11 rfl (by decide) rfl ?_
    refine ml_iconst (v := 1) F dL_errorPosition_12 (by decide) ?_
    exact ml_iret (st := []) F h rfl rfl rfl (by decide) (by decide) dL_errorPosition_13
def fL_failedCommand (M : ml_M) : Option ml_R := lw_wr lw_pi (fun e => if e = 4 then 1 else 0) (fX6_failedCommand M)
set_option maxHeartbeats 4000000 in
set_option maxRecDepth 100000 in
theorem fL_failedCommand_c (M : ml_M) (res : ml_R) {g : ml_G} (hst : g.2.2.2.2.2.stackTraces = false) (h : fL_failedCommand M = some res) : ml_CW yL_failedCommand cL_failedCommand 3 (some .int) [(0, 8, 11, 77)] 2 1 6 g (fun r _ => some (.int r)) [ml_rf g 0, ml_rf g 181] M res := by
  refine ml_ofW [(0, ml_rf g 0), (1, ml_rf g 181)] hst (by decide) (Nat.le_of_ble_eq_true rfl) rfl (fun E F => ?_)
  unfold fL_failedCommand at h
  obtain ⟨rs, hx, hr, hxx⟩ := lw_wr_k h
  refine ml_aload_n (q := 1) F dL_failedCommand_0 rfl rfl ?_
  refine ml_iconst (v := 0) F dL_failedCommand_1 (by decide) ?_
  refine ml_aload_n (q := 0) F dL_failedCommand_2 rfl rfl ?_
  refine ml_callVC (rs := rs) (av := []) (vl2 := (fun r _ => some (.int r))) (st := [.int 0, ml_rf g 181]) (kb := 0) (ci := 10) (T := TX6) (N := 9) F (pc0 g) rfl (fX6_failedCommand_c M rs hst hx) wcX6_failedCommand mlL_136 wdX6_failedCommand (by decide) (by decide) (by decide) rfl seX6_failedCommand imX6_failedCommand rfl (Nat.le_of_ble_eq_true rfl) dL_failedCommand_3 (fun r9 h9 => ?_) (fun e9 h9 => ?_)
  · have h := hr r9 h9
    refine ml_i2l F dL_failedCommand_6 ?_
    refine ml_last (x := r9) F rfl dL_failedCommand_7 ?_
    refine ml_goto (tgt := 14) F dL_failedCommand_8 (by decide) ?_
    refine ml_iconst (v := 0) F dL_failedCommand_14 (by decide) ?_
    exact ml_iret (st := []) F h rfl rfl rfl (by decide) (by decide) dL_failedCommand_15
  · obtain ⟨hc, h⟩ := hxx e9 h9
    have hc2 : e9 = 4 := by
      by_cases h1 : e9 = 4
      · exact h1
      · exact absurd (if_neg h1) hc
    rcases hc2 with rfl
    refine ⟨11, ⟨[], ⟨0, 8, 11, 77⟩, [], rfl, (fun z hz => by cases hz), by decide, by decide, ml_tb 1119 (by decide +kernel) rfl, by decide, rfl⟩, fun q => ?_⟩
    refine ml_astore_n (ls2 := [(2, .ref q), (0, ml_rf g 0), (1, ml_rf g 181)]) F dL_failedCommand_11 rfl (by decide) rfl ?_
    refine ml_iconst (v := 1) F dL_failedCommand_12 (by decide) ?_
    exact ml_iret (st := []) F h rfl rfl rfl (by decide) (by decide) dL_failedCommand_13
def fL_undo (M : ml_M) : Option ml_R := lw_wr lw_pi (fun e => if e = 4 then 1 else 0) (fX6_undo M)
set_option maxHeartbeats 4000000 in
set_option maxRecDepth 100000 in
theorem fL_undo_c (M : ml_M) (res : ml_R) {g : ml_G} (hst : g.2.2.2.2.2.stackTraces = false) (h : fL_undo M = some res) : ml_CW yL_undo cL_undo 3 (some .int) [(0, 8, 11, 77)] 6 1 6 g (fun r _ => some (.int r)) [ml_rf g 0, ml_rf g 181] M res := by
  refine ml_ofW [(0, ml_rf g 0), (1, ml_rf g 181)] hst (by decide) (Nat.le_of_ble_eq_true rfl) rfl (fun E F => ?_)
  unfold fL_undo at h
  obtain ⟨rs, hx, hr, hxx⟩ := lw_wr_k h
  refine ml_aload_n (q := 1) F dL_undo_0 rfl rfl ?_
  refine ml_iconst (v := 0) F dL_undo_1 (by decide) ?_
  refine ml_aload_n (q := 0) F dL_undo_2 rfl rfl ?_
  refine ml_callVC (rs := rs) (av := []) (vl2 := (fun r _ => some (.int r))) (st := [.int 0, ml_rf g 181]) (kb := 0) (ci := 10) (T := TX6) (N := 9) F (pc0 g) rfl (fX6_undo_c M rs hst hx) wcX6_undo mlL_139 wdX6_undo (by decide) (by decide) (by decide) rfl seX6_undo imX6_undo rfl (Nat.le_of_ble_eq_true rfl) dL_undo_3 (fun r9 h9 => ?_) (fun e9 h9 => ?_)
  · have h := hr r9 h9
    refine ml_i2l F dL_undo_6 ?_
    refine ml_last (x := r9) F rfl dL_undo_7 ?_
    refine ml_goto (tgt := 14) F dL_undo_8 (by decide) ?_
    refine ml_iconst (v := 0) F dL_undo_14 (by decide) ?_
    exact ml_iret (st := []) F h rfl rfl rfl (by decide) (by decide) dL_undo_15
  · obtain ⟨hc, h⟩ := hxx e9 h9
    have hc2 : e9 = 4 := by
      by_cases h1 : e9 = 4
      · exact h1
      · exact absurd (if_neg h1) hc
    rcases hc2 with rfl
    refine ⟨11, ⟨[], ⟨0, 8, 11, 77⟩, [], rfl, (fun z hz => by cases hz), by decide, by decide, ml_tb 1119 (by decide +kernel) rfl, by decide, rfl⟩, fun q => ?_⟩
    refine ml_astore_n (ls2 := [(2, .ref q), (0, ml_rf g 0), (1, ml_rf g 181)]) F dL_undo_11 rfl (by decide) rfl ?_
    refine ml_iconst (v := 1) F dL_undo_12 (by decide) ?_
    exact ml_iret (st := []) F h rfl rfl rfl (by decide) (by decide) dL_undo_13
def fL_restore (M : ml_M) : Option ml_R := lw_wr lw_pi (fun e => if e = 3 then 1 else 0) (fX6_restore M)
set_option maxHeartbeats 4000000 in
set_option maxRecDepth 100000 in
theorem fL_restore_c (M : ml_M) (res : ml_R) {g : ml_G} (hst : g.2.2.2.2.2.stackTraces = false) (h : fL_restore M = some res) : ml_CW yL_restore cL_restore 3 (some .int) [(0, 8, 11, 15)] 5 1 6 g (fun r _ => some (.int r)) [ml_rf g 0, ml_rf g 181] M res := by
  refine ml_ofW [(0, ml_rf g 0), (1, ml_rf g 181)] hst (by decide) (Nat.le_of_ble_eq_true rfl) rfl (fun E F => ?_)
  unfold fL_restore at h
  obtain ⟨rs, hx, hr, hxx⟩ := lw_wr_k h
  refine ml_aload_n (q := 1) F dL_restore_0 rfl rfl ?_
  refine ml_iconst (v := 0) F dL_restore_1 (by decide) ?_
  refine ml_aload_n (q := 0) F dL_restore_2 rfl rfl ?_
  refine ml_callVC (rs := rs) (av := []) (vl2 := (fun r _ => some (.int r))) (st := [.int 0, ml_rf g 181]) (kb := 0) (ci := 10) (T := TX6) (N := 9) F (pc0 g) rfl (fX6_restore_c M rs hst hx) wcX6_restore mlL_142 wdX6_restore (by decide) (by decide) (by decide) rfl seX6_restore imX6_restore rfl (Nat.le_of_ble_eq_true rfl) dL_restore_3 (fun r9 h9 => ?_) (fun e9 h9 => ?_)
  · have h := hr r9 h9
    refine ml_i2l F dL_restore_6 ?_
    refine ml_last (x := r9) F rfl dL_restore_7 ?_
    refine ml_goto (tgt := 14) F dL_restore_8 (by decide) ?_
    refine ml_iconst (v := 0) F dL_restore_14 (by decide) ?_
    exact ml_iret (st := []) F h rfl rfl rfl (by decide) (by decide) dL_restore_15
  · obtain ⟨hc, h⟩ := hxx e9 h9
    have hc2 : e9 = 3 := by
      by_cases h1 : e9 = 3
      · exact h1
      · exact absurd (if_neg h1) hc
    rcases hc2 with rfl
    refine ⟨11, ⟨[], ⟨0, 8, 11, 15⟩, [], rfl, (fun z hz => by cases hz), by decide, by decide, ml_tb 799 (by decide +kernel) rfl, by decide, rfl⟩, fun q => ?_⟩
    refine ml_astore_n (ls2 := [(2, .ref q), (0, ml_rf g 0), (1, ml_rf g 181)]) F dL_restore_11 rfl (by decide) rfl ?_
    refine ml_iconst (v := 1) F dL_restore_12 (by decide) ?_
    exact ml_iret (st := []) F h rfl rfl rfl (by decide) (by decide) dL_restore_13
