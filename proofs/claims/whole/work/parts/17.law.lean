theorem wcL_addBoat : ml_wcW yL_addBoat cL_addBoat 6 (some .int) [(0, 12, 15, 13), (0, 12, 19, 15)] := ⟨ml_tb 797 (by decide +kernel) rfl, ml_tb 0 (by decide +kernel) rfl, by decide⟩
theorem wdL_addBoat : ml_wd yL_addBoat 5 := ⟨by decide +kernel, by decide +kernel, by decide +kernel⟩
theorem stL_addBoat : Cond.static yL_addBoat ∈ ml_all := ml_tb 796 (by decide +kernel) rfl
theorem mlL_149 : Cond.methodLink RL 149 yL_addBoat ∈ ml_all := ml_tb 795 (by decide +kernel) rfl
theorem wcX7_addBoat : ml_wc yX7_addBoat cX7_addBoat 4 (some .int) := ⟨ml_tb 1520 (by decide +kernel) rfl, ml_tb 12 (by decide +kernel) rfl, by decide⟩
theorem wdX7_addBoat : ml_wd yX7_addBoat 3 := ⟨by decide +kernel, by decide +kernel, by decide +kernel⟩
theorem imX7_addBoat : Cond.instanceMethod yX7_addBoat ∈ ml_all := ml_tb 1518 (by decide +kernel) rfl
theorem seX7_addBoat : Cond.selects yX7_addBoat.cls yX7_addBoat yX7_addBoat ∈ ml_all := ml_tb 1519 (by decide +kernel) rfl
theorem mlL_154 : Cond.methodLink RL 154 yX7_addBoat ∈ ml_all := ml_tb 1517 (by decide +kernel) rfl
theorem wcX7_thrown : ml_wc yX7_thrown cX7_thrown 1 (some .int) := ⟨ml_tb 1516 (by decide +kernel) rfl, ml_tb 12 (by decide +kernel) rfl, by decide⟩
theorem wdX7_thrown : ml_wd yX7_thrown 0 := ⟨by decide +kernel, by decide +kernel, by decide +kernel⟩
theorem imX7_thrown : Cond.instanceMethod yX7_thrown ∈ ml_all := ml_tb 1514 (by decide +kernel) rfl
theorem seX7_thrown : Cond.selects yX7_thrown.cls yX7_thrown yX7_thrown ∈ ml_all := ml_tb 1515 (by decide +kernel) rfl
theorem mlL_155 : Cond.methodLink RL 155 yX7_thrown ∈ ml_all := ml_tb 1513 (by decide +kernel) rfl
theorem wcL_setValve : ml_wcW yL_setValve cL_setValve 5 (some .int) [(0, 10, 13, 21), (0, 10, 17, 13)] := ⟨ml_tb 991 (by decide +kernel) rfl, ml_tb 0 (by decide +kernel) rfl, by decide⟩
theorem wdL_setValve : ml_wd yL_setValve 4 := ⟨by decide +kernel, by decide +kernel, by decide +kernel⟩
theorem stL_setValve : Cond.static yL_setValve ∈ ml_all := ml_tb 990 (by decide +kernel) rfl
theorem mlL_158 : Cond.methodLink RL 158 yL_setValve ∈ ml_all := ml_tb 989 (by decide +kernel) rfl
theorem wcX7_setValve : ml_wc yX7_setValve cX7_setValve 3 (some .int) := ⟨ml_tb 1550 (by decide +kernel) rfl, ml_tb 12 (by decide +kernel) rfl, by decide⟩
theorem wdX7_setValve : ml_wd yX7_setValve 2 := ⟨by decide +kernel, by decide +kernel, by decide +kernel⟩
theorem imX7_setValve : Cond.instanceMethod yX7_setValve ∈ ml_all := ml_tb 1548 (by decide +kernel) rfl
theorem seX7_setValve : Cond.selects yX7_setValve.cls yX7_setValve yX7_setValve ∈ ml_all := ml_tb 1549 (by decide +kernel) rfl
theorem mlL_161 : Cond.methodLink RL 161 yX7_setValve ∈ ml_all := ml_tb 1547 (by decide +kernel) rfl
theorem wcL_openGate : ml_wcW yL_openGate cL_openGate 4 (some .int) [(0, 9, 12, 21), (0, 9, 15, 15), (0, 9, 18, 27)] := ⟨ml_tb 999 (by decide +kernel) rfl, ml_tb 0 (by decide +kernel) rfl, by decide⟩
theorem wdL_openGate : ml_wd yL_openGate 3 := ⟨by decide +kernel, by decide +kernel, by decide +kernel⟩
theorem stL_openGate : Cond.static yL_openGate ∈ ml_all := ml_tb 998 (by decide +kernel) rfl
theorem mlL_162 : Cond.methodLink RL 162 yL_openGate ∈ ml_all := ml_tb 997 (by decide +kernel) rfl
theorem wcX7_openGate : ml_wc yX7_openGate cX7_openGate 2 (some .int) := ⟨ml_tb 1561 (by decide +kernel) rfl, ml_tb 12 (by decide +kernel) rfl, by decide⟩
theorem wdX7_openGate : ml_wd yX7_openGate 1 := ⟨by decide +kernel, by decide +kernel, by decide +kernel⟩
theorem imX7_openGate : Cond.instanceMethod yX7_openGate ∈ ml_all := ml_tb 1559 (by decide +kernel) rfl
theorem seX7_openGate : Cond.selects yX7_openGate.cls yX7_openGate yX7_openGate ∈ ml_all := ml_tb 1560 (by decide +kernel) rfl
theorem mlL_165 : Cond.methodLink RL 165 yX7_openGate ∈ ml_all := ml_tb 1558 (by decide +kernel) rfl
theorem wcL_shutGate : ml_wcW yL_shutGate cL_shutGate 4 (some .int) [(0, 9, 12, 21), (0, 9, 15, 15)] := ⟨ml_tb 1007 (by decide +kernel) rfl, ml_tb 0 (by decide +kernel) rfl, by decide⟩
theorem wdL_shutGate : ml_wd yL_shutGate 3 := ⟨by decide +kernel, by decide +kernel, by decide +kernel⟩
theorem stL_shutGate : Cond.static yL_shutGate ∈ ml_all := ml_tb 1006 (by decide +kernel) rfl
theorem mlL_166 : Cond.methodLink RL 166 yL_shutGate ∈ ml_all := ml_tb 1005 (by decide +kernel) rfl
theorem wcX7_shutGate : ml_wc yX7_shutGate cX7_shutGate 2 (some .int) := ⟨ml_tb 1584 (by decide +kernel) rfl, ml_tb 12 (by decide +kernel) rfl, by decide⟩
theorem wdX7_shutGate : ml_wd yX7_shutGate 1 := ⟨by decide +kernel, by decide +kernel, by decide +kernel⟩
theorem imX7_shutGate : Cond.instanceMethod yX7_shutGate ∈ ml_all := ml_tb 1582 (by decide +kernel) rfl
theorem seX7_shutGate : Cond.selects yX7_shutGate.cls yX7_shutGate yX7_shutGate ∈ ml_all := ml_tb 1583 (by decide +kernel) rfl
theorem mlL_168 : Cond.methodLink RL 168 yX7_shutGate ∈ ml_all := ml_tb 1581 (by decide +kernel) rfl
theorem wcL_setRain : ml_wcW yL_setRain cL_setRain 4 (some .int) [(0, 9, 12, 13)] := ⟨ml_tb 1014 (by decide +kernel) rfl, ml_tb 0 (by decide +kernel) rfl, by decide⟩
theorem wdL_setRain : ml_wd yL_setRain 3 := ⟨by decide +kernel, by decide +kernel, by decide +kernel⟩
theorem stL_setRain : Cond.static yL_setRain ∈ ml_all := ml_tb 1013 (by decide +kernel) rfl
theorem mlL_169 : Cond.methodLink RL 169 yL_setRain ∈ ml_all := ml_tb 1012 (by decide +kernel) rfl
theorem wcX7_setRain : ml_wc yX7_setRain cX7_setRain 2 (some .int) := ⟨ml_tb 1592 (by decide +kernel) rfl, ml_tb 12 (by decide +kernel) rfl, by decide⟩
theorem wdX7_setRain : ml_wd yX7_setRain 1 := ⟨by decide +kernel, by decide +kernel, by decide +kernel⟩
theorem imX7_setRain : Cond.instanceMethod yX7_setRain ∈ ml_all := ml_tb 1590 (by decide +kernel) rfl
theorem seX7_setRain : Cond.selects yX7_setRain.cls yX7_setRain yX7_setRain ∈ ml_all := ml_tb 1591 (by decide +kernel) rfl
theorem mlL_171 : Cond.methodLink RL 171 yX7_setRain ∈ ml_all := ml_tb 1589 (by decide +kernel) rfl
theorem wcL_setDrain : ml_wcW yL_setDrain cL_setDrain 4 (some .int) [(0, 9, 12, 13)] := ⟨ml_tb 1021 (by decide +kernel) rfl, ml_tb 0 (by decide +kernel) rfl, by decide⟩
theorem wdL_setDrain : ml_wd yL_setDrain 3 := ⟨by decide +kernel, by decide +kernel, by decide +kernel⟩
theorem stL_setDrain : Cond.static yL_setDrain ∈ ml_all := ml_tb 1020 (by decide +kernel) rfl
theorem mlL_172 : Cond.methodLink RL 172 yL_setDrain ∈ ml_all := ml_tb 1019 (by decide +kernel) rfl
theorem wcX7_setDrain : ml_wc yX7_setDrain cX7_setDrain 2 (some .int) := ⟨ml_tb 1600 (by decide +kernel) rfl, ml_tb 12 (by decide +kernel) rfl, by decide⟩
theorem wdX7_setDrain : ml_wd yX7_setDrain 1 := ⟨by decide +kernel, by decide +kernel, by decide +kernel⟩
theorem imX7_setDrain : Cond.instanceMethod yX7_setDrain ∈ ml_all := ml_tb 1598 (by decide +kernel) rfl
theorem seX7_setDrain : Cond.selects yX7_setDrain.cls yX7_setDrain yX7_setDrain ∈ ml_all := ml_tb 1599 (by decide +kernel) rfl
theorem mlL_174 : Cond.methodLink RL 174 yX7_setDrain ∈ ml_all := ml_tb 1597 (by decide +kernel) rfl
theorem wcL_advance : ml_wcW yL_advance cL_advance 4 (some .int) [(0, 9, 12, 13)] := ⟨ml_tb 1028 (by decide +kernel) rfl, ml_tb 0 (by decide +kernel) rfl, by decide⟩
theorem wdL_advance : ml_wd yL_advance 3 := ⟨by decide +kernel, by decide +kernel, by decide +kernel⟩
theorem stL_advance : Cond.static yL_advance ∈ ml_all := ml_tb 1027 (by decide +kernel) rfl
theorem mlL_175 : Cond.methodLink RL 175 yL_advance ∈ ml_all := ml_tb 1026 (by decide +kernel) rfl
theorem wcX7_advance : ml_wc yX7_advance cX7_advance 2 (some .int) := ⟨ml_tb 1604 (by decide +kernel) rfl, ml_tb 12 (by decide +kernel) rfl, by decide⟩
theorem wdX7_advance : ml_wd yX7_advance 1 := ⟨by decide +kernel, by decide +kernel, by decide +kernel⟩
theorem imX7_advance : Cond.instanceMethod yX7_advance ∈ ml_all := ml_tb 1602 (by decide +kernel) rfl
theorem seX7_advance : Cond.selects yX7_advance.cls yX7_advance yX7_advance ∈ ml_all := ml_tb 1603 (by decide +kernel) rfl
theorem mlL_177 : Cond.methodLink RL 177 yX7_advance ∈ ml_all := ml_tb 1601 (by decide +kernel) rfl
theorem wcL_area : ml_wcW yL_area cL_area 4 (some .int) [(0, 9, 12, 21)] := ⟨ml_tb 1035 (by decide +kernel) rfl, ml_tb 0 (by decide +kernel) rfl, by decide⟩
theorem wdL_area : ml_wd yL_area 3 := ⟨by decide +kernel, by decide +kernel, by decide +kernel⟩
theorem stL_area : Cond.static yL_area ∈ ml_all := ml_tb 1034 (by decide +kernel) rfl
theorem mlL_178 : Cond.methodLink RL 178 yL_area ∈ ml_all := ml_tb 1033 (by decide +kernel) rfl
theorem wcX7_area : ml_wc yX7_area cX7_area 2 (some .int) := ⟨ml_tb 1648 (by decide +kernel) rfl, ml_tb 12 (by decide +kernel) rfl, by decide⟩
theorem wdX7_area : ml_wd yX7_area 1 := ⟨by decide +kernel, by decide +kernel, by decide +kernel⟩
theorem imX7_area : Cond.instanceMethod yX7_area ∈ ml_all := ml_tb 1646 (by decide +kernel) rfl
theorem seX7_area : Cond.selects yX7_area.cls yX7_area yX7_area ∈ ml_all := ml_tb 1647 (by decide +kernel) rfl
theorem mlL_180 : Cond.methodLink RL 180 yX7_area ∈ ml_all := ml_tb 1645 (by decide +kernel) rfl
theorem wcL_volume : ml_wcW yL_volume cL_volume 4 (some .int) [(0, 9, 12, 21)] := ⟨ml_tb 1047 (by decide +kernel) rfl, ml_tb 0 (by decide +kernel) rfl, by decide⟩
theorem wdL_volume : ml_wd yL_volume 3 := ⟨by decide +kernel, by decide +kernel, by decide +kernel⟩
theorem stL_volume : Cond.static yL_volume ∈ ml_all := ml_tb 1046 (by decide +kernel) rfl
theorem mlL_181 : Cond.methodLink RL 181 yL_volume ∈ ml_all := ml_tb 1045 (by decide +kernel) rfl
theorem wcX7_volume : ml_wc yX7_volume cX7_volume 2 (some .int) := ⟨ml_tb 1659 (by decide +kernel) rfl, ml_tb 12 (by decide +kernel) rfl, by decide⟩
theorem wdX7_volume : ml_wd yX7_volume 1 := ⟨by decide +kernel, by decide +kernel, by decide +kernel⟩
theorem imX7_volume : Cond.instanceMethod yX7_volume ∈ ml_all := ml_tb 1657 (by decide +kernel) rfl
theorem seX7_volume : Cond.selects yX7_volume.cls yX7_volume yX7_volume ∈ ml_all := ml_tb 1658 (by decide +kernel) rfl
theorem mlL_183 : Cond.methodLink RL 183 yX7_volume ∈ ml_all := ml_tb 1656 (by decide +kernel) rfl
theorem wcL_level : ml_wcW yL_level cL_level 4 (some .int) [(0, 9, 12, 21)] := ⟨ml_tb 1054 (by decide +kernel) rfl, ml_tb 0 (by decide +kernel) rfl, by decide⟩
theorem wdL_level : ml_wd yL_level 3 := ⟨by decide +kernel, by decide +kernel, by decide +kernel⟩
theorem stL_level : Cond.static yL_level ∈ ml_all := ml_tb 1053 (by decide +kernel) rfl
theorem mlL_184 : Cond.methodLink RL 184 yL_level ∈ ml_all := ml_tb 1052 (by decide +kernel) rfl
theorem wcX7_level : ml_wc yX7_level cX7_level 2 (some .int) := ⟨ml_tb 1663 (by decide +kernel) rfl, ml_tb 12 (by decide +kernel) rfl, by decide⟩
theorem wdX7_level : ml_wd yX7_level 1 := ⟨by decide +kernel, by decide +kernel, by decide +kernel⟩
theorem imX7_level : Cond.instanceMethod yX7_level ∈ ml_all := ml_tb 1661 (by decide +kernel) rfl
theorem seX7_level : Cond.selects yX7_level.cls yX7_level yX7_level ∈ ml_all := ml_tb 1662 (by decide +kernel) rfl
theorem mlL_186 : Cond.methodLink RL 186 yX7_level ∈ ml_all := ml_tb 1660 (by decide +kernel) rfl
theorem wcL_exactLevel : ml_wcW yL_exactLevel cL_exactLevel 4 (some .int) [(0, 8, 11, 21)] := ⟨ml_tb 1061 (by decide +kernel) rfl, ml_tb 0 (by decide +kernel) rfl, by decide⟩
theorem wdL_exactLevel : ml_wd yL_exactLevel 3 := ⟨by decide +kernel, by decide +kernel, by decide +kernel⟩
theorem stL_exactLevel : Cond.static yL_exactLevel ∈ ml_all := ml_tb 1060 (by decide +kernel) rfl
theorem mlL_187 : Cond.methodLink RL 187 yL_exactLevel ∈ ml_all := ml_tb 1059 (by decide +kernel) rfl
theorem wcX7_exactLevel : ml_wc yX7_exactLevel cX7_exactLevel 2 (some .double) := ⟨ml_tb 1667 (by decide +kernel) rfl, ml_tb 12 (by decide +kernel) rfl, by decide⟩
theorem wdX7_exactLevel : ml_wd yX7_exactLevel 1 := ⟨by decide +kernel, by decide +kernel, by decide +kernel⟩
theorem imX7_exactLevel : Cond.instanceMethod yX7_exactLevel ∈ ml_all := ml_tb 1665 (by decide +kernel) rfl
theorem seX7_exactLevel : Cond.selects yX7_exactLevel.cls yX7_exactLevel yX7_exactLevel ∈ ml_all := ml_tb 1666 (by decide +kernel) rfl
theorem mlL_190 : Cond.methodLink RL 190 yX7_exactLevel ∈ ml_all := ml_tb 1664 (by decide +kernel) rfl
theorem wcL_isHigher : ml_wcW yL_isHigher cL_isHigher 5 (some .int) [(0, 17, 20, 21)] := ⟨ml_tb 1068 (by decide +kernel) rfl, ml_tb 0 (by decide +kernel) rfl, by decide⟩
theorem wdL_isHigher : ml_wd yL_isHigher 4 := ⟨by decide +kernel, by decide +kernel, by decide +kernel⟩
theorem stL_isHigher : Cond.static yL_isHigher ∈ ml_all := ml_tb 1067 (by decide +kernel) rfl
theorem mlL_191 : Cond.methodLink RL 191 yL_isHigher ∈ ml_all := ml_tb 1066 (by decide +kernel) rfl
theorem wcX7_isHigher : ml_wc yX7_isHigher cX7_isHigher 3 (some .boolean) := ⟨ml_tb 1671 (by decide +kernel) rfl, ml_tb 12 (by decide +kernel) rfl, by decide⟩
theorem wdX7_isHigher : ml_wd yX7_isHigher 2 := ⟨by decide +kernel, by decide +kernel, by decide +kernel⟩
theorem imX7_isHigher : Cond.instanceMethod yX7_isHigher ∈ ml_all := ml_tb 1669 (by decide +kernel) rfl
theorem seX7_isHigher : Cond.selects yX7_isHigher.cls yX7_isHigher yX7_isHigher ∈ ml_all := ml_tb 1670 (by decide +kernel) rfl
theorem mlL_193 : Cond.methodLink RL 193 yX7_isHigher ∈ ml_all := ml_tb 1668 (by decide +kernel) rfl
theorem wcL_equalizingAmount : ml_wcW yL_equalizingAmount cL_equalizingAmount 4 (some .int) [(0, 9, 12, 21)] := ⟨ml_tb 1076 (by decide +kernel) rfl, ml_tb 0 (by decide +kernel) rfl, by decide⟩
theorem wdL_equalizingAmount : ml_wd yL_equalizingAmount 3 := ⟨by decide +kernel, by decide +kernel, by decide +kernel⟩
theorem stL_equalizingAmount : Cond.static yL_equalizingAmount ∈ ml_all := ml_tb 1075 (by decide +kernel) rfl
theorem mlL_194 : Cond.methodLink RL 194 yL_equalizingAmount ∈ ml_all := ml_tb 1074 (by decide +kernel) rfl
theorem mlL_196 : Cond.methodLink RL 196 yX7_equalizingAmount ∈ ml_all := ml_tb 1672 (by decide +kernel) rfl
theorem wcL_equalizingAmountByLitres : ml_wcW yL_equalizingAmountByLitres cL_equalizingAmountByLitres 4 (some .int) [(0, 9, 12, 21)] := ⟨ml_tb 1088 (by decide +kernel) rfl, ml_tb 0 (by decide +kernel) rfl, by decide⟩
theorem wdL_equalizingAmountByLitres : ml_wd yL_equalizingAmountByLitres 3 := ⟨by decide +kernel, by decide +kernel, by decide +kernel⟩
theorem stL_equalizingAmountByLitres : Cond.static yL_equalizingAmountByLitres ∈ ml_all := ml_tb 1087 (by decide +kernel) rfl
theorem mlL_197 : Cond.methodLink RL 197 yL_equalizingAmountByLitres ∈ ml_all := ml_tb 1086 (by decide +kernel) rfl
theorem wcX7_equalizingAmountByLitres : ml_wc yX7_equalizingAmountByLitres cX7_equalizingAmountByLitres 2 (some .int) := ⟨ml_tb 1679 (by decide +kernel) rfl, ml_tb 12 (by decide +kernel) rfl, by decide⟩
theorem wdX7_equalizingAmountByLitres : ml_wd yX7_equalizingAmountByLitres 1 := ⟨by decide +kernel, by decide +kernel, by decide +kernel⟩
theorem imX7_equalizingAmountByLitres : Cond.instanceMethod yX7_equalizingAmountByLitres ∈ ml_all := ml_tb 1677 (by decide +kernel) rfl
theorem seX7_equalizingAmountByLitres : Cond.selects yX7_equalizingAmountByLitres.cls yX7_equalizingAmountByLitres yX7_equalizingAmountByLitres ∈ ml_all := ml_tb 1678 (by decide +kernel) rfl
theorem mlL_199 : Cond.methodLink RL 199 yX7_equalizingAmountByLitres ∈ ml_all := ml_tb 1676 (by decide +kernel) rfl
theorem wcL_opening : ml_wcW yL_opening cL_opening 4 (some .int) [(0, 9, 12, 21)] := ⟨ml_tb 1096 (by decide +kernel) rfl, ml_tb 0 (by decide +kernel) rfl, by decide⟩
theorem wdL_opening : ml_wd yL_opening 3 := ⟨by decide +kernel, by decide +kernel, by decide +kernel⟩
theorem stL_opening : Cond.static yL_opening ∈ ml_all := ml_tb 1095 (by decide +kernel) rfl
theorem mlL_200 : Cond.methodLink RL 200 yL_opening ∈ ml_all := ml_tb 1094 (by decide +kernel) rfl
theorem wcX7_opening : ml_wc yX7_opening cX7_opening 2 (some .int) := ⟨ml_tb 1684 (by decide +kernel) rfl, ml_tb 12 (by decide +kernel) rfl, by decide⟩
theorem wdX7_opening : ml_wd yX7_opening 1 := ⟨by decide +kernel, by decide +kernel, by decide +kernel⟩
theorem imX7_opening : Cond.instanceMethod yX7_opening ∈ ml_all := ml_tb 1682 (by decide +kernel) rfl
theorem seX7_opening : Cond.selects yX7_opening.cls yX7_opening yX7_opening ∈ ml_all := ml_tb 1683 (by decide +kernel) rfl
theorem mlL_202 : Cond.methodLink RL 202 yX7_opening ∈ ml_all := ml_tb 1681 (by decide +kernel) rfl
theorem wcL_isOpen : ml_wcW yL_isOpen cL_isOpen 4 (some .int) [(0, 16, 19, 21)] := ⟨ml_tb 1103 (by decide +kernel) rfl, ml_tb 0 (by decide +kernel) rfl, by decide⟩
theorem wdL_isOpen : ml_wd yL_isOpen 3 := ⟨by decide +kernel, by decide +kernel, by decide +kernel⟩
theorem stL_isOpen : Cond.static yL_isOpen ∈ ml_all := ml_tb 1102 (by decide +kernel) rfl
theorem mlL_203 : Cond.methodLink RL 203 yL_isOpen ∈ ml_all := ml_tb 1101 (by decide +kernel) rfl
theorem wcX7_isOpen : ml_wc yX7_isOpen cX7_isOpen 2 (some .boolean) := ⟨ml_tb 1688 (by decide +kernel) rfl, ml_tb 12 (by decide +kernel) rfl, by decide⟩
theorem wdX7_isOpen : ml_wd yX7_isOpen 1 := ⟨by decide +kernel, by decide +kernel, by decide +kernel⟩
theorem imX7_isOpen : Cond.instanceMethod yX7_isOpen ∈ ml_all := ml_tb 1686 (by decide +kernel) rfl
theorem seX7_isOpen : Cond.selects yX7_isOpen.cls yX7_isOpen yX7_isOpen ∈ ml_all := ml_tb 1687 (by decide +kernel) rfl
theorem mlL_205 : Cond.methodLink RL 205 yX7_isOpen ∈ ml_all := ml_tb 1685 (by decide +kernel) rfl
theorem wcL_flow : ml_wcW yL_flow cL_flow 4 (some .int) [(0, 9, 12, 21)] := ⟨ml_tb 1110 (by decide +kernel) rfl, ml_tb 0 (by decide +kernel) rfl, by decide⟩
theorem wdL_flow : ml_wd yL_flow 3 := ⟨by decide +kernel, by decide +kernel, by decide +kernel⟩
theorem stL_flow : Cond.static yL_flow ∈ ml_all := ml_tb 1109 (by decide +kernel) rfl
theorem mlL_206 : Cond.methodLink RL 206 yL_flow ∈ ml_all := ml_tb 1108 (by decide +kernel) rfl
theorem wcX7_flow : ml_wc yX7_flow cX7_flow 2 (some .int) := ⟨ml_tb 1692 (by decide +kernel) rfl, ml_tb 12 (by decide +kernel) rfl, by decide⟩
theorem wdX7_flow : ml_wd yX7_flow 1 := ⟨by decide +kernel, by decide +kernel, by decide +kernel⟩
theorem imX7_flow : Cond.instanceMethod yX7_flow ∈ ml_all := ml_tb 1690 (by decide +kernel) rfl
theorem seX7_flow : Cond.selects yX7_flow.cls yX7_flow yX7_flow ∈ ml_all := ml_tb 1691 (by decide +kernel) rfl
theorem mlL_208 : Cond.methodLink RL 208 yX7_flow ∈ ml_all := ml_tb 1689 (by decide +kernel) rfl
theorem wcX6_rain : ml_wc yX6_rain cX6_rain 1 (some .int) := ⟨ml_tb 301 (by decide +kernel) rfl, ml_tb 1 (by decide +kernel) rfl, by decide⟩
theorem wdX6_rain : ml_wd yX6_rain 0 := ⟨by decide +kernel, by decide +kernel, by decide +kernel⟩
theorem imX6_rain : Cond.instanceMethod yX6_rain ∈ ml_all := ml_tb 299 (by decide +kernel) rfl
theorem seX6_rain : Cond.selects yX6_rain.cls yX6_rain yX6_rain ∈ ml_all := ml_tb 300 (by decide +kernel) rfl
theorem mlL_209 : Cond.methodLink RL 209 yX6_rain ∈ ml_all := ml_tb 298 (by decide +kernel) rfl
theorem wcX7_rain : ml_wc yX7_rain cX7_rain 1 (some .int) := ⟨ml_tb 1696 (by decide +kernel) rfl, ml_tb 12 (by decide +kernel) rfl, by decide⟩
theorem wdX7_rain : ml_wd yX7_rain 0 := ⟨by decide +kernel, by decide +kernel, by decide +kernel⟩
theorem imX7_rain : Cond.instanceMethod yX7_rain ∈ ml_all := ml_tb 1694 (by decide +kernel) rfl
theorem seX7_rain : Cond.selects yX7_rain.cls yX7_rain yX7_rain ∈ ml_all := ml_tb 1695 (by decide +kernel) rfl
theorem mlL_212 : Cond.methodLink RL 212 yX7_rain ∈ ml_all := ml_tb 1693 (by decide +kernel) rfl
theorem wcX6_drain : ml_wc yX6_drain cX6_drain 1 (some .int) := ⟨ml_tb 305 (by decide +kernel) rfl, ml_tb 1 (by decide +kernel) rfl, by decide⟩
theorem wdX6_drain : ml_wd yX6_drain 0 := ⟨by decide +kernel, by decide +kernel, by decide +kernel⟩
theorem imX6_drain : Cond.instanceMethod yX6_drain ∈ ml_all := ml_tb 303 (by decide +kernel) rfl
theorem seX6_drain : Cond.selects yX6_drain.cls yX6_drain yX6_drain ∈ ml_all := ml_tb 304 (by decide +kernel) rfl
theorem mlL_213 : Cond.methodLink RL 213 yX6_drain ∈ ml_all := ml_tb 302 (by decide +kernel) rfl
theorem wcX7_drain : ml_wc yX7_drain cX7_drain 1 (some .int) := ⟨ml_tb 1704 (by decide +kernel) rfl, ml_tb 12 (by decide +kernel) rfl, by decide⟩
theorem wdX7_drain : ml_wd yX7_drain 0 := ⟨by decide +kernel, by decide +kernel, by decide +kernel⟩
theorem imX7_drain : Cond.instanceMethod yX7_drain ∈ ml_all := ml_tb 1702 (by decide +kernel) rfl
theorem seX7_drain : Cond.selects yX7_drain.cls yX7_drain yX7_drain ∈ ml_all := ml_tb 1703 (by decide +kernel) rfl
theorem mlL_216 : Cond.methodLink RL 216 yX7_drain ∈ ml_all := ml_tb 1701 (by decide +kernel) rfl
theorem wcX6_totalVolume : ml_wc yX6_totalVolume cX6_totalVolume 1 (some .int) := ⟨ml_tb 309 (by decide +kernel) rfl, ml_tb 1 (by decide +kernel) rfl, by decide⟩
theorem wdX6_totalVolume : ml_wd yX6_totalVolume 0 := ⟨by decide +kernel, by decide +kernel, by decide +kernel⟩
theorem imX6_totalVolume : Cond.instanceMethod yX6_totalVolume ∈ ml_all := ml_tb 307 (by decide +kernel) rfl
theorem seX6_totalVolume : Cond.selects yX6_totalVolume.cls yX6_totalVolume yX6_totalVolume ∈ ml_all := ml_tb 308 (by decide +kernel) rfl
theorem mlL_217 : Cond.methodLink RL 217 yX6_totalVolume ∈ ml_all := ml_tb 306 (by decide +kernel) rfl
theorem mlL_220 : Cond.methodLink RL 220 yX7_totalVolume ∈ ml_all := ml_tb 1705 (by decide +kernel) rfl
theorem wcX6_totalVolumeByAccounts : ml_wc yX6_totalVolumeByAccounts cX6_totalVolumeByAccounts 1 (some .int) := ⟨ml_tb 317 (by decide +kernel) rfl, ml_tb 1 (by decide +kernel) rfl, by decide⟩
theorem wdX6_totalVolumeByAccounts : ml_wd yX6_totalVolumeByAccounts 0 := ⟨by decide +kernel, by decide +kernel, by decide +kernel⟩
theorem imX6_totalVolumeByAccounts : Cond.instanceMethod yX6_totalVolumeByAccounts ∈ ml_all := ml_tb 315 (by decide +kernel) rfl
theorem seX6_totalVolumeByAccounts : Cond.selects yX6_totalVolumeByAccounts.cls yX6_totalVolumeByAccounts yX6_totalVolumeByAccounts ∈ ml_all := ml_tb 316 (by decide +kernel) rfl
theorem mlL_221 : Cond.methodLink RL 221 yX6_totalVolumeByAccounts ∈ ml_all := ml_tb 314 (by decide +kernel) rfl
theorem wcX7_totalVolumeByAccounts : ml_wc yX7_totalVolumeByAccounts cX7_totalVolumeByAccounts 1 (some .int) := ⟨ml_tb 1716 (by decide +kernel) rfl, ml_tb 12 (by decide +kernel) rfl, by decide⟩
theorem wdX7_totalVolumeByAccounts : ml_wd yX7_totalVolumeByAccounts 0 := ⟨by decide +kernel, by decide +kernel, by decide +kernel⟩
theorem imX7_totalVolumeByAccounts : Cond.instanceMethod yX7_totalVolumeByAccounts ∈ ml_all := ml_tb 1714 (by decide +kernel) rfl
theorem seX7_totalVolumeByAccounts : Cond.selects yX7_totalVolumeByAccounts.cls yX7_totalVolumeByAccounts yX7_totalVolumeByAccounts ∈ ml_all := ml_tb 1715 (by decide +kernel) rfl
theorem mlL_224 : Cond.methodLink RL 224 yX7_totalVolumeByAccounts ∈ ml_all := ml_tb 1713 (by decide +kernel) rfl
theorem wcX6_rainTotal : ml_wc yX6_rainTotal cX6_rainTotal 1 (some .int) := ⟨ml_tb 325 (by decide +kernel) rfl, ml_tb 1 (by decide +kernel) rfl, by decide⟩
theorem wdX6_rainTotal : ml_wd yX6_rainTotal 0 := ⟨by decide +kernel, by decide +kernel, by decide +kernel⟩
theorem imX6_rainTotal : Cond.instanceMethod yX6_rainTotal ∈ ml_all := ml_tb 323 (by decide +kernel) rfl
theorem seX6_rainTotal : Cond.selects yX6_rainTotal.cls yX6_rainTotal yX6_rainTotal ∈ ml_all := ml_tb 324 (by decide +kernel) rfl
theorem mlL_225 : Cond.methodLink RL 225 yX6_rainTotal ∈ ml_all := ml_tb 322 (by decide +kernel) rfl
theorem wcX7_rainTotal : ml_wc yX7_rainTotal cX7_rainTotal 1 (some .int) := ⟨ml_tb 1721 (by decide +kernel) rfl, ml_tb 12 (by decide +kernel) rfl, by decide⟩
theorem wdX7_rainTotal : ml_wd yX7_rainTotal 0 := ⟨by decide +kernel, by decide +kernel, by decide +kernel⟩
theorem imX7_rainTotal : Cond.instanceMethod yX7_rainTotal ∈ ml_all := ml_tb 1719 (by decide +kernel) rfl
theorem seX7_rainTotal : Cond.selects yX7_rainTotal.cls yX7_rainTotal yX7_rainTotal ∈ ml_all := ml_tb 1720 (by decide +kernel) rfl
theorem mlL_228 : Cond.methodLink RL 228 yX7_rainTotal ∈ ml_all := ml_tb 1718 (by decide +kernel) rfl
theorem wcX6_drainTotal : ml_wc yX6_drainTotal cX6_drainTotal 1 (some .int) := ⟨ml_tb 329 (by decide +kernel) rfl, ml_tb 1 (by decide +kernel) rfl, by decide⟩
theorem wdX6_drainTotal : ml_wd yX6_drainTotal 0 := ⟨by decide +kernel, by decide +kernel, by decide +kernel⟩
theorem imX6_drainTotal : Cond.instanceMethod yX6_drainTotal ∈ ml_all := ml_tb 327 (by decide +kernel) rfl
theorem seX6_drainTotal : Cond.selects yX6_drainTotal.cls yX6_drainTotal yX6_drainTotal ∈ ml_all := ml_tb 328 (by decide +kernel) rfl
theorem mlL_229 : Cond.methodLink RL 229 yX6_drainTotal ∈ ml_all := ml_tb 326 (by decide +kernel) rfl
theorem wcX7_drainTotal : ml_wc yX7_drainTotal cX7_drainTotal 1 (some .int) := ⟨ml_tb 1725 (by decide +kernel) rfl, ml_tb 12 (by decide +kernel) rfl, by decide⟩
theorem wdX7_drainTotal : ml_wd yX7_drainTotal 0 := ⟨by decide +kernel, by decide +kernel, by decide +kernel⟩
theorem imX7_drainTotal : Cond.instanceMethod yX7_drainTotal ∈ ml_all := ml_tb 1723 (by decide +kernel) rfl
theorem seX7_drainTotal : Cond.selects yX7_drainTotal.cls yX7_drainTotal yX7_drainTotal ∈ ml_all := ml_tb 1724 (by decide +kernel) rfl
theorem mlL_232 : Cond.methodLink RL 232 yX7_drainTotal ∈ ml_all := ml_tb 1722 (by decide +kernel) rfl
theorem wcX6_spilledTotal : ml_wc yX6_spilledTotal cX6_spilledTotal 1 (some .int) := ⟨ml_tb 333 (by decide +kernel) rfl, ml_tb 1 (by decide +kernel) rfl, by decide⟩
theorem wdX6_spilledTotal : ml_wd yX6_spilledTotal 0 := ⟨by decide +kernel, by decide +kernel, by decide +kernel⟩
theorem imX6_spilledTotal : Cond.instanceMethod yX6_spilledTotal ∈ ml_all := ml_tb 331 (by decide +kernel) rfl
theorem seX6_spilledTotal : Cond.selects yX6_spilledTotal.cls yX6_spilledTotal yX6_spilledTotal ∈ ml_all := ml_tb 332 (by decide +kernel) rfl
theorem mlL_233 : Cond.methodLink RL 233 yX6_spilledTotal ∈ ml_all := ml_tb 330 (by decide +kernel) rfl
theorem wcX7_spilledTotal : ml_wc yX7_spilledTotal cX7_spilledTotal 1 (some .int) := ⟨ml_tb 1729 (by decide +kernel) rfl, ml_tb 12 (by decide +kernel) rfl, by decide⟩
theorem wdX7_spilledTotal : ml_wd yX7_spilledTotal 0 := ⟨by decide +kernel, by decide +kernel, by decide +kernel⟩
theorem imX7_spilledTotal : Cond.instanceMethod yX7_spilledTotal ∈ ml_all := ml_tb 1727 (by decide +kernel) rfl
theorem seX7_spilledTotal : Cond.selects yX7_spilledTotal.cls yX7_spilledTotal yX7_spilledTotal ∈ ml_all := ml_tb 1728 (by decide +kernel) rfl
theorem mlL_236 : Cond.methodLink RL 236 yX7_spilledTotal ∈ ml_all := ml_tb 1726 (by decide +kernel) rfl
theorem wcL_basinByLevel : ml_wcW yL_basinByLevel cL_basinByLevel 4 (some .int) [(0, 9, 12, 77)] := ⟨ml_tb 1118 (by decide +kernel) rfl, ml_tb 0 (by decide +kernel) rfl, by decide⟩
theorem wdL_basinByLevel : ml_wd yL_basinByLevel 3 := ⟨by decide +kernel, by decide +kernel, by decide +kernel⟩
theorem stL_basinByLevel : Cond.static yL_basinByLevel ∈ ml_all := ml_tb 1117 (by decide +kernel) rfl
theorem mlL_237 : Cond.methodLink RL 237 yL_basinByLevel ∈ ml_all := ml_tb 1116 (by decide +kernel) rfl
theorem wcX7_basinByLevel : ml_wc yX7_basinByLevel cX7_basinByLevel 5 (some .int) := ⟨ml_tb 1733 (by decide +kernel) rfl, ml_tb 12 (by decide +kernel) rfl, by decide⟩
theorem wdX7_basinByLevel : ml_wd yX7_basinByLevel 1 := ⟨by decide +kernel, by decide +kernel, by decide +kernel⟩
theorem imX7_basinByLevel : Cond.instanceMethod yX7_basinByLevel ∈ ml_all := ml_tb 1731 (by decide +kernel) rfl
theorem seX7_basinByLevel : Cond.selects yX7_basinByLevel.cls yX7_basinByLevel yX7_basinByLevel ∈ ml_all := ml_tb 1732 (by decide +kernel) rfl
theorem mlL_239 : Cond.methodLink RL 239 yX7_basinByLevel ∈ ml_all := ml_tb 1730 (by decide +kernel) rfl
theorem wcX6_boatCount : ml_wc yX6_boatCount cX6_boatCount 1 (some .int) := ⟨ml_tb 337 (by decide +kernel) rfl, ml_tb 1 (by decide +kernel) rfl, by decide⟩
theorem wdX6_boatCount : ml_wd yX6_boatCount 0 := ⟨by decide +kernel, by decide +kernel, by decide +kernel⟩
theorem imX6_boatCount : Cond.instanceMethod yX6_boatCount ∈ ml_all := ml_tb 335 (by decide +kernel) rfl
theorem seX6_boatCount : Cond.selects yX6_boatCount.cls yX6_boatCount yX6_boatCount ∈ ml_all := ml_tb 336 (by decide +kernel) rfl
theorem mlL_240 : Cond.methodLink RL 240 yX6_boatCount ∈ ml_all := ml_tb 334 (by decide +kernel) rfl
theorem wcX7_boatCount : ml_wc yX7_boatCount cX7_boatCount 1 (some .int) := ⟨ml_tb 1737 (by decide +kernel) rfl, ml_tb 12 (by decide +kernel) rfl, by decide⟩
theorem wdX7_boatCount : ml_wd yX7_boatCount 0 := ⟨by decide +kernel, by decide +kernel, by decide +kernel⟩
theorem imX7_boatCount : Cond.instanceMethod yX7_boatCount ∈ ml_all := ml_tb 1735 (by decide +kernel) rfl
theorem seX7_boatCount : Cond.selects yX7_boatCount.cls yX7_boatCount yX7_boatCount ∈ ml_all := ml_tb 1736 (by decide +kernel) rfl
theorem mlL_243 : Cond.methodLink RL 243 yX7_boatCount ∈ ml_all := ml_tb 1734 (by decide +kernel) rfl
theorem wcL_colour : ml_wcW yL_colour cL_colour 4 (some .int) [(0, 9, 12, 21)] := ⟨ml_tb 1146 (by decide +kernel) rfl, ml_tb 0 (by decide +kernel) rfl, by decide⟩
theorem wdL_colour : ml_wd yL_colour 3 := ⟨by decide +kernel, by decide +kernel, by decide +kernel⟩
theorem stL_colour : Cond.static yL_colour ∈ ml_all := ml_tb 1145 (by decide +kernel) rfl
theorem mlL_244 : Cond.methodLink RL 244 yL_colour ∈ ml_all := ml_tb 1144 (by decide +kernel) rfl
theorem wcX7_colour : ml_wc yX7_colour cX7_colour 2 (some .char) := ⟨ml_tb 1741 (by decide +kernel) rfl, ml_tb 12 (by decide +kernel) rfl, by decide⟩
theorem wdX7_colour : ml_wd yX7_colour 1 := ⟨by decide +kernel, by decide +kernel, by decide +kernel⟩
theorem imX7_colour : Cond.instanceMethod yX7_colour ∈ ml_all := ml_tb 1739 (by decide +kernel) rfl
theorem seX7_colour : Cond.selects yX7_colour.cls yX7_colour yX7_colour ∈ ml_all := ml_tb 1740 (by decide +kernel) rfl
theorem mlL_246 : Cond.methodLink RL 246 yX7_colour ∈ ml_all := ml_tb 1738 (by decide +kernel) rfl
theorem wcL_draught : ml_wcW yL_draught cL_draught 4 (some .int) [(0, 9, 12, 21)] := ⟨ml_tb 1163 (by decide +kernel) rfl, ml_tb 0 (by decide +kernel) rfl, by decide⟩
theorem wdL_draught : ml_wd yL_draught 3 := ⟨by decide +kernel, by decide +kernel, by decide +kernel⟩
theorem stL_draught : Cond.static yL_draught ∈ ml_all := ml_tb 1162 (by decide +kernel) rfl
theorem mlL_247 : Cond.methodLink RL 247 yL_draught ∈ ml_all := ml_tb 1161 (by decide +kernel) rfl
theorem wcX7_draught : ml_wc yX7_draught cX7_draught 2 (some .int) := ⟨ml_tb 1752 (by decide +kernel) rfl, ml_tb 12 (by decide +kernel) rfl, by decide⟩
theorem wdX7_draught : ml_wd yX7_draught 1 := ⟨by decide +kernel, by decide +kernel, by decide +kernel⟩
theorem imX7_draught : Cond.instanceMethod yX7_draught ∈ ml_all := ml_tb 1750 (by decide +kernel) rfl
theorem seX7_draught : Cond.selects yX7_draught.cls yX7_draught yX7_draught ∈ ml_all := ml_tb 1751 (by decide +kernel) rfl
theorem mlL_249 : Cond.methodLink RL 249 yX7_draught ∈ ml_all := ml_tb 1749 (by decide +kernel) rfl
theorem wcL_isGoingDown : ml_wcW yL_isGoingDown cL_isGoingDown 4 (some .int) [(0, 16, 19, 21)] := ⟨ml_tb 1170 (by decide +kernel) rfl, ml_tb 0 (by decide +kernel) rfl, by decide⟩
theorem wdL_isGoingDown : ml_wd yL_isGoingDown 3 := ⟨by decide +kernel, by decide +kernel, by decide +kernel⟩
theorem stL_isGoingDown : Cond.static yL_isGoingDown ∈ ml_all := ml_tb 1169 (by decide +kernel) rfl
theorem mlL_250 : Cond.methodLink RL 250 yL_isGoingDown ∈ ml_all := ml_tb 1168 (by decide +kernel) rfl
theorem wcX7_isGoingDown : ml_wc yX7_isGoingDown cX7_isGoingDown 2 (some .boolean) := ⟨ml_tb 1760 (by decide +kernel) rfl, ml_tb 12 (by decide +kernel) rfl, by decide⟩
theorem wdX7_isGoingDown : ml_wd yX7_isGoingDown 1 := ⟨by decide +kernel, by decide +kernel, by decide +kernel⟩
theorem imX7_isGoingDown : Cond.instanceMethod yX7_isGoingDown ∈ ml_all := ml_tb 1758 (by decide +kernel) rfl
theorem seX7_isGoingDown : Cond.selects yX7_isGoingDown.cls yX7_isGoingDown yX7_isGoingDown ∈ ml_all := ml_tb 1759 (by decide +kernel) rfl
theorem mlL_252 : Cond.methodLink RL 252 yX7_isGoingDown ∈ ml_all := ml_tb 1757 (by decide +kernel) rfl
theorem wcL_basinOf : ml_wcW yL_basinOf cL_basinOf 4 (some .int) [(0, 9, 12, 21)] := ⟨ml_tb 1177 (by decide +kernel) rfl, ml_tb 0 (by decide +kernel) rfl, by decide⟩
theorem wdL_basinOf : ml_wd yL_basinOf 3 := ⟨by decide +kernel, by decide +kernel, by decide +kernel⟩
theorem stL_basinOf : Cond.static yL_basinOf ∈ ml_all := ml_tb 1176 (by decide +kernel) rfl
theorem mlL_253 : Cond.methodLink RL 253 yL_basinOf ∈ ml_all := ml_tb 1175 (by decide +kernel) rfl
theorem wcX7_basinOf : ml_wc yX7_basinOf cX7_basinOf 2 (some .int) := ⟨ml_tb 1764 (by decide +kernel) rfl, ml_tb 12 (by decide +kernel) rfl, by decide⟩
theorem wdX7_basinOf : ml_wd yX7_basinOf 1 := ⟨by decide +kernel, by decide +kernel, by decide +kernel⟩
theorem imX7_basinOf : Cond.instanceMethod yX7_basinOf ∈ ml_all := ml_tb 1762 (by decide +kernel) rfl
theorem seX7_basinOf : Cond.selects yX7_basinOf.cls yX7_basinOf yX7_basinOf ∈ ml_all := ml_tb 1763 (by decide +kernel) rfl
theorem mlL_255 : Cond.methodLink RL 255 yX7_basinOf ∈ ml_all := ml_tb 1761 (by decide +kernel) rfl
theorem wcL_boatsIn : ml_wcW yL_boatsIn cL_boatsIn 4 (some .int) [(0, 9, 12, 21)] := ⟨ml_tb 1184 (by decide +kernel) rfl, ml_tb 0 (by decide +kernel) rfl, by decide⟩
theorem wdL_boatsIn : ml_wd yL_boatsIn 3 := ⟨by decide +kernel, by decide +kernel, by decide +kernel⟩
theorem stL_boatsIn : Cond.static yL_boatsIn ∈ ml_all := ml_tb 1183 (by decide +kernel) rfl
theorem mlL_256 : Cond.methodLink RL 256 yL_boatsIn ∈ ml_all := ml_tb 1182 (by decide +kernel) rfl
theorem wcX7_boatsIn : ml_wc yX7_boatsIn cX7_boatsIn 2 (some .int) := ⟨ml_tb 1768 (by decide +kernel) rfl, ml_tb 12 (by decide +kernel) rfl, by decide⟩
theorem wdX7_boatsIn : ml_wd yX7_boatsIn 1 := ⟨by decide +kernel, by decide +kernel, by decide +kernel⟩
theorem imX7_boatsIn : Cond.instanceMethod yX7_boatsIn ∈ ml_all := ml_tb 1766 (by decide +kernel) rfl
theorem seX7_boatsIn : Cond.selects yX7_boatsIn.cls yX7_boatsIn yX7_boatsIn ∈ ml_all := ml_tb 1767 (by decide +kernel) rfl
theorem mlL_258 : Cond.methodLink RL 258 yX7_boatsIn ∈ ml_all := ml_tb 1765 (by decide +kernel) rfl
theorem wcL_boatInOrder : ml_wcW yL_boatInOrder cL_boatInOrder 4 (some .int) [(0, 9, 12, 77)] := ⟨ml_tb 1192 (by decide +kernel) rfl, ml_tb 0 (by decide +kernel) rfl, by decide⟩
theorem wdL_boatInOrder : ml_wd yL_boatInOrder 3 := ⟨by decide +kernel, by decide +kernel, by decide +kernel⟩
theorem stL_boatInOrder : Cond.static yL_boatInOrder ∈ ml_all := ml_tb 1191 (by decide +kernel) rfl
theorem mlL_259 : Cond.methodLink RL 259 yL_boatInOrder ∈ ml_all := ml_tb 1190 (by decide +kernel) rfl
theorem wcX7_boatInOrder : ml_wc yX7_boatInOrder cX7_boatInOrder 5 (some .int) := ⟨ml_tb 1772 (by decide +kernel) rfl, ml_tb 12 (by decide +kernel) rfl, by decide⟩
theorem wdX7_boatInOrder : ml_wd yX7_boatInOrder 1 := ⟨by decide +kernel, by decide +kernel, by decide +kernel⟩
theorem imX7_boatInOrder : Cond.instanceMethod yX7_boatInOrder ∈ ml_all := ml_tb 1770 (by decide +kernel) rfl
theorem seX7_boatInOrder : Cond.selects yX7_boatInOrder.cls yX7_boatInOrder yX7_boatInOrder ∈ ml_all := ml_tb 1771 (by decide +kernel) rfl
theorem mlL_261 : Cond.methodLink RL 261 yX7_boatInOrder ∈ ml_all := ml_tb 1769 (by decide +kernel) rfl
theorem wcL_floats : ml_wcW yL_floats cL_floats 5 (some .int) [(0, 17, 20, 21)] := ⟨ml_tb 1203 (by decide +kernel) rfl, ml_tb 0 (by decide +kernel) rfl, by decide⟩
theorem wdL_floats : ml_wd yL_floats 4 := ⟨by decide +kernel, by decide +kernel, by decide +kernel⟩
theorem stL_floats : Cond.static yL_floats ∈ ml_all := ml_tb 1202 (by decide +kernel) rfl
theorem mlL_262 : Cond.methodLink RL 262 yL_floats ∈ ml_all := ml_tb 1201 (by decide +kernel) rfl
theorem wcX7_floats : ml_wc yX7_floats cX7_floats 3 (some .boolean) := ⟨ml_tb 1776 (by decide +kernel) rfl, ml_tb 12 (by decide +kernel) rfl, by decide⟩
theorem wdX7_floats : ml_wd yX7_floats 2 := ⟨by decide +kernel, by decide +kernel, by decide +kernel⟩
theorem imX7_floats : Cond.instanceMethod yX7_floats ∈ ml_all := ml_tb 1774 (by decide +kernel) rfl
theorem seX7_floats : Cond.selects yX7_floats.cls yX7_floats yX7_floats ∈ ml_all := ml_tb 1775 (by decide +kernel) rfl
theorem mlL_264 : Cond.methodLink RL 264 yX7_floats ∈ ml_all := ml_tb 1773 (by decide +kernel) rfl
theorem wcL_leftTotal : ml_wcW yL_leftTotal cL_leftTotal 4 (some .int) [(0, 9, 12, 13)] := ⟨ml_tb 1211 (by decide +kernel) rfl, ml_tb 0 (by decide +kernel) rfl, by decide⟩
theorem wdL_leftTotal : ml_wd yL_leftTotal 3 := ⟨by decide +kernel, by decide +kernel, by decide +kernel⟩
theorem stL_leftTotal : Cond.static yL_leftTotal ∈ ml_all := ml_tb 1210 (by decide +kernel) rfl
theorem mlL_265 : Cond.methodLink RL 265 yL_leftTotal ∈ ml_all := ml_tb 1209 (by decide +kernel) rfl
theorem wcX7_leftTotal : ml_wc yX7_leftTotal cX7_leftTotal 2 (some .int) := ⟨ml_tb 1780 (by decide +kernel) rfl, ml_tb 12 (by decide +kernel) rfl, by decide⟩
theorem wdX7_leftTotal : ml_wd yX7_leftTotal 1 := ⟨by decide +kernel, by decide +kernel, by decide +kernel⟩
theorem imX7_leftTotal : Cond.instanceMethod yX7_leftTotal ∈ ml_all := ml_tb 1778 (by decide +kernel) rfl
theorem seX7_leftTotal : Cond.selects yX7_leftTotal.cls yX7_leftTotal yX7_leftTotal ∈ ml_all := ml_tb 1779 (by decide +kernel) rfl
theorem mlL_268 : Cond.methodLink RL 268 yX7_leftTotal ∈ ml_all := ml_tb 1777 (by decide +kernel) rfl
theorem wcL_minutesUntilLeaving : ml_wcW yL_minutesUntilLeaving cL_minutesUntilLeaving 4 (some .int) [(0, 9, 12, 21), (0, 9, 15, 77)] := ⟨ml_tb 1220 (by decide +kernel) rfl, ml_tb 0 (by decide +kernel) rfl, by decide⟩
theorem wdL_minutesUntilLeaving : ml_wd yL_minutesUntilLeaving 3 := ⟨by decide +kernel, by decide +kernel, by decide +kernel⟩
theorem stL_minutesUntilLeaving : Cond.static yL_minutesUntilLeaving ∈ ml_all := ml_tb 1219 (by decide +kernel) rfl
theorem mlL_269 : Cond.methodLink RL 269 yL_minutesUntilLeaving ∈ ml_all := ml_tb 1218 (by decide +kernel) rfl
theorem wcX7_minutesUntilLeaving : ml_wc yX7_minutesUntilLeaving cX7_minutesUntilLeaving 5 (some .int) := ⟨ml_tb 1784 (by decide +kernel) rfl, ml_tb 12 (by decide +kernel) rfl, by decide⟩
theorem wdX7_minutesUntilLeaving : ml_wd yX7_minutesUntilLeaving 1 := ⟨by decide +kernel, by decide +kernel, by decide +kernel⟩
theorem imX7_minutesUntilLeaving : Cond.instanceMethod yX7_minutesUntilLeaving ∈ ml_all := ml_tb 1782 (by decide +kernel) rfl
theorem seX7_minutesUntilLeaving : Cond.selects yX7_minutesUntilLeaving.cls yX7_minutesUntilLeaving yX7_minutesUntilLeaving ∈ ml_all := ml_tb 1783 (by decide +kernel) rfl
theorem mlL_271 : Cond.methodLink RL 271 yX7_minutesUntilLeaving ∈ ml_all := ml_tb 1781 (by decide +kernel) rfl
theorem wcL_minutesUntilEqual : ml_wcW yL_minutesUntilEqual cL_minutesUntilEqual 4 (some .int) [(0, 9, 12, 21), (0, 9, 15, 77)] := ⟨ml_tb 1233 (by decide +kernel) rfl, ml_tb 0 (by decide +kernel) rfl, by decide⟩
theorem wdL_minutesUntilEqual : ml_wd yL_minutesUntilEqual 3 := ⟨by decide +kernel, by decide +kernel, by decide +kernel⟩
theorem stL_minutesUntilEqual : Cond.static yL_minutesUntilEqual ∈ ml_all := ml_tb 1232 (by decide +kernel) rfl
theorem mlL_272 : Cond.methodLink RL 272 yL_minutesUntilEqual ∈ ml_all := ml_tb 1231 (by decide +kernel) rfl
theorem wcX7_minutesUntilEqual : ml_wc yX7_minutesUntilEqual cX7_minutesUntilEqual 5 (some .int) := ⟨ml_tb 1792 (by decide +kernel) rfl, ml_tb 12 (by decide +kernel) rfl, by decide⟩
theorem wdX7_minutesUntilEqual : ml_wd yX7_minutesUntilEqual 1 := ⟨by decide +kernel, by decide +kernel, by decide +kernel⟩
theorem imX7_minutesUntilEqual : Cond.instanceMethod yX7_minutesUntilEqual ∈ ml_all := ml_tb 1790 (by decide +kernel) rfl
theorem seX7_minutesUntilEqual : Cond.selects yX7_minutesUntilEqual.cls yX7_minutesUntilEqual yX7_minutesUntilEqual ∈ ml_all := ml_tb 1791 (by decide +kernel) rfl
theorem mlL_274 : Cond.methodLink RL 274 yX7_minutesUntilEqual ∈ ml_all := ml_tb 1789 (by decide +kernel) rfl
theorem wcL_volumeAfter : ml_wcW yL_volumeAfter cL_volumeAfter 5 (some .int) [(0, 10, 13, 21), (0, 10, 17, 13)] := ⟨ml_tb 1241 (by decide +kernel) rfl, ml_tb 0 (by decide +kernel) rfl, by decide⟩
theorem wdL_volumeAfter : ml_wd yL_volumeAfter 4 := ⟨by decide +kernel, by decide +kernel, by decide +kernel⟩
theorem stL_volumeAfter : Cond.static yL_volumeAfter ∈ ml_all := ml_tb 1240 (by decide +kernel) rfl
theorem mlL_275 : Cond.methodLink RL 275 yL_volumeAfter ∈ ml_all := ml_tb 1239 (by decide +kernel) rfl
theorem wcX7_volumeAfter : ml_wc yX7_volumeAfter cX7_volumeAfter 5 (some .int) := ⟨ml_tb 1796 (by decide +kernel) rfl, ml_tb 12 (by decide +kernel) rfl, by decide⟩
theorem wdX7_volumeAfter : ml_wd yX7_volumeAfter 2 := ⟨by decide +kernel, by decide +kernel, by decide +kernel⟩
theorem imX7_volumeAfter : Cond.instanceMethod yX7_volumeAfter ∈ ml_all := ml_tb 1794 (by decide +kernel) rfl
theorem seX7_volumeAfter : Cond.selects yX7_volumeAfter.cls yX7_volumeAfter yX7_volumeAfter ∈ ml_all := ml_tb 1795 (by decide +kernel) rfl
theorem mlL_277 : Cond.methodLink RL 277 yX7_volumeAfter ∈ ml_all := ml_tb 1793 (by decide +kernel) rfl
theorem wcX6_eventCount : ml_wc yX6_eventCount cX6_eventCount 1 (some .int) := ⟨ml_tb 341 (by decide +kernel) rfl, ml_tb 1 (by decide +kernel) rfl, by decide⟩
theorem wdX6_eventCount : ml_wd yX6_eventCount 0 := ⟨by decide +kernel, by decide +kernel, by decide +kernel⟩
theorem imX6_eventCount : Cond.instanceMethod yX6_eventCount ∈ ml_all := ml_tb 339 (by decide +kernel) rfl
theorem seX6_eventCount : Cond.selects yX6_eventCount.cls yX6_eventCount yX6_eventCount ∈ ml_all := ml_tb 340 (by decide +kernel) rfl
theorem mlL_278 : Cond.methodLink RL 278 yX6_eventCount ∈ ml_all := ml_tb 338 (by decide +kernel) rfl
theorem wcX7_eventCount : ml_wc yX7_eventCount cX7_eventCount 1 (some .int) := ⟨ml_tb 1800 (by decide +kernel) rfl, ml_tb 12 (by decide +kernel) rfl, by decide⟩
theorem wdX7_eventCount : ml_wd yX7_eventCount 0 := ⟨by decide +kernel, by decide +kernel, by decide +kernel⟩
theorem imX7_eventCount : Cond.instanceMethod yX7_eventCount ∈ ml_all := ml_tb 1798 (by decide +kernel) rfl
theorem seX7_eventCount : Cond.selects yX7_eventCount.cls yX7_eventCount yX7_eventCount ∈ ml_all := ml_tb 1799 (by decide +kernel) rfl
theorem mlL_281 : Cond.methodLink RL 281 yX7_eventCount ∈ ml_all := ml_tb 1797 (by decide +kernel) rfl
theorem wcL_eventKind : ml_wcW yL_eventKind cL_eventKind 4 (some .int) [(0, 9, 12, 77)] := ⟨ml_tb 1249 (by decide +kernel) rfl, ml_tb 0 (by decide +kernel) rfl, by decide⟩
theorem wdL_eventKind : ml_wd yL_eventKind 3 := ⟨by decide +kernel, by decide +kernel, by decide +kernel⟩
theorem stL_eventKind : Cond.static yL_eventKind ∈ ml_all := ml_tb 1248 (by decide +kernel) rfl
theorem mlL_282 : Cond.methodLink RL 282 yL_eventKind ∈ ml_all := ml_tb 1247 (by decide +kernel) rfl
theorem wcX7_eventKind : ml_wc yX7_eventKind cX7_eventKind 2 (some .char) := ⟨ml_tb 1804 (by decide +kernel) rfl, ml_tb 12 (by decide +kernel) rfl, by decide⟩
theorem wdX7_eventKind : ml_wd yX7_eventKind 1 := ⟨by decide +kernel, by decide +kernel, by decide +kernel⟩
theorem imX7_eventKind : Cond.instanceMethod yX7_eventKind ∈ ml_all := ml_tb 1802 (by decide +kernel) rfl
theorem seX7_eventKind : Cond.selects yX7_eventKind.cls yX7_eventKind yX7_eventKind ∈ ml_all := ml_tb 1803 (by decide +kernel) rfl
theorem mlL_284 : Cond.methodLink RL 284 yX7_eventKind ∈ ml_all := ml_tb 1801 (by decide +kernel) rfl
theorem wcL_eventNumber : ml_wcW yL_eventNumber cL_eventNumber 4 (some .int) [(0, 9, 12, 77)] := ⟨ml_tb 1268 (by decide +kernel) rfl, ml_tb 0 (by decide +kernel) rfl, by decide⟩
theorem wdL_eventNumber : ml_wd yL_eventNumber 3 := ⟨by decide +kernel, by decide +kernel, by decide +kernel⟩
theorem stL_eventNumber : Cond.static yL_eventNumber ∈ ml_all := ml_tb 1267 (by decide +kernel) rfl
theorem mlL_285 : Cond.methodLink RL 285 yL_eventNumber ∈ ml_all := ml_tb 1266 (by decide +kernel) rfl
theorem wcX7_eventNumber : ml_wc yX7_eventNumber cX7_eventNumber 2 (some .int) := ⟨ml_tb 1812 (by decide +kernel) rfl, ml_tb 12 (by decide +kernel) rfl, by decide⟩
theorem wdX7_eventNumber : ml_wd yX7_eventNumber 1 := ⟨by decide +kernel, by decide +kernel, by decide +kernel⟩
theorem imX7_eventNumber : Cond.instanceMethod yX7_eventNumber ∈ ml_all := ml_tb 1810 (by decide +kernel) rfl
theorem seX7_eventNumber : Cond.selects yX7_eventNumber.cls yX7_eventNumber yX7_eventNumber ∈ ml_all := ml_tb 1811 (by decide +kernel) rfl
theorem mlL_287 : Cond.methodLink RL 287 yX7_eventNumber ∈ ml_all := ml_tb 1809 (by decide +kernel) rfl
theorem wcX6_time : ml_wc yX6_time cX6_time 1 (some .int) := ⟨ml_tb 345 (by decide +kernel) rfl, ml_tb 1 (by decide +kernel) rfl, by decide⟩
theorem wdX6_time : ml_wd yX6_time 0 := ⟨by decide +kernel, by decide +kernel, by decide +kernel⟩
theorem imX6_time : Cond.instanceMethod yX6_time ∈ ml_all := ml_tb 343 (by decide +kernel) rfl
theorem seX6_time : Cond.selects yX6_time.cls yX6_time yX6_time ∈ ml_all := ml_tb 344 (by decide +kernel) rfl
theorem mlL_288 : Cond.methodLink RL 288 yX6_time ∈ ml_all := ml_tb 342 (by decide +kernel) rfl
theorem wcX7_time : ml_wc yX7_time cX7_time 1 (some .int) := ⟨ml_tb 1816 (by decide +kernel) rfl, ml_tb 12 (by decide +kernel) rfl, by decide⟩
theorem wdX7_time : ml_wd yX7_time 0 := ⟨by decide +kernel, by decide +kernel, by decide +kernel⟩
theorem imX7_time : Cond.instanceMethod yX7_time ∈ ml_all := ml_tb 1814 (by decide +kernel) rfl
theorem seX7_time : Cond.selects yX7_time.cls yX7_time yX7_time ∈ ml_all := ml_tb 1815 (by decide +kernel) rfl
theorem mlL_291 : Cond.methodLink RL 291 yX7_time ∈ ml_all := ml_tb 1813 (by decide +kernel) rfl
theorem wcX6_meanLevel : ml_wc yX6_meanLevel cX6_meanLevel 1 (some .float) := ⟨ml_tb 349 (by decide +kernel) rfl, ml_tb 1 (by decide +kernel) rfl, by decide⟩
theorem wdX6_meanLevel : ml_wd yX6_meanLevel 0 := ⟨by decide +kernel, by decide +kernel, by decide +kernel⟩
theorem imX6_meanLevel : Cond.instanceMethod yX6_meanLevel ∈ ml_all := ml_tb 347 (by decide +kernel) rfl
theorem seX6_meanLevel : Cond.selects yX6_meanLevel.cls yX6_meanLevel yX6_meanLevel ∈ ml_all := ml_tb 348 (by decide +kernel) rfl
theorem mlL_292 : Cond.methodLink RL 292 yX6_meanLevel ∈ ml_all := ml_tb 346 (by decide +kernel) rfl
theorem wcX7_meanLevel : ml_wc yX7_meanLevel cX7_meanLevel 1 (some .float) := ⟨ml_tb 1820 (by decide +kernel) rfl, ml_tb 12 (by decide +kernel) rfl, by decide⟩
theorem wdX7_meanLevel : ml_wd yX7_meanLevel 0 := ⟨by decide +kernel, by decide +kernel, by decide +kernel⟩
theorem imX7_meanLevel : Cond.instanceMethod yX7_meanLevel ∈ ml_all := ml_tb 1818 (by decide +kernel) rfl
theorem seX7_meanLevel : Cond.selects yX7_meanLevel.cls yX7_meanLevel yX7_meanLevel ∈ ml_all := ml_tb 1819 (by decide +kernel) rfl
theorem mlL_296 : Cond.methodLink RL 296 yX7_meanLevel ∈ ml_all := ml_tb 1817 (by decide +kernel) rfl
theorem wcX6_isConsistent : ml_wc yX6_isConsistent cX6_isConsistent 1 (some .boolean) := ⟨ml_tb 354 (by decide +kernel) rfl, ml_tb 1 (by decide +kernel) rfl, by decide⟩
theorem wdX6_isConsistent : ml_wd yX6_isConsistent 0 := ⟨by decide +kernel, by decide +kernel, by decide +kernel⟩
theorem imX6_isConsistent : Cond.instanceMethod yX6_isConsistent ∈ ml_all := ml_tb 352 (by decide +kernel) rfl
theorem seX6_isConsistent : Cond.selects yX6_isConsistent.cls yX6_isConsistent yX6_isConsistent ∈ ml_all := ml_tb 353 (by decide +kernel) rfl
theorem mlL_297 : Cond.methodLink RL 297 yX6_isConsistent ∈ ml_all := ml_tb 351 (by decide +kernel) rfl
theorem wcX7_isConsistent : ml_wc yX7_isConsistent cX7_isConsistent 1 (some .boolean) := ⟨ml_tb 1825 (by decide +kernel) rfl, ml_tb 12 (by decide +kernel) rfl, by decide⟩
theorem wdX7_isConsistent : ml_wd yX7_isConsistent 0 := ⟨by decide +kernel, by decide +kernel, by decide +kernel⟩
theorem imX7_isConsistent : Cond.instanceMethod yX7_isConsistent ∈ ml_all := ml_tb 1823 (by decide +kernel) rfl
theorem seX7_isConsistent : Cond.selects yX7_isConsistent.cls yX7_isConsistent yX7_isConsistent ∈ ml_all := ml_tb 1824 (by decide +kernel) rfl
theorem mlL_301 : Cond.methodLink RL 301 yX7_isConsistent ∈ ml_all := ml_tb 1822 (by decide +kernel) rfl
theorem wcX6_renderLevels : ml_wc yX6_renderLevels cX6_renderLevels 2 (some .int) := ⟨ml_tb 396 (by decide +kernel) rfl, ml_tb 1 (by decide +kernel) rfl, by decide⟩
theorem wdX6_renderLevels : ml_wd yX6_renderLevels 0 := ⟨by decide +kernel, by decide +kernel, by decide +kernel⟩
theorem imX6_renderLevels : Cond.instanceMethod yX6_renderLevels ∈ ml_all := ml_tb 394 (by decide +kernel) rfl
theorem seX6_renderLevels : Cond.selects yX6_renderLevels.cls yX6_renderLevels yX6_renderLevels ∈ ml_all := ml_tb 395 (by decide +kernel) rfl
theorem mlL_302 : Cond.methodLink RL 302 yX6_renderLevels ∈ ml_all := ml_tb 393 (by decide +kernel) rfl
theorem wcX7_renderLevels : ml_wc yX7_renderLevels cX7_renderLevels 2 (some .int) := ⟨ml_tb 1829 (by decide +kernel) rfl, ml_tb 12 (by decide +kernel) rfl, by decide⟩
theorem wdX7_renderLevels : ml_wd yX7_renderLevels 0 := ⟨by decide +kernel, by decide +kernel, by decide +kernel⟩
theorem imX7_renderLevels : Cond.instanceMethod yX7_renderLevels ∈ ml_all := ml_tb 1827 (by decide +kernel) rfl
theorem seX7_renderLevels : Cond.selects yX7_renderLevels.cls yX7_renderLevels yX7_renderLevels ∈ ml_all := ml_tb 1828 (by decide +kernel) rfl
theorem mlL_305 : Cond.methodLink RL 305 yX7_renderLevels ∈ ml_all := ml_tb 1826 (by decide +kernel) rfl
theorem wcL_renderBoat : ml_wcW yL_renderBoat cL_renderBoat 4 (some .int) [(0, 9, 12, 21)] := ⟨ml_tb 1275 (by decide +kernel) rfl, ml_tb 0 (by decide +kernel) rfl, by decide⟩
theorem wdL_renderBoat : ml_wd yL_renderBoat 3 := ⟨by decide +kernel, by decide +kernel, by decide +kernel⟩
theorem stL_renderBoat : Cond.static yL_renderBoat ∈ ml_all := ml_tb 1274 (by decide +kernel) rfl
theorem mlL_306 : Cond.methodLink RL 306 yL_renderBoat ∈ ml_all := ml_tb 1273 (by decide +kernel) rfl
theorem wcX7_renderBoat : ml_wc yX7_renderBoat cX7_renderBoat 2 (some .int) := ⟨ml_tb 1841 (by decide +kernel) rfl, ml_tb 12 (by decide +kernel) rfl, by decide⟩
theorem wdX7_renderBoat : ml_wd yX7_renderBoat 1 := ⟨by decide +kernel, by decide +kernel, by decide +kernel⟩
theorem imX7_renderBoat : Cond.instanceMethod yX7_renderBoat ∈ ml_all := ml_tb 1839 (by decide +kernel) rfl
theorem seX7_renderBoat : Cond.selects yX7_renderBoat.cls yX7_renderBoat yX7_renderBoat ∈ ml_all := ml_tb 1840 (by decide +kernel) rfl
theorem mlL_308 : Cond.methodLink RL 308 yX7_renderBoat ∈ ml_all := ml_tb 1838 (by decide +kernel) rfl
theorem wcL_outputAt : ml_wcW yL_outputAt cL_outputAt 4 (some .int) [(0, 9, 12, 21)] := ⟨ml_tb 1282 (by decide +kernel) rfl, ml_tb 0 (by decide +kernel) rfl, by decide⟩
theorem wdL_outputAt : ml_wd yL_outputAt 3 := ⟨by decide +kernel, by decide +kernel, by decide +kernel⟩
theorem stL_outputAt : Cond.static yL_outputAt ∈ ml_all := ml_tb 1281 (by decide +kernel) rfl
theorem mlL_309 : Cond.methodLink RL 309 yL_outputAt ∈ ml_all := ml_tb 1280 (by decide +kernel) rfl
theorem wcX7_outputAt : ml_wc yX7_outputAt cX7_outputAt 2 (some .char) := ⟨ml_tb 1845 (by decide +kernel) rfl, ml_tb 12 (by decide +kernel) rfl, by decide⟩
theorem wdX7_outputAt : ml_wd yX7_outputAt 1 := ⟨by decide +kernel, by decide +kernel, by decide +kernel⟩
theorem imX7_outputAt : Cond.instanceMethod yX7_outputAt ∈ ml_all := ml_tb 1843 (by decide +kernel) rfl
theorem seX7_outputAt : Cond.selects yX7_outputAt.cls yX7_outputAt yX7_outputAt ∈ ml_all := ml_tb 1844 (by decide +kernel) rfl
theorem mlL_311 : Cond.methodLink RL 311 yX7_outputAt ∈ ml_all := ml_tb 1842 (by decide +kernel) rfl
theorem wcL_type : ml_wcW yL_type cL_type 4 (some .int) [(0, 9, 12, 13), (0, 9, 15, 15)] := ⟨ml_tb 1300 (by decide +kernel) rfl, ml_tb 0 (by decide +kernel) rfl, by decide⟩
theorem wdL_type : ml_wd yL_type 3 := ⟨by decide +kernel, by decide +kernel, by decide +kernel⟩
theorem stL_type : Cond.static yL_type ∈ ml_all := ml_tb 1299 (by decide +kernel) rfl
theorem mlL_312 : Cond.methodLink RL 312 yL_type ∈ ml_all := ml_tb 1298 (by decide +kernel) rfl
theorem wcX7_type : ml_wc yX7_type cX7_type 2 (some .int) := ⟨ml_tb 1849 (by decide +kernel) rfl, ml_tb 12 (by decide +kernel) rfl, by decide⟩
theorem wdX7_type : ml_wd yX7_type 1 := ⟨by decide +kernel, by decide +kernel, by decide +kernel⟩
theorem imX7_type : Cond.instanceMethod yX7_type ∈ ml_all := ml_tb 1847 (by decide +kernel) rfl
theorem seX7_type : Cond.selects yX7_type.cls yX7_type yX7_type ∈ ml_all := ml_tb 1848 (by decide +kernel) rfl
theorem mlL_314 : Cond.methodLink RL 314 yX7_type ∈ ml_all := ml_tb 1846 (by decide +kernel) rfl
theorem wcL_runScript : ml_wcW yL_runScript cL_runScript 3 (some .int) [(0, 8, 11, 13), (0, 8, 14, 15)] := ⟨ml_tb 1309 (by decide +kernel) rfl, ml_tb 0 (by decide +kernel) rfl, by decide⟩
theorem wdL_runScript : ml_wd yL_runScript 2 := ⟨by decide +kernel, by decide +kernel, by decide +kernel⟩
theorem stL_runScript : Cond.static yL_runScript ∈ ml_all := ml_tb 1308 (by decide +kernel) rfl
theorem mlL_315 : Cond.methodLink RL 315 yL_runScript ∈ ml_all := ml_tb 1307 (by decide +kernel) rfl
theorem wcX7_runScript : ml_wc yX7_runScript cX7_runScript 3 (some .int) := ⟨ml_tb 1853 (by decide +kernel) rfl, ml_tb 12 (by decide +kernel) rfl, by decide⟩
theorem wdX7_runScript : ml_wd yX7_runScript 0 := ⟨by decide +kernel, by decide +kernel, by decide +kernel⟩
theorem imX7_runScript : Cond.instanceMethod yX7_runScript ∈ ml_all := ml_tb 1851 (by decide +kernel) rfl
theorem seX7_runScript : Cond.selects yX7_runScript.cls yX7_runScript yX7_runScript ∈ ml_all := ml_tb 1852 (by decide +kernel) rfl
theorem mlL_318 : Cond.methodLink RL 318 yX7_runScript ∈ ml_all := ml_tb 1850 (by decide +kernel) rfl
theorem wcL_errorPosition : ml_wcW yL_errorPosition cL_errorPosition 3 (some .int) [(0, 8, 11, 77)] := ⟨ml_tb 1424 (by decide +kernel) rfl, ml_tb 0 (by decide +kernel) rfl, by decide⟩
theorem wdL_errorPosition : ml_wd yL_errorPosition 2 := ⟨by decide +kernel, by decide +kernel, by decide +kernel⟩
theorem stL_errorPosition : Cond.static yL_errorPosition ∈ ml_all := ml_tb 1423 (by decide +kernel) rfl
theorem mlL_319 : Cond.methodLink RL 319 yL_errorPosition ∈ ml_all := ml_tb 1422 (by decide +kernel) rfl
theorem wcX7_errorPosition : ml_wc yX7_errorPosition cX7_errorPosition 1 (some .int) := ⟨ml_tb 1897 (by decide +kernel) rfl, ml_tb 12 (by decide +kernel) rfl, by decide⟩
theorem wdX7_errorPosition : ml_wd yX7_errorPosition 0 := ⟨by decide +kernel, by decide +kernel, by decide +kernel⟩
theorem imX7_errorPosition : Cond.instanceMethod yX7_errorPosition ∈ ml_all := ml_tb 1895 (by decide +kernel) rfl
theorem seX7_errorPosition : Cond.selects yX7_errorPosition.cls yX7_errorPosition yX7_errorPosition ∈ ml_all := ml_tb 1896 (by decide +kernel) rfl
theorem mlL_321 : Cond.methodLink RL 321 yX7_errorPosition ∈ ml_all := ml_tb 1894 (by decide +kernel) rfl
theorem wcL_failedCommand : ml_wcW yL_failedCommand cL_failedCommand 3 (some .int) [(0, 8, 11, 77)] := ⟨ml_tb 1432 (by decide +kernel) rfl, ml_tb 0 (by decide +kernel) rfl, by decide⟩
theorem wdL_failedCommand : ml_wd yL_failedCommand 2 := ⟨by decide +kernel, by decide +kernel, by decide +kernel⟩
theorem stL_failedCommand : Cond.static yL_failedCommand ∈ ml_all := ml_tb 1431 (by decide +kernel) rfl
theorem mlL_322 : Cond.methodLink RL 322 yL_failedCommand ∈ ml_all := ml_tb 1430 (by decide +kernel) rfl
theorem wcX7_failedCommand : ml_wc yX7_failedCommand cX7_failedCommand 1 (some .int) := ⟨ml_tb 1901 (by decide +kernel) rfl, ml_tb 12 (by decide +kernel) rfl, by decide⟩
theorem wdX7_failedCommand : ml_wd yX7_failedCommand 0 := ⟨by decide +kernel, by decide +kernel, by decide +kernel⟩
theorem imX7_failedCommand : Cond.instanceMethod yX7_failedCommand ∈ ml_all := ml_tb 1899 (by decide +kernel) rfl
theorem seX7_failedCommand : Cond.selects yX7_failedCommand.cls yX7_failedCommand yX7_failedCommand ∈ ml_all := ml_tb 1900 (by decide +kernel) rfl
theorem mlL_324 : Cond.methodLink RL 324 yX7_failedCommand ∈ ml_all := ml_tb 1898 (by decide +kernel) rfl
theorem wcL_undo : ml_wcW yL_undo cL_undo 3 (some .int) [(0, 8, 11, 77)] := ⟨ml_tb 1440 (by decide +kernel) rfl, ml_tb 0 (by decide +kernel) rfl, by decide⟩
theorem wdL_undo : ml_wd yL_undo 2 := ⟨by decide +kernel, by decide +kernel, by decide +kernel⟩
theorem stL_undo : Cond.static yL_undo ∈ ml_all := ml_tb 1439 (by decide +kernel) rfl
theorem mlL_325 : Cond.methodLink RL 325 yL_undo ∈ ml_all := ml_tb 1438 (by decide +kernel) rfl
theorem wcX7_undo : ml_wc yX7_undo cX7_undo 1 (some .int) := ⟨ml_tb 1905 (by decide +kernel) rfl, ml_tb 12 (by decide +kernel) rfl, by decide⟩
theorem wdX7_undo : ml_wd yX7_undo 0 := ⟨by decide +kernel, by decide +kernel, by decide +kernel⟩
theorem imX7_undo : Cond.instanceMethod yX7_undo ∈ ml_all := ml_tb 1903 (by decide +kernel) rfl
theorem seX7_undo : Cond.selects yX7_undo.cls yX7_undo yX7_undo ∈ ml_all := ml_tb 1904 (by decide +kernel) rfl
theorem mlL_327 : Cond.methodLink RL 327 yX7_undo ∈ ml_all := ml_tb 1902 (by decide +kernel) rfl
theorem wcX6_save : ml_wc yX6_save cX6_save 1 (some .int) := ⟨ml_tb 774 (by decide +kernel) rfl, ml_tb 1 (by decide +kernel) rfl, by decide⟩
theorem wdX6_save : ml_wd yX6_save 0 := ⟨by decide +kernel, by decide +kernel, by decide +kernel⟩
theorem imX6_save : Cond.instanceMethod yX6_save ∈ ml_all := ml_tb 772 (by decide +kernel) rfl
theorem seX6_save : Cond.selects yX6_save.cls yX6_save yX6_save ∈ ml_all := ml_tb 773 (by decide +kernel) rfl
theorem mlL_328 : Cond.methodLink RL 328 yX6_save ∈ ml_all := ml_tb 771 (by decide +kernel) rfl
theorem wcX7_save : ml_wc yX7_save cX7_save 1 (some .int) := ⟨ml_tb 1909 (by decide +kernel) rfl, ml_tb 12 (by decide +kernel) rfl, by decide⟩
theorem wdX7_save : ml_wd yX7_save 0 := ⟨by decide +kernel, by decide +kernel, by decide +kernel⟩
theorem imX7_save : Cond.instanceMethod yX7_save ∈ ml_all := ml_tb 1907 (by decide +kernel) rfl
theorem seX7_save : Cond.selects yX7_save.cls yX7_save yX7_save ∈ ml_all := ml_tb 1908 (by decide +kernel) rfl
theorem mlL_331 : Cond.methodLink RL 331 yX7_save ∈ ml_all := ml_tb 1906 (by decide +kernel) rfl
theorem wcL_restore : ml_wcW yL_restore cL_restore 3 (some .int) [(0, 8, 11, 15)] := ⟨ml_tb 1452 (by decide +kernel) rfl, ml_tb 0 (by decide +kernel) rfl, by decide⟩
theorem wdL_restore : ml_wd yL_restore 2 := ⟨by decide +kernel, by decide +kernel, by decide +kernel⟩
theorem stL_restore : Cond.static yL_restore ∈ ml_all := ml_tb 1451 (by decide +kernel) rfl
theorem mlL_332 : Cond.methodLink RL 332 yL_restore ∈ ml_all := ml_tb 1450 (by decide +kernel) rfl
theorem wcX7_restore : ml_wc yX7_restore cX7_restore 1 (some .int) := ⟨ml_tb 1913 (by decide +kernel) rfl, ml_tb 12 (by decide +kernel) rfl, by decide⟩
theorem wdX7_restore : ml_wd yX7_restore 0 := ⟨by decide +kernel, by decide +kernel, by decide +kernel⟩
theorem imX7_restore : Cond.instanceMethod yX7_restore ∈ ml_all := ml_tb 1911 (by decide +kernel) rfl
theorem seX7_restore : Cond.selects yX7_restore.cls yX7_restore yX7_restore ∈ ml_all := ml_tb 1912 (by decide +kernel) rfl
theorem mlL_334 : Cond.methodLink RL 334 yX7_restore ∈ ml_all := ml_tb 1910 (by decide +kernel) rfl
/-- the script's places i, i + 1 .. i + 3 -/
def lw_ix (i : Int32) (i0 L : Nat) : Prop := (¬ i < 0 ∧ i.toNatClampNeg = i0 ∧ i0 < L) ∧ (¬ i + 1 < 0 ∧ (i + 1).toNatClampNeg = i0 + 1 ∧ i0 + 1 < L) ∧ (¬ i + 2 < 0 ∧ (i + 2).toNatClampNeg = i0 + 2 ∧ i0 + 2 < L) ∧ (¬ i + 3 < 0 ∧ (i + 3).toNatClampNeg = i0 + 3 ∧ i0 + 3 < L)
def lw_ic (x : Int32) : Int32 := (x.toUInt32 % 65536).toInt32
def lw_bz (x : Int32) : Int32 := if x = 0 then 0 else 1
set_option maxHeartbeats 4000000 in
set_option maxRecDepth 100000 in
theorem lwc_0 {E : ml_E} {g : ml_G} {lv mc ms k n b L i0 : Nat} {ret : Option FieldType} {tb : List ExceptionTableEntry} {xs : Nat → Int32} {i : Int32} {Q : State → Prop} {M M1 M2 M3 : ml_M} {k9 b9 : Int32} (hst : g.2.2.2.2.2.stackTraces = false) (F : ml_F E g cL_law RL 10 lv mc ms ret tb) (S : ml_S E g b L xs) (hi : lw_ix i i0 L) (hlv : 20 ≤ lv) (hk : k + 2 ≤ mc) (hn2 : n + 12 ≤ ms) (hW : fL_addBoat ((lw_ic (xs (i0 + 1)))) ((xs (i0 + 2))) (lw_bz (xs (i0 + 3))) M = some (.inl k9, M1)) (hM : fX7_addBoat ((lw_ic (xs (i0 + 1)))) ((xs (i0 + 2))) (lw_bz (xs (i0 + 3))) M1 = some (.inl b9, M2)) (hT : fX7_thrown M2 = some (.inl k9, M3)) (hE : k9 = 0 → M3 181 0 = b9) (K : ml_J E g 10 Q (k + 2) (n + 12) 2751 [(5, .int i), (4, ml_rf g 182), (3, ml_rf g 181), (2, ml_rf g 11), (1, ml_rf g 0), (0, .ref b)] [] M3) : ml_J E g 10 Q k n 272 [(5, .int i), (4, ml_rf g 182), (3, ml_rf g 181), (2, ml_rf g 11), (1, ml_rf g 0), (0, .ref b)] [] M := by
  refine ml_aload_n (q := 4) F dL_law_272 rfl rfl ?_
  refine ml_aload_n (q := 5) F dL_law_273 rfl rfl ?_
  refine ml_iload (q := 0) F dL_law_274 rfl ?_
  refine ml_iconst (v := 1) F dL_law_276 (by decide) ?_
  refine ml_iadd F dL_law_277 ?_
  refine ml_scld (j := i0 + 1) (x := xs (i0 + 1)) F S hi.2.1.1 hi.2.1.2.1 hi.2.1.2.2 rfl dL_law_278 ?_
  refine ml_i2c F dL_law_279 ?_
  refine ml_aload_n (q := 5) F dL_law_280 rfl rfl ?_
  refine ml_iload (q := 0) F dL_law_281 rfl ?_
  refine ml_iconst (v := 2) F dL_law_283 (by decide) ?_
  refine ml_iadd F dL_law_284 ?_
  refine ml_scld (j := i0 + 2) (x := xs (i0 + 2)) F S hi.2.2.1.1 hi.2.2.1.2.1 hi.2.2.1.2.2 rfl dL_law_285 ?_
  refine ml_aload_n (q := 5) F dL_law_286 rfl rfl ?_
  refine ml_iload (q := 0) F dL_law_287 rfl ?_
  refine ml_iconst (v := 3) F dL_law_289 (by decide) ?_
  refine ml_iadd F dL_law_290 ?_
  refine ml_scld (j := i0 + 3) (x := xs (i0 + 3)) F S hi.2.2.2.1 hi.2.2.2.2.1 hi.2.2.2.2.2 rfl dL_law_291 ?_
  by_cases hz0 : (xs (i0 + 3)) = 0
  · refine ml_if_eqT (tgt := 299) F dL_law_292 (by decide) hz0 ?_
    have hbz : lw_bz (xs (i0 + 3)) = 0 := if_pos hz0
    rw [hbz] at hW hM
    refine ml_iconst (v := 0) F dL_law_299 (by decide) ?_
    refine ml_aload_n (q := 2) F dL_law_300 rfl rfl ?_
    refine ml_callSQ (hh := [(0, 12, 15, 13), (0, 12, 19, 15)]) (r8 := k9) (M8 := M1) (vl2 := fun r _ => some (.int r)) (av := [ml_rf g 0, .int (lw_ic (xs (i0 + 1))), .int (xs (i0 + 2)), .int 0, ml_rf g 181]) (st := []) F (fL_addBoat_c ((lw_ic (xs (i0 + 1)))) ((xs (i0 + 2))) 0 M _ hst hW) wcL_addBoat mlL_149 wdL_addBoat (by omega) (by omega) (by omega) rfl stL_addBoat rfl (Nat.le_of_ble_eq_true rfl) dL_law_301 ?_
    refine ml_istore (ls2 := [(6, .int k9), (5, .int i), (4, ml_rf g 182), (3, ml_rf g 181), (2, ml_rf g 11), (1, ml_rf g 0), (0, .ref b)]) F dL_law_304 (by decide) rfl ?_
    refine ml_aload_n (q := 4) F dL_law_306 rfl rfl ?_
    refine ml_aload_n (q := 6) F dL_law_307 rfl rfl ?_
    refine ml_iload (q := 1) F dL_law_308 rfl ?_
    refine ml_iconst (v := 1) F dL_law_310 (by decide) ?_
    refine ml_iadd F dL_law_311 ?_
    refine ml_scld (j := i0 + 1) (x := xs (i0 + 1)) F S hi.2.1.1 hi.2.1.2.1 hi.2.1.2.2 rfl dL_law_312 ?_
    refine ml_i2c F dL_law_313 ?_
    refine ml_aload_n (q := 6) F dL_law_314 rfl rfl ?_
    refine ml_iload (q := 1) F dL_law_315 rfl ?_
    refine ml_iconst (v := 2) F dL_law_317 (by decide) ?_
    refine ml_iadd F dL_law_318 ?_
    refine ml_scld (j := i0 + 2) (x := xs (i0 + 2)) F S hi.2.2.1.1 hi.2.2.1.2.1 hi.2.2.1.2.2 rfl dL_law_319 ?_
    refine ml_aload_n (q := 6) F dL_law_320 rfl rfl ?_
    refine ml_iload (q := 1) F dL_law_321 rfl ?_
    refine ml_iconst (v := 3) F dL_law_323 (by decide) ?_
    refine ml_iadd F dL_law_324 ?_
    refine ml_scld (j := i0 + 3) (x := xs (i0 + 3)) F S hi.2.2.2.1 hi.2.2.2.2.1 hi.2.2.2.2.2 rfl dL_law_325 ?_
    refine ml_if_eqT (tgt := 333) F dL_law_326 (by decide) hz0 ?_
    refine ml_iconst (v := 0) F dL_law_333 (by decide) ?_
    refine ml_callVQ (r8 := b9) (M8 := M2) (vl2 := (fun r _ => some (.int r))) (av := [.int (lw_ic (xs (i0 + 1))), .int (xs (i0 + 2)), .int 0]) (st := []) (kb := 11) (ci := 11) (T := TX7) (N := 16) F (pc11 g) rfl (fX7_addBoat_c ((lw_ic (xs (i0 + 1)))) ((xs (i0 + 2))) 0 M1 _ hst hM) wcX7_addBoat mlL_154 wdX7_addBoat (by omega) (by omega) (by omega) rfl seX7_addBoat imX7_addBoat rfl (Nat.le_of_ble_eq_true rfl) dL_law_334 ?_
    refine ml_istore (ls2 := [(7, .int b9), (6, .int k9), (5, .int i), (4, ml_rf g 182), (3, ml_rf g 181), (2, ml_rf g 11), (1, ml_rf g 0), (0, .ref b)]) F dL_law_337 (by decide) rfl ?_
    refine ml_aload_n (q := 5) F dL_law_339 rfl rfl ?_
    refine ml_callVQ (r8 := k9) (M8 := M3) (vl2 := (fun r _ => some (.int r))) (av := []) (st := []) (kb := 11) (ci := 11) (T := TX7) (N := 16) F (pc11 g) rfl (fX7_thrown_c M2 _ hst hT) wcX7_thrown mlL_155 wdX7_thrown (by omega) (by omega) (by omega) rfl seX7_thrown imX7_thrown rfl (Nat.le_of_ble_eq_true rfl) dL_law_340 ?_
    refine ml_iload (q := 1) F dL_law_343 rfl ?_
    refine ml_icmp_eqT (tgt := 350) F dL_law_345 (by decide) rfl ?_
    refine ml_iload (q := 1) F dL_law_350 rfl ?_
    by_cases hk0 : k9 = 0
    · refine ml_if_neF (tgt := 367) F dL_law_352 (by decide) hk0 ?_
      refine ml_aload_n (q := 4) F dL_law_355 rfl rfl ?_
      refine ml_iconst (v := 0) F dL_law_356 (by decide) ?_
      refine ml_lald F dL_law_357 ?_
      refine ml_iload (q := 0) F dL_law_358 rfl ?_
      refine ml_i2l F dL_law_360 ?_
      refine ml_lcmp0 F dL_law_361 (by rw [hE hk0]) ?_
      refine ml_if_eqT (tgt := 367) F dL_law_362 (by decide) rfl ?_
      refine ml_goto (tgt := 2751) F dL_law_367 (by decide) ?_
      exact ml_wid (by omega) (by omega) (ml_sub [2, 3, 4, 5, 6, 7] rfl K)
    · refine ml_if_neT (tgt := 367) F dL_law_352 (by decide) hk0 ?_
      refine ml_goto (tgt := 2751) F dL_law_367 (by decide) ?_
      exact ml_wid (by omega) (by omega) (ml_sub [2, 3, 4, 5, 6, 7] rfl K)
  · refine ml_if_eqF (tgt := 299) F dL_law_292 (by decide) hz0 ?_
    have hbz : lw_bz (xs (i0 + 3)) = 1 := if_neg hz0
    rw [hbz] at hW hM
    refine ml_iconst (v := 1) F dL_law_295 (by decide) ?_
    refine ml_goto (tgt := 300) F dL_law_296 (by decide) ?_
    refine ml_aload_n (q := 2) F dL_law_300 rfl rfl ?_
    refine ml_callSQ (hh := [(0, 12, 15, 13), (0, 12, 19, 15)]) (r8 := k9) (M8 := M1) (vl2 := fun r _ => some (.int r)) (av := [ml_rf g 0, .int (lw_ic (xs (i0 + 1))), .int (xs (i0 + 2)), .int 1, ml_rf g 181]) (st := []) F (fL_addBoat_c ((lw_ic (xs (i0 + 1)))) ((xs (i0 + 2))) 1 M _ hst hW) wcL_addBoat mlL_149 wdL_addBoat (by omega) (by omega) (by omega) rfl stL_addBoat rfl (Nat.le_of_ble_eq_true rfl) dL_law_301 ?_
    refine ml_istore (ls2 := [(6, .int k9), (5, .int i), (4, ml_rf g 182), (3, ml_rf g 181), (2, ml_rf g 11), (1, ml_rf g 0), (0, .ref b)]) F dL_law_304 (by decide) rfl ?_
    refine ml_aload_n (q := 4) F dL_law_306 rfl rfl ?_
    refine ml_aload_n (q := 6) F dL_law_307 rfl rfl ?_
    refine ml_iload (q := 1) F dL_law_308 rfl ?_
    refine ml_iconst (v := 1) F dL_law_310 (by decide) ?_
    refine ml_iadd F dL_law_311 ?_
    refine ml_scld (j := i0 + 1) (x := xs (i0 + 1)) F S hi.2.1.1 hi.2.1.2.1 hi.2.1.2.2 rfl dL_law_312 ?_
    refine ml_i2c F dL_law_313 ?_
    refine ml_aload_n (q := 6) F dL_law_314 rfl rfl ?_
    refine ml_iload (q := 1) F dL_law_315 rfl ?_
    refine ml_iconst (v := 2) F dL_law_317 (by decide) ?_
    refine ml_iadd F dL_law_318 ?_
    refine ml_scld (j := i0 + 2) (x := xs (i0 + 2)) F S hi.2.2.1.1 hi.2.2.1.2.1 hi.2.2.1.2.2 rfl dL_law_319 ?_
    refine ml_aload_n (q := 6) F dL_law_320 rfl rfl ?_
    refine ml_iload (q := 1) F dL_law_321 rfl ?_
    refine ml_iconst (v := 3) F dL_law_323 (by decide) ?_
    refine ml_iadd F dL_law_324 ?_
    refine ml_scld (j := i0 + 3) (x := xs (i0 + 3)) F S hi.2.2.2.1 hi.2.2.2.2.1 hi.2.2.2.2.2 rfl dL_law_325 ?_
    refine ml_if_eqF (tgt := 333) F dL_law_326 (by decide) hz0 ?_
    refine ml_iconst (v := 1) F dL_law_329 (by decide) ?_
    refine ml_goto (tgt := 334) F dL_law_330 (by decide) ?_
    refine ml_callVQ (r8 := b9) (M8 := M2) (vl2 := (fun r _ => some (.int r))) (av := [.int (lw_ic (xs (i0 + 1))), .int (xs (i0 + 2)), .int 1]) (st := []) (kb := 11) (ci := 11) (T := TX7) (N := 16) F (pc11 g) rfl (fX7_addBoat_c ((lw_ic (xs (i0 + 1)))) ((xs (i0 + 2))) 1 M1 _ hst hM) wcX7_addBoat mlL_154 wdX7_addBoat (by omega) (by omega) (by omega) rfl seX7_addBoat imX7_addBoat rfl (Nat.le_of_ble_eq_true rfl) dL_law_334 ?_
    refine ml_istore (ls2 := [(7, .int b9), (6, .int k9), (5, .int i), (4, ml_rf g 182), (3, ml_rf g 181), (2, ml_rf g 11), (1, ml_rf g 0), (0, .ref b)]) F dL_law_337 (by decide) rfl ?_
    refine ml_aload_n (q := 5) F dL_law_339 rfl rfl ?_
    refine ml_callVQ (r8 := k9) (M8 := M3) (vl2 := (fun r _ => some (.int r))) (av := []) (st := []) (kb := 11) (ci := 11) (T := TX7) (N := 16) F (pc11 g) rfl (fX7_thrown_c M2 _ hst hT) wcX7_thrown mlL_155 wdX7_thrown (by omega) (by omega) (by omega) rfl seX7_thrown imX7_thrown rfl (Nat.le_of_ble_eq_true rfl) dL_law_340 ?_
    refine ml_iload (q := 1) F dL_law_343 rfl ?_
    refine ml_icmp_eqT (tgt := 350) F dL_law_345 (by decide) rfl ?_
    refine ml_iload (q := 1) F dL_law_350 rfl ?_
    by_cases hk0 : k9 = 0
    · refine ml_if_neF (tgt := 367) F dL_law_352 (by decide) hk0 ?_
      refine ml_aload_n (q := 4) F dL_law_355 rfl rfl ?_
      refine ml_iconst (v := 0) F dL_law_356 (by decide) ?_
      refine ml_lald F dL_law_357 ?_
      refine ml_iload (q := 0) F dL_law_358 rfl ?_
      refine ml_i2l F dL_law_360 ?_
      refine ml_lcmp0 F dL_law_361 (by rw [hE hk0]) ?_
      refine ml_if_eqT (tgt := 367) F dL_law_362 (by decide) rfl ?_
      refine ml_goto (tgt := 2751) F dL_law_367 (by decide) ?_
      exact ml_wid (by omega) (by omega) (ml_sub [2, 3, 4, 5, 6, 7] rfl K)
    · refine ml_if_neT (tgt := 367) F dL_law_352 (by decide) hk0 ?_
      refine ml_goto (tgt := 2751) F dL_law_367 (by decide) ?_
      exact ml_wid (by omega) (by omega) (ml_sub [2, 3, 4, 5, 6, 7] rfl K)
set_option maxHeartbeats 4000000 in
set_option maxRecDepth 100000 in
theorem lwc_1 {E : ml_E} {g : ml_G} {lv mc ms k n b L i0 : Nat} {ret : Option FieldType} {tb : List ExceptionTableEntry} {xs : Nat → Int32} {i : Int32} {Q : State → Prop} {M M1 M2 M3 : ml_M} {k9 b9 : Int32} (hst : g.2.2.2.2.2.stackTraces = false) (F : ml_F E g cL_law RL 10 lv mc ms ret tb) (S : ml_S E g b L xs) (hi : lw_ix i i0 L) (hlv : 20 ≤ lv) (hk : k + 2 ≤ mc) (hn2 : n + 12 ≤ ms) (hW : fL_setValve ((xs (i0 + 1))) ((xs (i0 + 2))) M = some (.inl k9, M1)) (hM : fX7_setValve ((xs (i0 + 1))) ((xs (i0 + 2))) M1 = some (.inl b9, M2)) (hT : fX7_thrown M2 = some (.inl k9, M3)) (hE : k9 = 0 → M3 181 0 = b9) (K : ml_J E g 10 Q (k + 2) (n + 12) 2751 [(5, .int i), (4, ml_rf g 182), (3, ml_rf g 181), (2, ml_rf g 11), (1, ml_rf g 0), (0, .ref b)] [] M3) : ml_J E g 10 Q k n 370 [(5, .int i), (4, ml_rf g 182), (3, ml_rf g 181), (2, ml_rf g 11), (1, ml_rf g 0), (0, .ref b)] [] M := by
  refine ml_aload_n (q := 4) F dL_law_370 rfl rfl ?_
  refine ml_aload_n (q := 5) F dL_law_371 rfl rfl ?_
  refine ml_iload (q := 0) F dL_law_372 rfl ?_
  refine ml_iconst (v := 1) F dL_law_374 (by decide) ?_
  refine ml_iadd F dL_law_375 ?_
  refine ml_scld (j := i0 + 1) (x := xs (i0 + 1)) F S hi.2.1.1 hi.2.1.2.1 hi.2.1.2.2 rfl dL_law_376 ?_
  refine ml_aload_n (q := 5) F dL_law_377 rfl rfl ?_
  refine ml_iload (q := 0) F dL_law_378 rfl ?_
  refine ml_iconst (v := 2) F dL_law_380 (by decide) ?_
  refine ml_iadd F dL_law_381 ?_
  refine ml_scld (j := i0 + 2) (x := xs (i0 + 2)) F S hi.2.2.1.1 hi.2.2.1.2.1 hi.2.2.1.2.2 rfl dL_law_382 ?_
  refine ml_aload_n (q := 2) F dL_law_383 rfl rfl ?_
  refine ml_callSQ (hh := [(0, 10, 13, 21), (0, 10, 17, 13)]) (r8 := k9) (M8 := M1) (vl2 := fun r _ => some (.int r)) (av := [ml_rf g 0, .int (xs (i0 + 1)), .int (xs (i0 + 2)), ml_rf g 181]) (st := []) F (fL_setValve_c ((xs (i0 + 1))) ((xs (i0 + 2))) M _ hst hW) wcL_setValve mlL_158 wdL_setValve (by omega) (by omega) (by omega) rfl stL_setValve rfl (Nat.le_of_ble_eq_true rfl) dL_law_384 ?_
  refine ml_istore (ls2 := [(6, .int k9), (5, .int i), (4, ml_rf g 182), (3, ml_rf g 181), (2, ml_rf g 11), (1, ml_rf g 0), (0, .ref b)]) F dL_law_387 (by decide) rfl ?_
  refine ml_aload_n (q := 4) F dL_law_389 rfl rfl ?_
  refine ml_aload_n (q := 6) F dL_law_390 rfl rfl ?_
  refine ml_iload (q := 1) F dL_law_391 rfl ?_
  refine ml_iconst (v := 1) F dL_law_393 (by decide) ?_
  refine ml_iadd F dL_law_394 ?_
  refine ml_scld (j := i0 + 1) (x := xs (i0 + 1)) F S hi.2.1.1 hi.2.1.2.1 hi.2.1.2.2 rfl dL_law_395 ?_
  refine ml_aload_n (q := 6) F dL_law_396 rfl rfl ?_
  refine ml_iload (q := 1) F dL_law_397 rfl ?_
  refine ml_iconst (v := 2) F dL_law_399 (by decide) ?_
  refine ml_iadd F dL_law_400 ?_
  refine ml_scld (j := i0 + 2) (x := xs (i0 + 2)) F S hi.2.2.1.1 hi.2.2.1.2.1 hi.2.2.1.2.2 rfl dL_law_401 ?_
  refine ml_callVQ (r8 := b9) (M8 := M2) (vl2 := (fun r _ => some (.int r))) (av := [.int (xs (i0 + 1)), .int (xs (i0 + 2))]) (st := []) (kb := 11) (ci := 11) (T := TX7) (N := 16) F (pc11 g) rfl (fX7_setValve_c ((xs (i0 + 1))) ((xs (i0 + 2))) M1 _ hst hM) wcX7_setValve mlL_161 wdX7_setValve (by omega) (by omega) (by omega) rfl seX7_setValve imX7_setValve rfl (Nat.le_of_ble_eq_true rfl) dL_law_402 ?_
  refine ml_istore (ls2 := [(7, .int b9), (6, .int k9), (5, .int i), (4, ml_rf g 182), (3, ml_rf g 181), (2, ml_rf g 11), (1, ml_rf g 0), (0, .ref b)]) F dL_law_405 (by decide) rfl ?_
  refine ml_aload_n (q := 5) F dL_law_407 rfl rfl ?_
  refine ml_callVQ (r8 := k9) (M8 := M3) (vl2 := (fun r _ => some (.int r))) (av := []) (st := []) (kb := 11) (ci := 11) (T := TX7) (N := 16) F (pc11 g) rfl (fX7_thrown_c M2 _ hst hT) wcX7_thrown mlL_155 wdX7_thrown (by omega) (by omega) (by omega) rfl seX7_thrown imX7_thrown rfl (Nat.le_of_ble_eq_true rfl) dL_law_408 ?_
  refine ml_iload (q := 1) F dL_law_411 rfl ?_
  refine ml_icmp_eqT (tgt := 418) F dL_law_413 (by decide) rfl ?_
  refine ml_iload (q := 1) F dL_law_418 rfl ?_
  by_cases hk0 : k9 = 0
  · refine ml_if_neF (tgt := 435) F dL_law_420 (by decide) hk0 ?_
    refine ml_aload_n (q := 4) F dL_law_423 rfl rfl ?_
    refine ml_iconst (v := 0) F dL_law_424 (by decide) ?_
    refine ml_lald F dL_law_425 ?_
    refine ml_iload (q := 0) F dL_law_426 rfl ?_
    refine ml_i2l F dL_law_428 ?_
    refine ml_lcmp0 F dL_law_429 (by rw [hE hk0]) ?_
    refine ml_if_eqT (tgt := 435) F dL_law_430 (by decide) rfl ?_
    refine ml_goto (tgt := 2751) F dL_law_435 (by decide) ?_
    exact ml_wid (by omega) (by omega) (ml_sub [2, 3, 4, 5, 6, 7] rfl K)
  · refine ml_if_neT (tgt := 435) F dL_law_420 (by decide) hk0 ?_
    refine ml_goto (tgt := 2751) F dL_law_435 (by decide) ?_
    exact ml_wid (by omega) (by omega) (ml_sub [2, 3, 4, 5, 6, 7] rfl K)
set_option maxHeartbeats 4000000 in
set_option maxRecDepth 100000 in
theorem lwc_2 {E : ml_E} {g : ml_G} {lv mc ms k n b L i0 : Nat} {ret : Option FieldType} {tb : List ExceptionTableEntry} {xs : Nat → Int32} {i : Int32} {Q : State → Prop} {M M1 M2 M3 : ml_M} {k9 b9 : Int32} (hst : g.2.2.2.2.2.stackTraces = false) (F : ml_F E g cL_law RL 10 lv mc ms ret tb) (S : ml_S E g b L xs) (hi : lw_ix i i0 L) (hlv : 20 ≤ lv) (hk : k + 2 ≤ mc) (hn2 : n + 12 ≤ ms) (hW : fL_openGate ((xs (i0 + 1))) M = some (.inl k9, M1)) (hM : fX7_openGate ((xs (i0 + 1))) M1 = some (.inl b9, M2)) (hT : fX7_thrown M2 = some (.inl k9, M3)) (hE : k9 = 0 → M3 181 0 = b9) (K : ml_J E g 10 Q (k + 2) (n + 12) 2751 [(5, .int i), (4, ml_rf g 182), (3, ml_rf g 181), (2, ml_rf g 11), (1, ml_rf g 0), (0, .ref b)] [] M3) : ml_J E g 10 Q k n 438 [(5, .int i), (4, ml_rf g 182), (3, ml_rf g 181), (2, ml_rf g 11), (1, ml_rf g 0), (0, .ref b)] [] M := by
  refine ml_aload_n (q := 4) F dL_law_438 rfl rfl ?_
  refine ml_aload_n (q := 5) F dL_law_439 rfl rfl ?_
  refine ml_iload (q := 0) F dL_law_440 rfl ?_
  refine ml_iconst (v := 1) F dL_law_442 (by decide) ?_
  refine ml_iadd F dL_law_443 ?_
  refine ml_scld (j := i0 + 1) (x := xs (i0 + 1)) F S hi.2.1.1 hi.2.1.2.1 hi.2.1.2.2 rfl dL_law_444 ?_
  refine ml_aload_n (q := 2) F dL_law_445 rfl rfl ?_
  refine ml_callSQ (hh := [(0, 9, 12, 21), (0, 9, 15, 15), (0, 9, 18, 27)]) (r8 := k9) (M8 := M1) (vl2 := fun r _ => some (.int r)) (av := [ml_rf g 0, .int (xs (i0 + 1)), ml_rf g 181]) (st := []) F (fL_openGate_c ((xs (i0 + 1))) M _ hst hW) wcL_openGate mlL_162 wdL_openGate (by omega) (by omega) (by omega) rfl stL_openGate rfl (Nat.le_of_ble_eq_true rfl) dL_law_446 ?_
  refine ml_istore (ls2 := [(6, .int k9), (5, .int i), (4, ml_rf g 182), (3, ml_rf g 181), (2, ml_rf g 11), (1, ml_rf g 0), (0, .ref b)]) F dL_law_449 (by decide) rfl ?_
  refine ml_aload_n (q := 4) F dL_law_451 rfl rfl ?_
  refine ml_aload_n (q := 6) F dL_law_452 rfl rfl ?_
  refine ml_iload (q := 1) F dL_law_453 rfl ?_
  refine ml_iconst (v := 1) F dL_law_455 (by decide) ?_
  refine ml_iadd F dL_law_456 ?_
  refine ml_scld (j := i0 + 1) (x := xs (i0 + 1)) F S hi.2.1.1 hi.2.1.2.1 hi.2.1.2.2 rfl dL_law_457 ?_
  refine ml_callVQ (r8 := b9) (M8 := M2) (vl2 := (fun r _ => some (.int r))) (av := [.int (xs (i0 + 1))]) (st := []) (kb := 11) (ci := 11) (T := TX7) (N := 16) F (pc11 g) rfl (fX7_openGate_c ((xs (i0 + 1))) M1 _ hst hM) wcX7_openGate mlL_165 wdX7_openGate (by omega) (by omega) (by omega) rfl seX7_openGate imX7_openGate rfl (Nat.le_of_ble_eq_true rfl) dL_law_458 ?_
  refine ml_istore (ls2 := [(7, .int b9), (6, .int k9), (5, .int i), (4, ml_rf g 182), (3, ml_rf g 181), (2, ml_rf g 11), (1, ml_rf g 0), (0, .ref b)]) F dL_law_461 (by decide) rfl ?_
  refine ml_aload_n (q := 5) F dL_law_463 rfl rfl ?_
  refine ml_callVQ (r8 := k9) (M8 := M3) (vl2 := (fun r _ => some (.int r))) (av := []) (st := []) (kb := 11) (ci := 11) (T := TX7) (N := 16) F (pc11 g) rfl (fX7_thrown_c M2 _ hst hT) wcX7_thrown mlL_155 wdX7_thrown (by omega) (by omega) (by omega) rfl seX7_thrown imX7_thrown rfl (Nat.le_of_ble_eq_true rfl) dL_law_464 ?_
  refine ml_iload (q := 1) F dL_law_467 rfl ?_
  refine ml_icmp_eqT (tgt := 474) F dL_law_469 (by decide) rfl ?_
  refine ml_iload (q := 1) F dL_law_474 rfl ?_
  by_cases hk0 : k9 = 0
  · refine ml_if_neF (tgt := 491) F dL_law_476 (by decide) hk0 ?_
    refine ml_aload_n (q := 4) F dL_law_479 rfl rfl ?_
    refine ml_iconst (v := 0) F dL_law_480 (by decide) ?_
    refine ml_lald F dL_law_481 ?_
    refine ml_iload (q := 0) F dL_law_482 rfl ?_
    refine ml_i2l F dL_law_484 ?_
    refine ml_lcmp0 F dL_law_485 (by rw [hE hk0]) ?_
    refine ml_if_eqT (tgt := 491) F dL_law_486 (by decide) rfl ?_
    refine ml_goto (tgt := 2751) F dL_law_491 (by decide) ?_
    exact ml_wid (by omega) (by omega) (ml_sub [2, 3, 4, 5, 6, 7] rfl K)
  · refine ml_if_neT (tgt := 491) F dL_law_476 (by decide) hk0 ?_
    refine ml_goto (tgt := 2751) F dL_law_491 (by decide) ?_
    exact ml_wid (by omega) (by omega) (ml_sub [2, 3, 4, 5, 6, 7] rfl K)
set_option maxHeartbeats 4000000 in
set_option maxRecDepth 100000 in
theorem lwc_3 {E : ml_E} {g : ml_G} {lv mc ms k n b L i0 : Nat} {ret : Option FieldType} {tb : List ExceptionTableEntry} {xs : Nat → Int32} {i : Int32} {Q : State → Prop} {M M1 M2 M3 : ml_M} {k9 b9 : Int32} (hst : g.2.2.2.2.2.stackTraces = false) (F : ml_F E g cL_law RL 10 lv mc ms ret tb) (S : ml_S E g b L xs) (hi : lw_ix i i0 L) (hlv : 20 ≤ lv) (hk : k + 2 ≤ mc) (hn2 : n + 12 ≤ ms) (hW : fL_shutGate ((xs (i0 + 1))) M = some (.inl k9, M1)) (hM : fX7_shutGate ((xs (i0 + 1))) M1 = some (.inl b9, M2)) (hT : fX7_thrown M2 = some (.inl k9, M3)) (hE : k9 = 0 → M3 181 0 = b9) (K : ml_J E g 10 Q (k + 2) (n + 12) 2751 [(5, .int i), (4, ml_rf g 182), (3, ml_rf g 181), (2, ml_rf g 11), (1, ml_rf g 0), (0, .ref b)] [] M3) : ml_J E g 10 Q k n 494 [(5, .int i), (4, ml_rf g 182), (3, ml_rf g 181), (2, ml_rf g 11), (1, ml_rf g 0), (0, .ref b)] [] M := by
  refine ml_aload_n (q := 4) F dL_law_494 rfl rfl ?_
  refine ml_aload_n (q := 5) F dL_law_495 rfl rfl ?_
  refine ml_iload (q := 0) F dL_law_496 rfl ?_
  refine ml_iconst (v := 1) F dL_law_498 (by decide) ?_
  refine ml_iadd F dL_law_499 ?_
  refine ml_scld (j := i0 + 1) (x := xs (i0 + 1)) F S hi.2.1.1 hi.2.1.2.1 hi.2.1.2.2 rfl dL_law_500 ?_
  refine ml_aload_n (q := 2) F dL_law_501 rfl rfl ?_
  refine ml_callSQ (hh := [(0, 9, 12, 21), (0, 9, 15, 15)]) (r8 := k9) (M8 := M1) (vl2 := fun r _ => some (.int r)) (av := [ml_rf g 0, .int (xs (i0 + 1)), ml_rf g 181]) (st := []) F (fL_shutGate_c ((xs (i0 + 1))) M _ hst hW) wcL_shutGate mlL_166 wdL_shutGate (by omega) (by omega) (by omega) rfl stL_shutGate rfl (Nat.le_of_ble_eq_true rfl) dL_law_502 ?_
  refine ml_istore (ls2 := [(6, .int k9), (5, .int i), (4, ml_rf g 182), (3, ml_rf g 181), (2, ml_rf g 11), (1, ml_rf g 0), (0, .ref b)]) F dL_law_505 (by decide) rfl ?_
  refine ml_aload_n (q := 4) F dL_law_507 rfl rfl ?_
  refine ml_aload_n (q := 6) F dL_law_508 rfl rfl ?_
  refine ml_iload (q := 1) F dL_law_509 rfl ?_
  refine ml_iconst (v := 1) F dL_law_511 (by decide) ?_
  refine ml_iadd F dL_law_512 ?_
  refine ml_scld (j := i0 + 1) (x := xs (i0 + 1)) F S hi.2.1.1 hi.2.1.2.1 hi.2.1.2.2 rfl dL_law_513 ?_
  refine ml_callVQ (r8 := b9) (M8 := M2) (vl2 := (fun r _ => some (.int r))) (av := [.int (xs (i0 + 1))]) (st := []) (kb := 11) (ci := 11) (T := TX7) (N := 16) F (pc11 g) rfl (fX7_shutGate_c ((xs (i0 + 1))) M1 _ hst hM) wcX7_shutGate mlL_168 wdX7_shutGate (by omega) (by omega) (by omega) rfl seX7_shutGate imX7_shutGate rfl (Nat.le_of_ble_eq_true rfl) dL_law_514 ?_
  refine ml_istore (ls2 := [(7, .int b9), (6, .int k9), (5, .int i), (4, ml_rf g 182), (3, ml_rf g 181), (2, ml_rf g 11), (1, ml_rf g 0), (0, .ref b)]) F dL_law_517 (by decide) rfl ?_
  refine ml_aload_n (q := 5) F dL_law_519 rfl rfl ?_
  refine ml_callVQ (r8 := k9) (M8 := M3) (vl2 := (fun r _ => some (.int r))) (av := []) (st := []) (kb := 11) (ci := 11) (T := TX7) (N := 16) F (pc11 g) rfl (fX7_thrown_c M2 _ hst hT) wcX7_thrown mlL_155 wdX7_thrown (by omega) (by omega) (by omega) rfl seX7_thrown imX7_thrown rfl (Nat.le_of_ble_eq_true rfl) dL_law_520 ?_
  refine ml_iload (q := 1) F dL_law_523 rfl ?_
  refine ml_icmp_eqT (tgt := 530) F dL_law_525 (by decide) rfl ?_
  refine ml_iload (q := 1) F dL_law_530 rfl ?_
  by_cases hk0 : k9 = 0
  · refine ml_if_neF (tgt := 547) F dL_law_532 (by decide) hk0 ?_
    refine ml_aload_n (q := 4) F dL_law_535 rfl rfl ?_
    refine ml_iconst (v := 0) F dL_law_536 (by decide) ?_
    refine ml_lald F dL_law_537 ?_
    refine ml_iload (q := 0) F dL_law_538 rfl ?_
    refine ml_i2l F dL_law_540 ?_
    refine ml_lcmp0 F dL_law_541 (by rw [hE hk0]) ?_
    refine ml_if_eqT (tgt := 547) F dL_law_542 (by decide) rfl ?_
    refine ml_goto (tgt := 2751) F dL_law_547 (by decide) ?_
    exact ml_wid (by omega) (by omega) (ml_sub [2, 3, 4, 5, 6, 7] rfl K)
  · refine ml_if_neT (tgt := 547) F dL_law_532 (by decide) hk0 ?_
    refine ml_goto (tgt := 2751) F dL_law_547 (by decide) ?_
    exact ml_wid (by omega) (by omega) (ml_sub [2, 3, 4, 5, 6, 7] rfl K)
set_option maxHeartbeats 4000000 in
set_option maxRecDepth 100000 in
theorem lwc_4 {E : ml_E} {g : ml_G} {lv mc ms k n b L i0 : Nat} {ret : Option FieldType} {tb : List ExceptionTableEntry} {xs : Nat → Int32} {i : Int32} {Q : State → Prop} {M M1 M2 M3 : ml_M} {k9 b9 : Int32} (hst : g.2.2.2.2.2.stackTraces = false) (F : ml_F E g cL_law RL 10 lv mc ms ret tb) (S : ml_S E g b L xs) (hi : lw_ix i i0 L) (hlv : 20 ≤ lv) (hk : k + 2 ≤ mc) (hn2 : n + 12 ≤ ms) (hW : fL_setRain ((xs (i0 + 1))) M = some (.inl k9, M1)) (hM : fX7_setRain ((xs (i0 + 1))) M1 = some (.inl b9, M2)) (hT : fX7_thrown M2 = some (.inl k9, M3)) (hE : k9 = 0 → M3 181 0 = b9) (K : ml_J E g 10 Q (k + 2) (n + 12) 2751 [(5, .int i), (4, ml_rf g 182), (3, ml_rf g 181), (2, ml_rf g 11), (1, ml_rf g 0), (0, .ref b)] [] M3) : ml_J E g 10 Q k n 550 [(5, .int i), (4, ml_rf g 182), (3, ml_rf g 181), (2, ml_rf g 11), (1, ml_rf g 0), (0, .ref b)] [] M := by
  refine ml_aload_n (q := 4) F dL_law_550 rfl rfl ?_
  refine ml_aload_n (q := 5) F dL_law_551 rfl rfl ?_
  refine ml_iload (q := 0) F dL_law_552 rfl ?_
  refine ml_iconst (v := 1) F dL_law_554 (by decide) ?_
  refine ml_iadd F dL_law_555 ?_
  refine ml_scld (j := i0 + 1) (x := xs (i0 + 1)) F S hi.2.1.1 hi.2.1.2.1 hi.2.1.2.2 rfl dL_law_556 ?_
  refine ml_aload_n (q := 2) F dL_law_557 rfl rfl ?_
  refine ml_callSQ (hh := [(0, 9, 12, 13)]) (r8 := k9) (M8 := M1) (vl2 := fun r _ => some (.int r)) (av := [ml_rf g 0, .int (xs (i0 + 1)), ml_rf g 181]) (st := []) F (fL_setRain_c ((xs (i0 + 1))) M _ hst hW) wcL_setRain mlL_169 wdL_setRain (by omega) (by omega) (by omega) rfl stL_setRain rfl (Nat.le_of_ble_eq_true rfl) dL_law_558 ?_
  refine ml_istore (ls2 := [(6, .int k9), (5, .int i), (4, ml_rf g 182), (3, ml_rf g 181), (2, ml_rf g 11), (1, ml_rf g 0), (0, .ref b)]) F dL_law_561 (by decide) rfl ?_
  refine ml_aload_n (q := 4) F dL_law_563 rfl rfl ?_
  refine ml_aload_n (q := 6) F dL_law_564 rfl rfl ?_
  refine ml_iload (q := 1) F dL_law_565 rfl ?_
  refine ml_iconst (v := 1) F dL_law_567 (by decide) ?_
  refine ml_iadd F dL_law_568 ?_
  refine ml_scld (j := i0 + 1) (x := xs (i0 + 1)) F S hi.2.1.1 hi.2.1.2.1 hi.2.1.2.2 rfl dL_law_569 ?_
  refine ml_callVQ (r8 := b9) (M8 := M2) (vl2 := (fun r _ => some (.int r))) (av := [.int (xs (i0 + 1))]) (st := []) (kb := 11) (ci := 11) (T := TX7) (N := 16) F (pc11 g) rfl (fX7_setRain_c ((xs (i0 + 1))) M1 _ hst hM) wcX7_setRain mlL_171 wdX7_setRain (by omega) (by omega) (by omega) rfl seX7_setRain imX7_setRain rfl (Nat.le_of_ble_eq_true rfl) dL_law_570 ?_
  refine ml_istore (ls2 := [(7, .int b9), (6, .int k9), (5, .int i), (4, ml_rf g 182), (3, ml_rf g 181), (2, ml_rf g 11), (1, ml_rf g 0), (0, .ref b)]) F dL_law_573 (by decide) rfl ?_
  refine ml_aload_n (q := 5) F dL_law_575 rfl rfl ?_
  refine ml_callVQ (r8 := k9) (M8 := M3) (vl2 := (fun r _ => some (.int r))) (av := []) (st := []) (kb := 11) (ci := 11) (T := TX7) (N := 16) F (pc11 g) rfl (fX7_thrown_c M2 _ hst hT) wcX7_thrown mlL_155 wdX7_thrown (by omega) (by omega) (by omega) rfl seX7_thrown imX7_thrown rfl (Nat.le_of_ble_eq_true rfl) dL_law_576 ?_
  refine ml_iload (q := 1) F dL_law_579 rfl ?_
  refine ml_icmp_eqT (tgt := 586) F dL_law_581 (by decide) rfl ?_
  refine ml_iload (q := 1) F dL_law_586 rfl ?_
  by_cases hk0 : k9 = 0
  · refine ml_if_neF (tgt := 603) F dL_law_588 (by decide) hk0 ?_
    refine ml_aload_n (q := 4) F dL_law_591 rfl rfl ?_
    refine ml_iconst (v := 0) F dL_law_592 (by decide) ?_
    refine ml_lald F dL_law_593 ?_
    refine ml_iload (q := 0) F dL_law_594 rfl ?_
    refine ml_i2l F dL_law_596 ?_
    refine ml_lcmp0 F dL_law_597 (by rw [hE hk0]) ?_
    refine ml_if_eqT (tgt := 603) F dL_law_598 (by decide) rfl ?_
    refine ml_goto (tgt := 2751) F dL_law_603 (by decide) ?_
    exact ml_wid (by omega) (by omega) (ml_sub [2, 3, 4, 5, 6, 7] rfl K)
  · refine ml_if_neT (tgt := 603) F dL_law_588 (by decide) hk0 ?_
    refine ml_goto (tgt := 2751) F dL_law_603 (by decide) ?_
    exact ml_wid (by omega) (by omega) (ml_sub [2, 3, 4, 5, 6, 7] rfl K)
set_option maxHeartbeats 4000000 in
set_option maxRecDepth 100000 in
theorem lwc_5 {E : ml_E} {g : ml_G} {lv mc ms k n b L i0 : Nat} {ret : Option FieldType} {tb : List ExceptionTableEntry} {xs : Nat → Int32} {i : Int32} {Q : State → Prop} {M M1 M2 M3 : ml_M} {k9 b9 : Int32} (hst : g.2.2.2.2.2.stackTraces = false) (F : ml_F E g cL_law RL 10 lv mc ms ret tb) (S : ml_S E g b L xs) (hi : lw_ix i i0 L) (hlv : 20 ≤ lv) (hk : k + 2 ≤ mc) (hn2 : n + 12 ≤ ms) (hW : fL_setDrain ((xs (i0 + 1))) M = some (.inl k9, M1)) (hM : fX7_setDrain ((xs (i0 + 1))) M1 = some (.inl b9, M2)) (hT : fX7_thrown M2 = some (.inl k9, M3)) (hE : k9 = 0 → M3 181 0 = b9) (K : ml_J E g 10 Q (k + 2) (n + 12) 2751 [(5, .int i), (4, ml_rf g 182), (3, ml_rf g 181), (2, ml_rf g 11), (1, ml_rf g 0), (0, .ref b)] [] M3) : ml_J E g 10 Q k n 606 [(5, .int i), (4, ml_rf g 182), (3, ml_rf g 181), (2, ml_rf g 11), (1, ml_rf g 0), (0, .ref b)] [] M := by
  refine ml_aload_n (q := 4) F dL_law_606 rfl rfl ?_
  refine ml_aload_n (q := 5) F dL_law_607 rfl rfl ?_
  refine ml_iload (q := 0) F dL_law_608 rfl ?_
  refine ml_iconst (v := 1) F dL_law_610 (by decide) ?_
  refine ml_iadd F dL_law_611 ?_
  refine ml_scld (j := i0 + 1) (x := xs (i0 + 1)) F S hi.2.1.1 hi.2.1.2.1 hi.2.1.2.2 rfl dL_law_612 ?_
  refine ml_aload_n (q := 2) F dL_law_613 rfl rfl ?_
  refine ml_callSQ (hh := [(0, 9, 12, 13)]) (r8 := k9) (M8 := M1) (vl2 := fun r _ => some (.int r)) (av := [ml_rf g 0, .int (xs (i0 + 1)), ml_rf g 181]) (st := []) F (fL_setDrain_c ((xs (i0 + 1))) M _ hst hW) wcL_setDrain mlL_172 wdL_setDrain (by omega) (by omega) (by omega) rfl stL_setDrain rfl (Nat.le_of_ble_eq_true rfl) dL_law_614 ?_
  refine ml_istore (ls2 := [(6, .int k9), (5, .int i), (4, ml_rf g 182), (3, ml_rf g 181), (2, ml_rf g 11), (1, ml_rf g 0), (0, .ref b)]) F dL_law_617 (by decide) rfl ?_
  refine ml_aload_n (q := 4) F dL_law_619 rfl rfl ?_
  refine ml_aload_n (q := 6) F dL_law_620 rfl rfl ?_
  refine ml_iload (q := 1) F dL_law_621 rfl ?_
  refine ml_iconst (v := 1) F dL_law_623 (by decide) ?_
  refine ml_iadd F dL_law_624 ?_
  refine ml_scld (j := i0 + 1) (x := xs (i0 + 1)) F S hi.2.1.1 hi.2.1.2.1 hi.2.1.2.2 rfl dL_law_625 ?_
  refine ml_callVQ (r8 := b9) (M8 := M2) (vl2 := (fun r _ => some (.int r))) (av := [.int (xs (i0 + 1))]) (st := []) (kb := 11) (ci := 11) (T := TX7) (N := 16) F (pc11 g) rfl (fX7_setDrain_c ((xs (i0 + 1))) M1 _ hst hM) wcX7_setDrain mlL_174 wdX7_setDrain (by omega) (by omega) (by omega) rfl seX7_setDrain imX7_setDrain rfl (Nat.le_of_ble_eq_true rfl) dL_law_626 ?_
  refine ml_istore (ls2 := [(7, .int b9), (6, .int k9), (5, .int i), (4, ml_rf g 182), (3, ml_rf g 181), (2, ml_rf g 11), (1, ml_rf g 0), (0, .ref b)]) F dL_law_629 (by decide) rfl ?_
  refine ml_aload_n (q := 5) F dL_law_631 rfl rfl ?_
  refine ml_callVQ (r8 := k9) (M8 := M3) (vl2 := (fun r _ => some (.int r))) (av := []) (st := []) (kb := 11) (ci := 11) (T := TX7) (N := 16) F (pc11 g) rfl (fX7_thrown_c M2 _ hst hT) wcX7_thrown mlL_155 wdX7_thrown (by omega) (by omega) (by omega) rfl seX7_thrown imX7_thrown rfl (Nat.le_of_ble_eq_true rfl) dL_law_632 ?_
  refine ml_iload (q := 1) F dL_law_635 rfl ?_
  refine ml_icmp_eqT (tgt := 642) F dL_law_637 (by decide) rfl ?_
  refine ml_iload (q := 1) F dL_law_642 rfl ?_
  by_cases hk0 : k9 = 0
  · refine ml_if_neF (tgt := 659) F dL_law_644 (by decide) hk0 ?_
    refine ml_aload_n (q := 4) F dL_law_647 rfl rfl ?_
    refine ml_iconst (v := 0) F dL_law_648 (by decide) ?_
    refine ml_lald F dL_law_649 ?_
    refine ml_iload (q := 0) F dL_law_650 rfl ?_
    refine ml_i2l F dL_law_652 ?_
    refine ml_lcmp0 F dL_law_653 (by rw [hE hk0]) ?_
    refine ml_if_eqT (tgt := 659) F dL_law_654 (by decide) rfl ?_
    refine ml_goto (tgt := 2751) F dL_law_659 (by decide) ?_
    exact ml_wid (by omega) (by omega) (ml_sub [2, 3, 4, 5, 6, 7] rfl K)
  · refine ml_if_neT (tgt := 659) F dL_law_644 (by decide) hk0 ?_
    refine ml_goto (tgt := 2751) F dL_law_659 (by decide) ?_
    exact ml_wid (by omega) (by omega) (ml_sub [2, 3, 4, 5, 6, 7] rfl K)
set_option maxHeartbeats 4000000 in
set_option maxRecDepth 100000 in
theorem lwc_6 {E : ml_E} {g : ml_G} {lv mc ms k n b L i0 : Nat} {ret : Option FieldType} {tb : List ExceptionTableEntry} {xs : Nat → Int32} {i : Int32} {Q : State → Prop} {M M1 M2 M3 : ml_M} {k9 b9 : Int32} (hst : g.2.2.2.2.2.stackTraces = false) (F : ml_F E g cL_law RL 10 lv mc ms ret tb) (S : ml_S E g b L xs) (hi : lw_ix i i0 L) (hlv : 20 ≤ lv) (hk : k + 2 ≤ mc) (hn2 : n + 12 ≤ ms) (hW : fL_advance ((xs (i0 + 1))) M = some (.inl k9, M1)) (hM : fX7_advance ((xs (i0 + 1))) M1 = some (.inl b9, M2)) (hT : fX7_thrown M2 = some (.inl k9, M3)) (hE : k9 = 0 → M3 181 0 = b9) (K : ml_J E g 10 Q (k + 2) (n + 12) 2751 [(5, .int i), (4, ml_rf g 182), (3, ml_rf g 181), (2, ml_rf g 11), (1, ml_rf g 0), (0, .ref b)] [] M3) : ml_J E g 10 Q k n 662 [(5, .int i), (4, ml_rf g 182), (3, ml_rf g 181), (2, ml_rf g 11), (1, ml_rf g 0), (0, .ref b)] [] M := by
  refine ml_aload_n (q := 4) F dL_law_662 rfl rfl ?_
  refine ml_aload_n (q := 5) F dL_law_663 rfl rfl ?_
  refine ml_iload (q := 0) F dL_law_664 rfl ?_
  refine ml_iconst (v := 1) F dL_law_666 (by decide) ?_
  refine ml_iadd F dL_law_667 ?_
  refine ml_scld (j := i0 + 1) (x := xs (i0 + 1)) F S hi.2.1.1 hi.2.1.2.1 hi.2.1.2.2 rfl dL_law_668 ?_
  refine ml_aload_n (q := 2) F dL_law_669 rfl rfl ?_
  refine ml_callSQ (hh := [(0, 9, 12, 13)]) (r8 := k9) (M8 := M1) (vl2 := fun r _ => some (.int r)) (av := [ml_rf g 0, .int (xs (i0 + 1)), ml_rf g 181]) (st := []) F (fL_advance_c ((xs (i0 + 1))) M _ hst hW) wcL_advance mlL_175 wdL_advance (by omega) (by omega) (by omega) rfl stL_advance rfl (Nat.le_of_ble_eq_true rfl) dL_law_670 ?_
  refine ml_istore (ls2 := [(6, .int k9), (5, .int i), (4, ml_rf g 182), (3, ml_rf g 181), (2, ml_rf g 11), (1, ml_rf g 0), (0, .ref b)]) F dL_law_673 (by decide) rfl ?_
  refine ml_aload_n (q := 4) F dL_law_675 rfl rfl ?_
  refine ml_aload_n (q := 6) F dL_law_676 rfl rfl ?_
  refine ml_iload (q := 1) F dL_law_677 rfl ?_
  refine ml_iconst (v := 1) F dL_law_679 (by decide) ?_
  refine ml_iadd F dL_law_680 ?_
  refine ml_scld (j := i0 + 1) (x := xs (i0 + 1)) F S hi.2.1.1 hi.2.1.2.1 hi.2.1.2.2 rfl dL_law_681 ?_
  refine ml_callVQ (r8 := b9) (M8 := M2) (vl2 := (fun r _ => some (.int r))) (av := [.int (xs (i0 + 1))]) (st := []) (kb := 11) (ci := 11) (T := TX7) (N := 16) F (pc11 g) rfl (fX7_advance_c ((xs (i0 + 1))) M1 _ hst hM) wcX7_advance mlL_177 wdX7_advance (by omega) (by omega) (by omega) rfl seX7_advance imX7_advance rfl (Nat.le_of_ble_eq_true rfl) dL_law_682 ?_
  refine ml_istore (ls2 := [(7, .int b9), (6, .int k9), (5, .int i), (4, ml_rf g 182), (3, ml_rf g 181), (2, ml_rf g 11), (1, ml_rf g 0), (0, .ref b)]) F dL_law_685 (by decide) rfl ?_
  refine ml_aload_n (q := 5) F dL_law_687 rfl rfl ?_
  refine ml_callVQ (r8 := k9) (M8 := M3) (vl2 := (fun r _ => some (.int r))) (av := []) (st := []) (kb := 11) (ci := 11) (T := TX7) (N := 16) F (pc11 g) rfl (fX7_thrown_c M2 _ hst hT) wcX7_thrown mlL_155 wdX7_thrown (by omega) (by omega) (by omega) rfl seX7_thrown imX7_thrown rfl (Nat.le_of_ble_eq_true rfl) dL_law_688 ?_
  refine ml_iload (q := 1) F dL_law_691 rfl ?_
  refine ml_icmp_eqT (tgt := 698) F dL_law_693 (by decide) rfl ?_
  refine ml_iload (q := 1) F dL_law_698 rfl ?_
  by_cases hk0 : k9 = 0
  · refine ml_if_neF (tgt := 715) F dL_law_700 (by decide) hk0 ?_
    refine ml_aload_n (q := 4) F dL_law_703 rfl rfl ?_
    refine ml_iconst (v := 0) F dL_law_704 (by decide) ?_
    refine ml_lald F dL_law_705 ?_
    refine ml_iload (q := 0) F dL_law_706 rfl ?_
    refine ml_i2l F dL_law_708 ?_
    refine ml_lcmp0 F dL_law_709 (by rw [hE hk0]) ?_
    refine ml_if_eqT (tgt := 715) F dL_law_710 (by decide) rfl ?_
    refine ml_goto (tgt := 2751) F dL_law_715 (by decide) ?_
    exact ml_wid (by omega) (by omega) (ml_sub [2, 3, 4, 5, 6, 7] rfl K)
  · refine ml_if_neT (tgt := 715) F dL_law_700 (by decide) hk0 ?_
    refine ml_goto (tgt := 2751) F dL_law_715 (by decide) ?_
    exact ml_wid (by omega) (by omega) (ml_sub [2, 3, 4, 5, 6, 7] rfl K)
set_option maxHeartbeats 4000000 in
set_option maxRecDepth 100000 in
theorem lwc_7 {E : ml_E} {g : ml_G} {lv mc ms k n b L i0 : Nat} {ret : Option FieldType} {tb : List ExceptionTableEntry} {xs : Nat → Int32} {i : Int32} {Q : State → Prop} {M M1 M2 M3 : ml_M} {k9 b9 : Int32} (hst : g.2.2.2.2.2.stackTraces = false) (F : ml_F E g cL_law RL 10 lv mc ms ret tb) (S : ml_S E g b L xs) (hi : lw_ix i i0 L) (hlv : 20 ≤ lv) (hk : k + 2 ≤ mc) (hn2 : n + 12 ≤ ms) (hW : fL_area ((xs (i0 + 1))) M = some (.inl k9, M1)) (hM : fX7_area ((xs (i0 + 1))) M1 = some (.inl b9, M2)) (hT : fX7_thrown M2 = some (.inl k9, M3)) (hE : k9 = 0 → M3 181 0 = b9) (K : ml_J E g 10 Q (k + 2) (n + 12) 2751 [(5, .int i), (4, ml_rf g 182), (3, ml_rf g 181), (2, ml_rf g 11), (1, ml_rf g 0), (0, .ref b)] [] M3) : ml_J E g 10 Q k n 718 [(5, .int i), (4, ml_rf g 182), (3, ml_rf g 181), (2, ml_rf g 11), (1, ml_rf g 0), (0, .ref b)] [] M := by
  refine ml_aload_n (q := 4) F dL_law_718 rfl rfl ?_
  refine ml_aload_n (q := 5) F dL_law_719 rfl rfl ?_
  refine ml_iload (q := 0) F dL_law_720 rfl ?_
  refine ml_iconst (v := 1) F dL_law_722 (by decide) ?_
  refine ml_iadd F dL_law_723 ?_
  refine ml_scld (j := i0 + 1) (x := xs (i0 + 1)) F S hi.2.1.1 hi.2.1.2.1 hi.2.1.2.2 rfl dL_law_724 ?_
  refine ml_aload_n (q := 2) F dL_law_725 rfl rfl ?_
  refine ml_callSQ (hh := [(0, 9, 12, 21)]) (r8 := k9) (M8 := M1) (vl2 := fun r _ => some (.int r)) (av := [ml_rf g 0, .int (xs (i0 + 1)), ml_rf g 181]) (st := []) F (fL_area_c ((xs (i0 + 1))) M _ hst hW) wcL_area mlL_178 wdL_area (by omega) (by omega) (by omega) rfl stL_area rfl (Nat.le_of_ble_eq_true rfl) dL_law_726 ?_
  refine ml_istore (ls2 := [(6, .int k9), (5, .int i), (4, ml_rf g 182), (3, ml_rf g 181), (2, ml_rf g 11), (1, ml_rf g 0), (0, .ref b)]) F dL_law_729 (by decide) rfl ?_
  refine ml_aload_n (q := 4) F dL_law_731 rfl rfl ?_
  refine ml_aload_n (q := 6) F dL_law_732 rfl rfl ?_
  refine ml_iload (q := 1) F dL_law_733 rfl ?_
  refine ml_iconst (v := 1) F dL_law_735 (by decide) ?_
  refine ml_iadd F dL_law_736 ?_
  refine ml_scld (j := i0 + 1) (x := xs (i0 + 1)) F S hi.2.1.1 hi.2.1.2.1 hi.2.1.2.2 rfl dL_law_737 ?_
  refine ml_callVQ (r8 := b9) (M8 := M2) (vl2 := (fun r _ => some (.int r))) (av := [.int (xs (i0 + 1))]) (st := []) (kb := 11) (ci := 11) (T := TX7) (N := 16) F (pc11 g) rfl (fX7_area_c ((xs (i0 + 1))) M1 _ hst hM) wcX7_area mlL_180 wdX7_area (by omega) (by omega) (by omega) rfl seX7_area imX7_area rfl (Nat.le_of_ble_eq_true rfl) dL_law_738 ?_
  refine ml_istore (ls2 := [(7, .int b9), (6, .int k9), (5, .int i), (4, ml_rf g 182), (3, ml_rf g 181), (2, ml_rf g 11), (1, ml_rf g 0), (0, .ref b)]) F dL_law_741 (by decide) rfl ?_
  refine ml_aload_n (q := 5) F dL_law_743 rfl rfl ?_
  refine ml_callVQ (r8 := k9) (M8 := M3) (vl2 := (fun r _ => some (.int r))) (av := []) (st := []) (kb := 11) (ci := 11) (T := TX7) (N := 16) F (pc11 g) rfl (fX7_thrown_c M2 _ hst hT) wcX7_thrown mlL_155 wdX7_thrown (by omega) (by omega) (by omega) rfl seX7_thrown imX7_thrown rfl (Nat.le_of_ble_eq_true rfl) dL_law_744 ?_
  refine ml_iload (q := 1) F dL_law_747 rfl ?_
  refine ml_icmp_eqT (tgt := 754) F dL_law_749 (by decide) rfl ?_
  refine ml_iload (q := 1) F dL_law_754 rfl ?_
  by_cases hk0 : k9 = 0
  · refine ml_if_neF (tgt := 771) F dL_law_756 (by decide) hk0 ?_
    refine ml_aload_n (q := 4) F dL_law_759 rfl rfl ?_
    refine ml_iconst (v := 0) F dL_law_760 (by decide) ?_
    refine ml_lald F dL_law_761 ?_
    refine ml_iload (q := 0) F dL_law_762 rfl ?_
    refine ml_i2l F dL_law_764 ?_
    refine ml_lcmp0 F dL_law_765 (by rw [hE hk0]) ?_
    refine ml_if_eqT (tgt := 771) F dL_law_766 (by decide) rfl ?_
    refine ml_goto (tgt := 2751) F dL_law_771 (by decide) ?_
    exact ml_wid (by omega) (by omega) (ml_sub [2, 3, 4, 5, 6, 7] rfl K)
  · refine ml_if_neT (tgt := 771) F dL_law_756 (by decide) hk0 ?_
    refine ml_goto (tgt := 2751) F dL_law_771 (by decide) ?_
    exact ml_wid (by omega) (by omega) (ml_sub [2, 3, 4, 5, 6, 7] rfl K)
set_option maxHeartbeats 4000000 in
set_option maxRecDepth 100000 in
theorem lwc_8 {E : ml_E} {g : ml_G} {lv mc ms k n b L i0 : Nat} {ret : Option FieldType} {tb : List ExceptionTableEntry} {xs : Nat → Int32} {i : Int32} {Q : State → Prop} {M M1 M2 M3 : ml_M} {k9 b9 : Int32} (hst : g.2.2.2.2.2.stackTraces = false) (F : ml_F E g cL_law RL 10 lv mc ms ret tb) (S : ml_S E g b L xs) (hi : lw_ix i i0 L) (hlv : 20 ≤ lv) (hk : k + 2 ≤ mc) (hn2 : n + 12 ≤ ms) (hW : fL_volume ((xs (i0 + 1))) M = some (.inl k9, M1)) (hM : fX7_volume ((xs (i0 + 1))) M1 = some (.inl b9, M2)) (hT : fX7_thrown M2 = some (.inl k9, M3)) (hE : k9 = 0 → M3 181 0 = b9) (K : ml_J E g 10 Q (k + 2) (n + 12) 2751 [(5, .int i), (4, ml_rf g 182), (3, ml_rf g 181), (2, ml_rf g 11), (1, ml_rf g 0), (0, .ref b)] [] M3) : ml_J E g 10 Q k n 774 [(5, .int i), (4, ml_rf g 182), (3, ml_rf g 181), (2, ml_rf g 11), (1, ml_rf g 0), (0, .ref b)] [] M := by
  refine ml_aload_n (q := 4) F dL_law_774 rfl rfl ?_
  refine ml_aload_n (q := 5) F dL_law_775 rfl rfl ?_
  refine ml_iload (q := 0) F dL_law_776 rfl ?_
  refine ml_iconst (v := 1) F dL_law_778 (by decide) ?_
  refine ml_iadd F dL_law_779 ?_
  refine ml_scld (j := i0 + 1) (x := xs (i0 + 1)) F S hi.2.1.1 hi.2.1.2.1 hi.2.1.2.2 rfl dL_law_780 ?_
  refine ml_aload_n (q := 2) F dL_law_781 rfl rfl ?_
  refine ml_callSQ (hh := [(0, 9, 12, 21)]) (r8 := k9) (M8 := M1) (vl2 := fun r _ => some (.int r)) (av := [ml_rf g 0, .int (xs (i0 + 1)), ml_rf g 181]) (st := []) F (fL_volume_c ((xs (i0 + 1))) M _ hst hW) wcL_volume mlL_181 wdL_volume (by omega) (by omega) (by omega) rfl stL_volume rfl (Nat.le_of_ble_eq_true rfl) dL_law_782 ?_
  refine ml_istore (ls2 := [(6, .int k9), (5, .int i), (4, ml_rf g 182), (3, ml_rf g 181), (2, ml_rf g 11), (1, ml_rf g 0), (0, .ref b)]) F dL_law_785 (by decide) rfl ?_
  refine ml_aload_n (q := 4) F dL_law_787 rfl rfl ?_
  refine ml_aload_n (q := 6) F dL_law_788 rfl rfl ?_
  refine ml_iload (q := 1) F dL_law_789 rfl ?_
  refine ml_iconst (v := 1) F dL_law_791 (by decide) ?_
  refine ml_iadd F dL_law_792 ?_
  refine ml_scld (j := i0 + 1) (x := xs (i0 + 1)) F S hi.2.1.1 hi.2.1.2.1 hi.2.1.2.2 rfl dL_law_793 ?_
  refine ml_callVQ (r8 := b9) (M8 := M2) (vl2 := (fun r _ => some (.int r))) (av := [.int (xs (i0 + 1))]) (st := []) (kb := 11) (ci := 11) (T := TX7) (N := 16) F (pc11 g) rfl (fX7_volume_c ((xs (i0 + 1))) M1 _ hst hM) wcX7_volume mlL_183 wdX7_volume (by omega) (by omega) (by omega) rfl seX7_volume imX7_volume rfl (Nat.le_of_ble_eq_true rfl) dL_law_794 ?_
  refine ml_istore (ls2 := [(7, .int b9), (6, .int k9), (5, .int i), (4, ml_rf g 182), (3, ml_rf g 181), (2, ml_rf g 11), (1, ml_rf g 0), (0, .ref b)]) F dL_law_797 (by decide) rfl ?_
  refine ml_aload_n (q := 5) F dL_law_799 rfl rfl ?_
  refine ml_callVQ (r8 := k9) (M8 := M3) (vl2 := (fun r _ => some (.int r))) (av := []) (st := []) (kb := 11) (ci := 11) (T := TX7) (N := 16) F (pc11 g) rfl (fX7_thrown_c M2 _ hst hT) wcX7_thrown mlL_155 wdX7_thrown (by omega) (by omega) (by omega) rfl seX7_thrown imX7_thrown rfl (Nat.le_of_ble_eq_true rfl) dL_law_800 ?_
  refine ml_iload (q := 1) F dL_law_803 rfl ?_
  refine ml_icmp_eqT (tgt := 810) F dL_law_805 (by decide) rfl ?_
  refine ml_iload (q := 1) F dL_law_810 rfl ?_
  by_cases hk0 : k9 = 0
  · refine ml_if_neF (tgt := 827) F dL_law_812 (by decide) hk0 ?_
    refine ml_aload_n (q := 4) F dL_law_815 rfl rfl ?_
    refine ml_iconst (v := 0) F dL_law_816 (by decide) ?_
    refine ml_lald F dL_law_817 ?_
    refine ml_iload (q := 0) F dL_law_818 rfl ?_
    refine ml_i2l F dL_law_820 ?_
    refine ml_lcmp0 F dL_law_821 (by rw [hE hk0]) ?_
    refine ml_if_eqT (tgt := 827) F dL_law_822 (by decide) rfl ?_
    refine ml_goto (tgt := 2751) F dL_law_827 (by decide) ?_
    exact ml_wid (by omega) (by omega) (ml_sub [2, 3, 4, 5, 6, 7] rfl K)
  · refine ml_if_neT (tgt := 827) F dL_law_812 (by decide) hk0 ?_
    refine ml_goto (tgt := 2751) F dL_law_827 (by decide) ?_
    exact ml_wid (by omega) (by omega) (ml_sub [2, 3, 4, 5, 6, 7] rfl K)
set_option maxHeartbeats 4000000 in
set_option maxRecDepth 100000 in
theorem lwc_9 {E : ml_E} {g : ml_G} {lv mc ms k n b L i0 : Nat} {ret : Option FieldType} {tb : List ExceptionTableEntry} {xs : Nat → Int32} {i : Int32} {Q : State → Prop} {M M1 M2 M3 : ml_M} {k9 b9 : Int32} (hst : g.2.2.2.2.2.stackTraces = false) (F : ml_F E g cL_law RL 10 lv mc ms ret tb) (S : ml_S E g b L xs) (hi : lw_ix i i0 L) (hlv : 20 ≤ lv) (hk : k + 2 ≤ mc) (hn2 : n + 12 ≤ ms) (hW : fL_level ((xs (i0 + 1))) M = some (.inl k9, M1)) (hM : fX7_level ((xs (i0 + 1))) M1 = some (.inl b9, M2)) (hT : fX7_thrown M2 = some (.inl k9, M3)) (hE : k9 = 0 → M3 181 0 = b9) (K : ml_J E g 10 Q (k + 2) (n + 12) 2751 [(5, .int i), (4, ml_rf g 182), (3, ml_rf g 181), (2, ml_rf g 11), (1, ml_rf g 0), (0, .ref b)] [] M3) : ml_J E g 10 Q k n 830 [(5, .int i), (4, ml_rf g 182), (3, ml_rf g 181), (2, ml_rf g 11), (1, ml_rf g 0), (0, .ref b)] [] M := by
  refine ml_aload_n (q := 4) F dL_law_830 rfl rfl ?_
  refine ml_aload_n (q := 5) F dL_law_831 rfl rfl ?_
  refine ml_iload (q := 0) F dL_law_832 rfl ?_
  refine ml_iconst (v := 1) F dL_law_834 (by decide) ?_
  refine ml_iadd F dL_law_835 ?_
  refine ml_scld (j := i0 + 1) (x := xs (i0 + 1)) F S hi.2.1.1 hi.2.1.2.1 hi.2.1.2.2 rfl dL_law_836 ?_
  refine ml_aload_n (q := 2) F dL_law_837 rfl rfl ?_
  refine ml_callSQ (hh := [(0, 9, 12, 21)]) (r8 := k9) (M8 := M1) (vl2 := fun r _ => some (.int r)) (av := [ml_rf g 0, .int (xs (i0 + 1)), ml_rf g 181]) (st := []) F (fL_level_c ((xs (i0 + 1))) M _ hst hW) wcL_level mlL_184 wdL_level (by omega) (by omega) (by omega) rfl stL_level rfl (Nat.le_of_ble_eq_true rfl) dL_law_838 ?_
  refine ml_istore (ls2 := [(6, .int k9), (5, .int i), (4, ml_rf g 182), (3, ml_rf g 181), (2, ml_rf g 11), (1, ml_rf g 0), (0, .ref b)]) F dL_law_841 (by decide) rfl ?_
  refine ml_aload_n (q := 4) F dL_law_843 rfl rfl ?_
  refine ml_aload_n (q := 6) F dL_law_844 rfl rfl ?_
  refine ml_iload (q := 1) F dL_law_845 rfl ?_
  refine ml_iconst (v := 1) F dL_law_847 (by decide) ?_
  refine ml_iadd F dL_law_848 ?_
  refine ml_scld (j := i0 + 1) (x := xs (i0 + 1)) F S hi.2.1.1 hi.2.1.2.1 hi.2.1.2.2 rfl dL_law_849 ?_
  refine ml_callVQ (r8 := b9) (M8 := M2) (vl2 := (fun r _ => some (.int r))) (av := [.int (xs (i0 + 1))]) (st := []) (kb := 11) (ci := 11) (T := TX7) (N := 16) F (pc11 g) rfl (fX7_level_c ((xs (i0 + 1))) M1 _ hst hM) wcX7_level mlL_186 wdX7_level (by omega) (by omega) (by omega) rfl seX7_level imX7_level rfl (Nat.le_of_ble_eq_true rfl) dL_law_850 ?_
  refine ml_istore (ls2 := [(7, .int b9), (6, .int k9), (5, .int i), (4, ml_rf g 182), (3, ml_rf g 181), (2, ml_rf g 11), (1, ml_rf g 0), (0, .ref b)]) F dL_law_853 (by decide) rfl ?_
  refine ml_aload_n (q := 5) F dL_law_855 rfl rfl ?_
  refine ml_callVQ (r8 := k9) (M8 := M3) (vl2 := (fun r _ => some (.int r))) (av := []) (st := []) (kb := 11) (ci := 11) (T := TX7) (N := 16) F (pc11 g) rfl (fX7_thrown_c M2 _ hst hT) wcX7_thrown mlL_155 wdX7_thrown (by omega) (by omega) (by omega) rfl seX7_thrown imX7_thrown rfl (Nat.le_of_ble_eq_true rfl) dL_law_856 ?_
  refine ml_iload (q := 1) F dL_law_859 rfl ?_
  refine ml_icmp_eqT (tgt := 866) F dL_law_861 (by decide) rfl ?_
  refine ml_iload (q := 1) F dL_law_866 rfl ?_
  by_cases hk0 : k9 = 0
  · refine ml_if_neF (tgt := 883) F dL_law_868 (by decide) hk0 ?_
    refine ml_aload_n (q := 4) F dL_law_871 rfl rfl ?_
    refine ml_iconst (v := 0) F dL_law_872 (by decide) ?_
    refine ml_lald F dL_law_873 ?_
    refine ml_iload (q := 0) F dL_law_874 rfl ?_
    refine ml_i2l F dL_law_876 ?_
    refine ml_lcmp0 F dL_law_877 (by rw [hE hk0]) ?_
    refine ml_if_eqT (tgt := 883) F dL_law_878 (by decide) rfl ?_
    refine ml_goto (tgt := 2751) F dL_law_883 (by decide) ?_
    exact ml_wid (by omega) (by omega) (ml_sub [2, 3, 4, 5, 6, 7] rfl K)
  · refine ml_if_neT (tgt := 883) F dL_law_868 (by decide) hk0 ?_
    refine ml_goto (tgt := 2751) F dL_law_883 (by decide) ?_
    exact ml_wid (by omega) (by omega) (ml_sub [2, 3, 4, 5, 6, 7] rfl K)
set_option maxHeartbeats 4000000 in
set_option maxRecDepth 100000 in
theorem lwc_10 {E : ml_E} {g : ml_G} {lv mc ms k n b L i0 : Nat} {ret : Option FieldType} {tb : List ExceptionTableEntry} {xs : Nat → Int32} {i : Int32} {Q : State → Prop} {M M1 M2 M3 : ml_M} {k9 b9 : Int32} (hst : g.2.2.2.2.2.stackTraces = false) (F : ml_F E g cL_law RL 10 lv mc ms ret tb) (S : ml_S E g b L xs) (hi : lw_ix i i0 L) (hlv : 20 ≤ lv) (hk : k + 2 ≤ mc) (hn2 : n + 12 ≤ ms) (hW : fL_exactLevel ((xs (i0 + 1))) M = some (.inl k9, M1)) (hM : fX7_exactLevel ((xs (i0 + 1))) M1 = some (.inl b9, M2)) (hT : fX7_thrown M2 = some (.inl k9, M3)) (hE : k9 = 0 → M3 182 0 = M2 200 0 ∧ M3 182 1 = M2 200 1) (K : ml_J E g 10 Q (k + 2) (n + 12) 2751 [(5, .int i), (4, ml_rf g 182), (3, ml_rf g 181), (2, ml_rf g 11), (1, ml_rf g 0), (0, .ref b)] [] M3) : ml_J E g 10 Q k n 886 [(5, .int i), (4, ml_rf g 182), (3, ml_rf g 181), (2, ml_rf g 11), (1, ml_rf g 0), (0, .ref b)] [] M := by
  refine ml_aload_n (q := 4) F dL_law_886 rfl rfl ?_
  refine ml_aload_n (q := 5) F dL_law_887 rfl rfl ?_
  refine ml_iload (q := 0) F dL_law_888 rfl ?_
  refine ml_iconst (v := 1) F dL_law_890 (by decide) ?_
  refine ml_iadd F dL_law_891 ?_
  refine ml_scld (j := i0 + 1) (x := xs (i0 + 1)) F S hi.2.1.1 hi.2.1.2.1 hi.2.1.2.2 rfl dL_law_892 ?_
  refine ml_aload (q := 1) F dL_law_893 rfl ?_
  refine ml_callSQ (hh := [(0, 8, 11, 21)]) (r8 := k9) (M8 := M1) (vl2 := fun r _ => some (.int r)) (av := [ml_rf g 0, .int (xs (i0 + 1)), ml_rf g 182]) (st := []) F (fL_exactLevel_c ((xs (i0 + 1))) M _ hst hW) wcL_exactLevel mlL_187 wdL_exactLevel (by omega) (by omega) (by omega) rfl stL_exactLevel rfl (Nat.le_of_ble_eq_true rfl) dL_law_895 ?_
  refine ml_istore (ls2 := [(6, .int k9), (5, .int i), (4, ml_rf g 182), (3, ml_rf g 181), (2, ml_rf g 11), (1, ml_rf g 0), (0, .ref b)]) F dL_law_898 (by decide) rfl ?_
  refine ml_aload_n (q := 4) F dL_law_900 rfl rfl ?_
  refine ml_aload_n (q := 6) F dL_law_901 rfl rfl ?_
  refine ml_iload (q := 1) F dL_law_902 rfl ?_
  refine ml_iconst (v := 1) F dL_law_904 (by decide) ?_
  refine ml_iadd F dL_law_905 ?_
  refine ml_scld (j := i0 + 1) (x := xs (i0 + 1)) F S hi.2.1.1 hi.2.1.2.1 hi.2.1.2.2 rfl dL_law_906 ?_
  refine ml_callVQ (r8 := b9) (M8 := M2) (vl2 := (fun _ M => some (.double (FP.ddiv (FP.i2d (M 200 0)) (FP.i2d (M 200 1)))))) (av := [.int (xs (i0 + 1))]) (st := []) (kb := 11) (ci := 11) (T := TX7) (N := 16) F (pc11 g) rfl (fX7_exactLevel_c ((xs (i0 + 1))) M1 _ hst hM) wcX7_exactLevel mlL_190 wdX7_exactLevel (by omega) (by omega) (by omega) rfl seX7_exactLevel imX7_exactLevel rfl (Nat.le_of_ble_eq_true rfl) dL_law_907 ?_
  refine ml_dstore (ls2 := [(7, .double (FP.ddiv (FP.i2d (M2 200 0)) (FP.i2d (M2 200 1)))), (6, .int k9), (5, .int i), (4, ml_rf g 182), (3, ml_rf g 181), (2, ml_rf g 11), (1, ml_rf g 0), (0, .ref b)]) F dL_law_910 (by decide) rfl ?_
  refine ml_aload_n (q := 5) F dL_law_912 rfl rfl ?_
  refine ml_callVQ (r8 := k9) (M8 := M3) (vl2 := (fun r _ => some (.int r))) (av := []) (st := []) (kb := 11) (ci := 11) (T := TX7) (N := 16) F (pc11 g) rfl (fX7_thrown_c M2 _ hst hT) wcX7_thrown mlL_155 wdX7_thrown (by omega) (by omega) (by omega) rfl seX7_thrown imX7_thrown rfl (Nat.le_of_ble_eq_true rfl) dL_law_913 ?_
  refine ml_iload (q := 1) F dL_law_916 rfl ?_
  refine ml_icmp_eqT (tgt := 923) F dL_law_918 (by decide) rfl ?_
  refine ml_iload (q := 1) F dL_law_923 rfl ?_
  by_cases hk0 : k9 = 0
  · refine ml_if_neF (tgt := 960) F dL_law_925 (by decide) hk0 ?_
    refine ml_aload (q := 3) F dL_law_928 rfl ?_
    refine ml_iconst (v := 0) F dL_law_930 (by decide) ?_
    refine ml_dald F dL_law_931 ?_
    refine ml_dload (q := 0) F dL_law_932 rfl ?_
    refine ml_dcmp F dL_law_934 ?_
    try rw [(hE hk0).1, (hE hk0).2]
    obtain ⟨v, hv⟩ : ∃ v, v = Op.cmpValue (FP.dcmp (FP.ddiv (FP.i2d (M2 200 0)) (FP.i2d (M2 200 1))) (FP.ddiv (FP.i2d (M2 200 0)) (FP.i2d (M2 200 1)))) CmpOp.l := ⟨_, rfl⟩
    rw [← hv]
    by_cases hv0 : v = 0
    · refine ml_if_eqT (tgt := 960) F dL_law_935 (by decide) hv0 ?_
      refine ml_goto (tgt := 2751) F dL_law_960 (by decide) ?_
      exact ml_wid (by omega) (by omega) (ml_sub [2, 3, 4, 5, 6, 7] rfl K)
    · refine ml_if_eqF (tgt := 960) F dL_law_935 (by decide) hv0 ?_
      refine ml_aload (q := 3) F dL_law_938 rfl ?_
      refine ml_iconst (v := 0) F dL_law_940 (by decide) ?_
      refine ml_dald F dL_law_941 ?_
      refine ml_aload (q := 3) F dL_law_942 rfl ?_
      refine ml_iconst (v := 0) F dL_law_944 (by decide) ?_
      refine ml_dald F dL_law_945 ?_
      refine ml_dcmp F dL_law_946 ?_
      try rw [(hE hk0).1, (hE hk0).2]
      rw [← hv]
      refine ml_if_eqF (tgt := 958) F dL_law_947 (by decide) hv0 ?_
      refine ml_dload (q := 0) F dL_law_950 rfl ?_
      refine ml_dload (q := 0) F dL_law_952 rfl ?_
      refine ml_dcmp F dL_law_954 ?_
      try rw [(hE hk0).1, (hE hk0).2]
      rw [← hv]
      refine ml_if_neT (tgt := 960) F dL_law_955 (by decide) hv0 ?_
      refine ml_goto (tgt := 2751) F dL_law_960 (by decide) ?_
      exact ml_wid (by omega) (by omega) (ml_sub [2, 3, 4, 5, 6, 7] rfl K)
  · refine ml_if_neT (tgt := 960) F dL_law_925 (by decide) hk0 ?_
    refine ml_goto (tgt := 2751) F dL_law_960 (by decide) ?_
    exact ml_wid (by omega) (by omega) (ml_sub [2, 3, 4, 5, 6, 7] rfl K)
set_option maxHeartbeats 4000000 in
set_option maxRecDepth 100000 in
theorem lwc_11 {E : ml_E} {g : ml_G} {lv mc ms k n b L i0 : Nat} {ret : Option FieldType} {tb : List ExceptionTableEntry} {xs : Nat → Int32} {i : Int32} {Q : State → Prop} {M M1 M2 M3 : ml_M} {k9 b9 : Int32} (hst : g.2.2.2.2.2.stackTraces = false) (F : ml_F E g cL_law RL 10 lv mc ms ret tb) (S : ml_S E g b L xs) (hi : lw_ix i i0 L) (hlv : 20 ≤ lv) (hk : k + 2 ≤ mc) (hn2 : n + 12 ≤ ms) (hW : fL_isHigher ((xs (i0 + 1))) ((xs (i0 + 2))) M = some (.inl k9, M1)) (hM : fX7_isHigher ((xs (i0 + 1))) ((xs (i0 + 2))) M1 = some (.inl b9, M2)) (hT : fX7_thrown M2 = some (.inl k9, M3)) (hE : k9 = 0 → M3 181 0 = lw_bz b9) (K : ml_J E g 10 Q (k + 2) (n + 12) 2751 [(5, .int i), (4, ml_rf g 182), (3, ml_rf g 181), (2, ml_rf g 11), (1, ml_rf g 0), (0, .ref b)] [] M3) : ml_J E g 10 Q k n 963 [(5, .int i), (4, ml_rf g 182), (3, ml_rf g 181), (2, ml_rf g 11), (1, ml_rf g 0), (0, .ref b)] [] M := by
  refine ml_aload_n (q := 4) F dL_law_963 rfl rfl ?_
  refine ml_aload_n (q := 5) F dL_law_964 rfl rfl ?_
  refine ml_iload (q := 0) F dL_law_965 rfl ?_
  refine ml_iconst (v := 1) F dL_law_967 (by decide) ?_
  refine ml_iadd F dL_law_968 ?_
  refine ml_scld (j := i0 + 1) (x := xs (i0 + 1)) F S hi.2.1.1 hi.2.1.2.1 hi.2.1.2.2 rfl dL_law_969 ?_
  refine ml_aload_n (q := 5) F dL_law_970 rfl rfl ?_
  refine ml_iload (q := 0) F dL_law_971 rfl ?_
  refine ml_iconst (v := 2) F dL_law_973 (by decide) ?_
  refine ml_iadd F dL_law_974 ?_
  refine ml_scld (j := i0 + 2) (x := xs (i0 + 2)) F S hi.2.2.1.1 hi.2.2.1.2.1 hi.2.2.1.2.2 rfl dL_law_975 ?_
  refine ml_aload_n (q := 2) F dL_law_976 rfl rfl ?_
  refine ml_callSQ (hh := [(0, 17, 20, 21)]) (r8 := k9) (M8 := M1) (vl2 := fun r _ => some (.int r)) (av := [ml_rf g 0, .int (xs (i0 + 1)), .int (xs (i0 + 2)), ml_rf g 181]) (st := []) F (fL_isHigher_c ((xs (i0 + 1))) ((xs (i0 + 2))) M _ hst hW) wcL_isHigher mlL_191 wdL_isHigher (by omega) (by omega) (by omega) rfl stL_isHigher rfl (Nat.le_of_ble_eq_true rfl) dL_law_977 ?_
  refine ml_istore (ls2 := [(6, .int k9), (5, .int i), (4, ml_rf g 182), (3, ml_rf g 181), (2, ml_rf g 11), (1, ml_rf g 0), (0, .ref b)]) F dL_law_980 (by decide) rfl ?_
  refine ml_aload_n (q := 4) F dL_law_982 rfl rfl ?_
  refine ml_aload_n (q := 6) F dL_law_983 rfl rfl ?_
  refine ml_iload (q := 1) F dL_law_984 rfl ?_
  refine ml_iconst (v := 1) F dL_law_986 (by decide) ?_
  refine ml_iadd F dL_law_987 ?_
  refine ml_scld (j := i0 + 1) (x := xs (i0 + 1)) F S hi.2.1.1 hi.2.1.2.1 hi.2.1.2.2 rfl dL_law_988 ?_
  refine ml_aload_n (q := 6) F dL_law_989 rfl rfl ?_
  refine ml_iload (q := 1) F dL_law_990 rfl ?_
  refine ml_iconst (v := 2) F dL_law_992 (by decide) ?_
  refine ml_iadd F dL_law_993 ?_
  refine ml_scld (j := i0 + 2) (x := xs (i0 + 2)) F S hi.2.2.1.1 hi.2.2.1.2.1 hi.2.2.1.2.2 rfl dL_law_994 ?_
  refine ml_callVQ (r8 := b9) (M8 := M2) (vl2 := (fun r _ => some (.int r))) (av := [.int (xs (i0 + 1)), .int (xs (i0 + 2))]) (st := []) (kb := 11) (ci := 11) (T := TX7) (N := 16) F (pc11 g) rfl (fX7_isHigher_c ((xs (i0 + 1))) ((xs (i0 + 2))) M1 _ hst hM) wcX7_isHigher mlL_193 wdX7_isHigher (by omega) (by omega) (by omega) rfl seX7_isHigher imX7_isHigher rfl (Nat.le_of_ble_eq_true rfl) dL_law_995 ?_
  refine ml_istore (ls2 := [(7, .int b9), (6, .int k9), (5, .int i), (4, ml_rf g 182), (3, ml_rf g 181), (2, ml_rf g 11), (1, ml_rf g 0), (0, .ref b)]) F dL_law_998 (by decide) rfl ?_
  refine ml_aload_n (q := 5) F dL_law_1000 rfl rfl ?_
  refine ml_callVQ (r8 := k9) (M8 := M3) (vl2 := (fun r _ => some (.int r))) (av := []) (st := []) (kb := 11) (ci := 11) (T := TX7) (N := 16) F (pc11 g) rfl (fX7_thrown_c M2 _ hst hT) wcX7_thrown mlL_155 wdX7_thrown (by omega) (by omega) (by omega) rfl seX7_thrown imX7_thrown rfl (Nat.le_of_ble_eq_true rfl) dL_law_1001 ?_
  refine ml_iload (q := 1) F dL_law_1004 rfl ?_
  refine ml_icmp_eqT (tgt := 1011) F dL_law_1006 (by decide) rfl ?_
  refine ml_iload (q := 1) F dL_law_1011 rfl ?_
  by_cases hk0 : k9 = 0
  · refine ml_if_neF (tgt := 1035) F dL_law_1013 (by decide) hk0 ?_
    refine ml_aload_n (q := 4) F dL_law_1016 rfl rfl ?_
    refine ml_iconst (v := 0) F dL_law_1017 (by decide) ?_
    refine ml_lald F dL_law_1018 ?_
    refine ml_iload (q := 0) F dL_law_1019 rfl ?_
    by_cases hb0 : b9 = 0
    · refine ml_if_eqT (tgt := 1028) F dL_law_1021 (by decide) hb0 ?_
      refine ml_lconst (v := 0) F dL_law_1028 (by decide) ?_
      refine ml_lcmp0 F dL_law_1029 (by rw [hE hk0]; unfold lw_bz; rw [if_pos hb0]; decide) ?_
      refine ml_if_eqT (tgt := 1035) F dL_law_1030 (by decide) rfl ?_
      refine ml_goto (tgt := 2751) F dL_law_1035 (by decide) ?_
      exact ml_wid (by omega) (by omega) (ml_sub [2, 3, 4, 5, 6, 7] rfl K)
    · refine ml_if_eqF (tgt := 1028) F dL_law_1021 (by decide) hb0 ?_
      refine ml_lconst (v := 1) F dL_law_1024 (by decide) ?_
      refine ml_goto (tgt := 1029) F dL_law_1025 (by decide) ?_
      refine ml_lcmp0 F dL_law_1029 (by rw [hE hk0]; unfold lw_bz; rw [if_neg hb0]; decide) ?_
      refine ml_if_eqT (tgt := 1035) F dL_law_1030 (by decide) rfl ?_
      refine ml_goto (tgt := 2751) F dL_law_1035 (by decide) ?_
      exact ml_wid (by omega) (by omega) (ml_sub [2, 3, 4, 5, 6, 7] rfl K)
  · refine ml_if_neT (tgt := 1035) F dL_law_1013 (by decide) hk0 ?_
    refine ml_goto (tgt := 2751) F dL_law_1035 (by decide) ?_
    exact ml_wid (by omega) (by omega) (ml_sub [2, 3, 4, 5, 6, 7] rfl K)
set_option maxHeartbeats 4000000 in
set_option maxRecDepth 100000 in
theorem lwc_12 {E : ml_E} {g : ml_G} {lv mc ms k n b L i0 : Nat} {ret : Option FieldType} {tb : List ExceptionTableEntry} {xs : Nat → Int32} {i : Int32} {Q : State → Prop} {M M1 M2 M3 : ml_M} {k9 b9 : Int32} (hst : g.2.2.2.2.2.stackTraces = false) (F : ml_F E g cL_law RL 10 lv mc ms ret tb) (S : ml_S E g b L xs) (hi : lw_ix i i0 L) (hlv : 20 ≤ lv) (hk : k + 2 ≤ mc) (hn2 : n + 12 ≤ ms) (hW : fL_equalizingAmount ((xs (i0 + 1))) M = some (.inl k9, M1)) (hM : fX7_equalizingAmount ((xs (i0 + 1))) M1 = some (.inl b9, M2)) (hT : fX7_thrown M2 = some (.inl k9, M3)) (hE : k9 = 0 → M3 181 0 = b9) (K : ml_J E g 10 Q (k + 2) (n + 12) 2751 [(5, .int i), (4, ml_rf g 182), (3, ml_rf g 181), (2, ml_rf g 11), (1, ml_rf g 0), (0, .ref b)] [] M3) : ml_J E g 10 Q k n 1038 [(5, .int i), (4, ml_rf g 182), (3, ml_rf g 181), (2, ml_rf g 11), (1, ml_rf g 0), (0, .ref b)] [] M := by
  refine ml_aload_n (q := 4) F dL_law_1038 rfl rfl ?_
  refine ml_aload_n (q := 5) F dL_law_1039 rfl rfl ?_
  refine ml_iload (q := 0) F dL_law_1040 rfl ?_
  refine ml_iconst (v := 1) F dL_law_1042 (by decide) ?_
  refine ml_iadd F dL_law_1043 ?_
  refine ml_scld (j := i0 + 1) (x := xs (i0 + 1)) F S hi.2.1.1 hi.2.1.2.1 hi.2.1.2.2 rfl dL_law_1044 ?_
  refine ml_aload_n (q := 2) F dL_law_1045 rfl rfl ?_
  refine ml_callSQ (hh := [(0, 9, 12, 21)]) (r8 := k9) (M8 := M1) (vl2 := fun r _ => some (.int r)) (av := [ml_rf g 0, .int (xs (i0 + 1)), ml_rf g 181]) (st := []) F (fL_equalizingAmount_c ((xs (i0 + 1))) M _ hst hW) wcL_equalizingAmount mlL_194 wdL_equalizingAmount (by omega) (by omega) (by omega) rfl stL_equalizingAmount rfl (Nat.le_of_ble_eq_true rfl) dL_law_1046 ?_
  refine ml_istore (ls2 := [(6, .int k9), (5, .int i), (4, ml_rf g 182), (3, ml_rf g 181), (2, ml_rf g 11), (1, ml_rf g 0), (0, .ref b)]) F dL_law_1049 (by decide) rfl ?_
  refine ml_aload_n (q := 4) F dL_law_1051 rfl rfl ?_
  refine ml_aload_n (q := 6) F dL_law_1052 rfl rfl ?_
  refine ml_iload (q := 1) F dL_law_1053 rfl ?_
  refine ml_iconst (v := 1) F dL_law_1055 (by decide) ?_
  refine ml_iadd F dL_law_1056 ?_
  refine ml_scld (j := i0 + 1) (x := xs (i0 + 1)) F S hi.2.1.1 hi.2.1.2.1 hi.2.1.2.2 rfl dL_law_1057 ?_
  refine ml_callVQ (r8 := b9) (M8 := M2) (vl2 := (fun r _ => some (.int r))) (av := [.int (xs (i0 + 1))]) (st := []) (kb := 11) (ci := 11) (T := TX7) (N := 16) F (pc11 g) rfl (fX7_equalizingAmount_c ((xs (i0 + 1))) M1 _ hst hM) wcX7_equalizingAmount mlL_196 wdX7_equalizingAmount (by omega) (by omega) (by omega) rfl seX7_equalizingAmount imX7_equalizingAmount rfl (Nat.le_of_ble_eq_true rfl) dL_law_1058 ?_
  refine ml_istore (ls2 := [(7, .int b9), (6, .int k9), (5, .int i), (4, ml_rf g 182), (3, ml_rf g 181), (2, ml_rf g 11), (1, ml_rf g 0), (0, .ref b)]) F dL_law_1061 (by decide) rfl ?_
  refine ml_aload_n (q := 5) F dL_law_1063 rfl rfl ?_
  refine ml_callVQ (r8 := k9) (M8 := M3) (vl2 := (fun r _ => some (.int r))) (av := []) (st := []) (kb := 11) (ci := 11) (T := TX7) (N := 16) F (pc11 g) rfl (fX7_thrown_c M2 _ hst hT) wcX7_thrown mlL_155 wdX7_thrown (by omega) (by omega) (by omega) rfl seX7_thrown imX7_thrown rfl (Nat.le_of_ble_eq_true rfl) dL_law_1064 ?_
  refine ml_iload (q := 1) F dL_law_1067 rfl ?_
  refine ml_icmp_eqT (tgt := 1074) F dL_law_1069 (by decide) rfl ?_
  refine ml_iload (q := 1) F dL_law_1074 rfl ?_
  by_cases hk0 : k9 = 0
  · refine ml_if_neF (tgt := 1091) F dL_law_1076 (by decide) hk0 ?_
    refine ml_aload_n (q := 4) F dL_law_1079 rfl rfl ?_
    refine ml_iconst (v := 0) F dL_law_1080 (by decide) ?_
    refine ml_lald F dL_law_1081 ?_
    refine ml_iload (q := 0) F dL_law_1082 rfl ?_
    refine ml_i2l F dL_law_1084 ?_
    refine ml_lcmp0 F dL_law_1085 (by rw [hE hk0]) ?_
    refine ml_if_eqT (tgt := 1091) F dL_law_1086 (by decide) rfl ?_
    refine ml_goto (tgt := 2751) F dL_law_1091 (by decide) ?_
    exact ml_wid (by omega) (by omega) (ml_sub [2, 3, 4, 5, 6, 7] rfl K)
  · refine ml_if_neT (tgt := 1091) F dL_law_1076 (by decide) hk0 ?_
    refine ml_goto (tgt := 2751) F dL_law_1091 (by decide) ?_
    exact ml_wid (by omega) (by omega) (ml_sub [2, 3, 4, 5, 6, 7] rfl K)
set_option maxHeartbeats 4000000 in
set_option maxRecDepth 100000 in
theorem lwc_13 {E : ml_E} {g : ml_G} {lv mc ms k n b L i0 : Nat} {ret : Option FieldType} {tb : List ExceptionTableEntry} {xs : Nat → Int32} {i : Int32} {Q : State → Prop} {M M1 M2 M3 : ml_M} {k9 b9 : Int32} (hst : g.2.2.2.2.2.stackTraces = false) (F : ml_F E g cL_law RL 10 lv mc ms ret tb) (S : ml_S E g b L xs) (hi : lw_ix i i0 L) (hlv : 20 ≤ lv) (hk : k + 2 ≤ mc) (hn2 : n + 12 ≤ ms) (hW : fL_equalizingAmountByLitres ((xs (i0 + 1))) M = some (.inl k9, M1)) (hM : fX7_equalizingAmountByLitres ((xs (i0 + 1))) M1 = some (.inl b9, M2)) (hT : fX7_thrown M2 = some (.inl k9, M3)) (hE : k9 = 0 → M3 181 0 = b9) (K : ml_J E g 10 Q (k + 2) (n + 12) 2751 [(5, .int i), (4, ml_rf g 182), (3, ml_rf g 181), (2, ml_rf g 11), (1, ml_rf g 0), (0, .ref b)] [] M3) : ml_J E g 10 Q k n 1094 [(5, .int i), (4, ml_rf g 182), (3, ml_rf g 181), (2, ml_rf g 11), (1, ml_rf g 0), (0, .ref b)] [] M := by
  refine ml_aload_n (q := 4) F dL_law_1094 rfl rfl ?_
  refine ml_aload_n (q := 5) F dL_law_1095 rfl rfl ?_
  refine ml_iload (q := 0) F dL_law_1096 rfl ?_
  refine ml_iconst (v := 1) F dL_law_1098 (by decide) ?_
  refine ml_iadd F dL_law_1099 ?_
  refine ml_scld (j := i0 + 1) (x := xs (i0 + 1)) F S hi.2.1.1 hi.2.1.2.1 hi.2.1.2.2 rfl dL_law_1100 ?_
  refine ml_aload_n (q := 2) F dL_law_1101 rfl rfl ?_
  refine ml_callSQ (hh := [(0, 9, 12, 21)]) (r8 := k9) (M8 := M1) (vl2 := fun r _ => some (.int r)) (av := [ml_rf g 0, .int (xs (i0 + 1)), ml_rf g 181]) (st := []) F (fL_equalizingAmountByLitres_c ((xs (i0 + 1))) M _ hst hW) wcL_equalizingAmountByLitres mlL_197 wdL_equalizingAmountByLitres (by omega) (by omega) (by omega) rfl stL_equalizingAmountByLitres rfl (Nat.le_of_ble_eq_true rfl) dL_law_1102 ?_
  refine ml_istore (ls2 := [(6, .int k9), (5, .int i), (4, ml_rf g 182), (3, ml_rf g 181), (2, ml_rf g 11), (1, ml_rf g 0), (0, .ref b)]) F dL_law_1105 (by decide) rfl ?_
  refine ml_aload_n (q := 4) F dL_law_1107 rfl rfl ?_
  refine ml_aload_n (q := 6) F dL_law_1108 rfl rfl ?_
  refine ml_iload (q := 1) F dL_law_1109 rfl ?_
  refine ml_iconst (v := 1) F dL_law_1111 (by decide) ?_
  refine ml_iadd F dL_law_1112 ?_
  refine ml_scld (j := i0 + 1) (x := xs (i0 + 1)) F S hi.2.1.1 hi.2.1.2.1 hi.2.1.2.2 rfl dL_law_1113 ?_
  refine ml_callVQ (r8 := b9) (M8 := M2) (vl2 := (fun r _ => some (.int r))) (av := [.int (xs (i0 + 1))]) (st := []) (kb := 11) (ci := 11) (T := TX7) (N := 16) F (pc11 g) rfl (fX7_equalizingAmountByLitres_c ((xs (i0 + 1))) M1 _ hst hM) wcX7_equalizingAmountByLitres mlL_199 wdX7_equalizingAmountByLitres (by omega) (by omega) (by omega) rfl seX7_equalizingAmountByLitres imX7_equalizingAmountByLitres rfl (Nat.le_of_ble_eq_true rfl) dL_law_1114 ?_
  refine ml_istore (ls2 := [(7, .int b9), (6, .int k9), (5, .int i), (4, ml_rf g 182), (3, ml_rf g 181), (2, ml_rf g 11), (1, ml_rf g 0), (0, .ref b)]) F dL_law_1117 (by decide) rfl ?_
  refine ml_aload_n (q := 5) F dL_law_1119 rfl rfl ?_
  refine ml_callVQ (r8 := k9) (M8 := M3) (vl2 := (fun r _ => some (.int r))) (av := []) (st := []) (kb := 11) (ci := 11) (T := TX7) (N := 16) F (pc11 g) rfl (fX7_thrown_c M2 _ hst hT) wcX7_thrown mlL_155 wdX7_thrown (by omega) (by omega) (by omega) rfl seX7_thrown imX7_thrown rfl (Nat.le_of_ble_eq_true rfl) dL_law_1120 ?_
  refine ml_iload (q := 1) F dL_law_1123 rfl ?_
  refine ml_icmp_eqT (tgt := 1130) F dL_law_1125 (by decide) rfl ?_
  refine ml_iload (q := 1) F dL_law_1130 rfl ?_
  by_cases hk0 : k9 = 0
  · refine ml_if_neF (tgt := 1147) F dL_law_1132 (by decide) hk0 ?_
    refine ml_aload_n (q := 4) F dL_law_1135 rfl rfl ?_
    refine ml_iconst (v := 0) F dL_law_1136 (by decide) ?_
    refine ml_lald F dL_law_1137 ?_
    refine ml_iload (q := 0) F dL_law_1138 rfl ?_
    refine ml_i2l F dL_law_1140 ?_
    refine ml_lcmp0 F dL_law_1141 (by rw [hE hk0]) ?_
    refine ml_if_eqT (tgt := 1147) F dL_law_1142 (by decide) rfl ?_
    refine ml_goto (tgt := 2751) F dL_law_1147 (by decide) ?_
    exact ml_wid (by omega) (by omega) (ml_sub [2, 3, 4, 5, 6, 7] rfl K)
  · refine ml_if_neT (tgt := 1147) F dL_law_1132 (by decide) hk0 ?_
    refine ml_goto (tgt := 2751) F dL_law_1147 (by decide) ?_
    exact ml_wid (by omega) (by omega) (ml_sub [2, 3, 4, 5, 6, 7] rfl K)
set_option maxHeartbeats 4000000 in
set_option maxRecDepth 100000 in
theorem lwc_14 {E : ml_E} {g : ml_G} {lv mc ms k n b L i0 : Nat} {ret : Option FieldType} {tb : List ExceptionTableEntry} {xs : Nat → Int32} {i : Int32} {Q : State → Prop} {M M1 M2 M3 : ml_M} {k9 b9 : Int32} (hst : g.2.2.2.2.2.stackTraces = false) (F : ml_F E g cL_law RL 10 lv mc ms ret tb) (S : ml_S E g b L xs) (hi : lw_ix i i0 L) (hlv : 20 ≤ lv) (hk : k + 2 ≤ mc) (hn2 : n + 12 ≤ ms) (hW : fL_opening ((xs (i0 + 1))) M = some (.inl k9, M1)) (hM : fX7_opening ((xs (i0 + 1))) M1 = some (.inl b9, M2)) (hT : fX7_thrown M2 = some (.inl k9, M3)) (hE : k9 = 0 → M3 181 0 = b9) (K : ml_J E g 10 Q (k + 2) (n + 12) 2751 [(5, .int i), (4, ml_rf g 182), (3, ml_rf g 181), (2, ml_rf g 11), (1, ml_rf g 0), (0, .ref b)] [] M3) : ml_J E g 10 Q k n 1150 [(5, .int i), (4, ml_rf g 182), (3, ml_rf g 181), (2, ml_rf g 11), (1, ml_rf g 0), (0, .ref b)] [] M := by
  refine ml_aload_n (q := 4) F dL_law_1150 rfl rfl ?_
  refine ml_aload_n (q := 5) F dL_law_1151 rfl rfl ?_
  refine ml_iload (q := 0) F dL_law_1152 rfl ?_
  refine ml_iconst (v := 1) F dL_law_1154 (by decide) ?_
  refine ml_iadd F dL_law_1155 ?_
  refine ml_scld (j := i0 + 1) (x := xs (i0 + 1)) F S hi.2.1.1 hi.2.1.2.1 hi.2.1.2.2 rfl dL_law_1156 ?_
  refine ml_aload_n (q := 2) F dL_law_1157 rfl rfl ?_
  refine ml_callSQ (hh := [(0, 9, 12, 21)]) (r8 := k9) (M8 := M1) (vl2 := fun r _ => some (.int r)) (av := [ml_rf g 0, .int (xs (i0 + 1)), ml_rf g 181]) (st := []) F (fL_opening_c ((xs (i0 + 1))) M _ hst hW) wcL_opening mlL_200 wdL_opening (by omega) (by omega) (by omega) rfl stL_opening rfl (Nat.le_of_ble_eq_true rfl) dL_law_1158 ?_
  refine ml_istore (ls2 := [(6, .int k9), (5, .int i), (4, ml_rf g 182), (3, ml_rf g 181), (2, ml_rf g 11), (1, ml_rf g 0), (0, .ref b)]) F dL_law_1161 (by decide) rfl ?_
  refine ml_aload_n (q := 4) F dL_law_1163 rfl rfl ?_
  refine ml_aload_n (q := 6) F dL_law_1164 rfl rfl ?_
  refine ml_iload (q := 1) F dL_law_1165 rfl ?_
  refine ml_iconst (v := 1) F dL_law_1167 (by decide) ?_
  refine ml_iadd F dL_law_1168 ?_
  refine ml_scld (j := i0 + 1) (x := xs (i0 + 1)) F S hi.2.1.1 hi.2.1.2.1 hi.2.1.2.2 rfl dL_law_1169 ?_
  refine ml_callVQ (r8 := b9) (M8 := M2) (vl2 := (fun r _ => some (.int r))) (av := [.int (xs (i0 + 1))]) (st := []) (kb := 11) (ci := 11) (T := TX7) (N := 16) F (pc11 g) rfl (fX7_opening_c ((xs (i0 + 1))) M1 _ hst hM) wcX7_opening mlL_202 wdX7_opening (by omega) (by omega) (by omega) rfl seX7_opening imX7_opening rfl (Nat.le_of_ble_eq_true rfl) dL_law_1170 ?_
  refine ml_istore (ls2 := [(7, .int b9), (6, .int k9), (5, .int i), (4, ml_rf g 182), (3, ml_rf g 181), (2, ml_rf g 11), (1, ml_rf g 0), (0, .ref b)]) F dL_law_1173 (by decide) rfl ?_
  refine ml_aload_n (q := 5) F dL_law_1175 rfl rfl ?_
  refine ml_callVQ (r8 := k9) (M8 := M3) (vl2 := (fun r _ => some (.int r))) (av := []) (st := []) (kb := 11) (ci := 11) (T := TX7) (N := 16) F (pc11 g) rfl (fX7_thrown_c M2 _ hst hT) wcX7_thrown mlL_155 wdX7_thrown (by omega) (by omega) (by omega) rfl seX7_thrown imX7_thrown rfl (Nat.le_of_ble_eq_true rfl) dL_law_1176 ?_
  refine ml_iload (q := 1) F dL_law_1179 rfl ?_
  refine ml_icmp_eqT (tgt := 1186) F dL_law_1181 (by decide) rfl ?_
  refine ml_iload (q := 1) F dL_law_1186 rfl ?_
  by_cases hk0 : k9 = 0
  · refine ml_if_neF (tgt := 1203) F dL_law_1188 (by decide) hk0 ?_
    refine ml_aload_n (q := 4) F dL_law_1191 rfl rfl ?_
    refine ml_iconst (v := 0) F dL_law_1192 (by decide) ?_
    refine ml_lald F dL_law_1193 ?_
    refine ml_iload (q := 0) F dL_law_1194 rfl ?_
    refine ml_i2l F dL_law_1196 ?_
    refine ml_lcmp0 F dL_law_1197 (by rw [hE hk0]) ?_
    refine ml_if_eqT (tgt := 1203) F dL_law_1198 (by decide) rfl ?_
    refine ml_goto (tgt := 2751) F dL_law_1203 (by decide) ?_
    exact ml_wid (by omega) (by omega) (ml_sub [2, 3, 4, 5, 6, 7] rfl K)
  · refine ml_if_neT (tgt := 1203) F dL_law_1188 (by decide) hk0 ?_
    refine ml_goto (tgt := 2751) F dL_law_1203 (by decide) ?_
    exact ml_wid (by omega) (by omega) (ml_sub [2, 3, 4, 5, 6, 7] rfl K)
set_option maxHeartbeats 4000000 in
set_option maxRecDepth 100000 in
theorem lwc_15 {E : ml_E} {g : ml_G} {lv mc ms k n b L i0 : Nat} {ret : Option FieldType} {tb : List ExceptionTableEntry} {xs : Nat → Int32} {i : Int32} {Q : State → Prop} {M M1 M2 M3 : ml_M} {k9 b9 : Int32} (hst : g.2.2.2.2.2.stackTraces = false) (F : ml_F E g cL_law RL 10 lv mc ms ret tb) (S : ml_S E g b L xs) (hi : lw_ix i i0 L) (hlv : 20 ≤ lv) (hk : k + 2 ≤ mc) (hn2 : n + 12 ≤ ms) (hW : fL_isOpen ((xs (i0 + 1))) M = some (.inl k9, M1)) (hM : fX7_isOpen ((xs (i0 + 1))) M1 = some (.inl b9, M2)) (hT : fX7_thrown M2 = some (.inl k9, M3)) (hE : k9 = 0 → M3 181 0 = lw_bz b9) (K : ml_J E g 10 Q (k + 2) (n + 12) 2751 [(5, .int i), (4, ml_rf g 182), (3, ml_rf g 181), (2, ml_rf g 11), (1, ml_rf g 0), (0, .ref b)] [] M3) : ml_J E g 10 Q k n 1206 [(5, .int i), (4, ml_rf g 182), (3, ml_rf g 181), (2, ml_rf g 11), (1, ml_rf g 0), (0, .ref b)] [] M := by
  refine ml_aload_n (q := 4) F dL_law_1206 rfl rfl ?_
  refine ml_aload_n (q := 5) F dL_law_1207 rfl rfl ?_
  refine ml_iload (q := 0) F dL_law_1208 rfl ?_
  refine ml_iconst (v := 1) F dL_law_1210 (by decide) ?_
  refine ml_iadd F dL_law_1211 ?_
  refine ml_scld (j := i0 + 1) (x := xs (i0 + 1)) F S hi.2.1.1 hi.2.1.2.1 hi.2.1.2.2 rfl dL_law_1212 ?_
  refine ml_aload_n (q := 2) F dL_law_1213 rfl rfl ?_
  refine ml_callSQ (hh := [(0, 16, 19, 21)]) (r8 := k9) (M8 := M1) (vl2 := fun r _ => some (.int r)) (av := [ml_rf g 0, .int (xs (i0 + 1)), ml_rf g 181]) (st := []) F (fL_isOpen_c ((xs (i0 + 1))) M _ hst hW) wcL_isOpen mlL_203 wdL_isOpen (by omega) (by omega) (by omega) rfl stL_isOpen rfl (Nat.le_of_ble_eq_true rfl) dL_law_1214 ?_
  refine ml_istore (ls2 := [(6, .int k9), (5, .int i), (4, ml_rf g 182), (3, ml_rf g 181), (2, ml_rf g 11), (1, ml_rf g 0), (0, .ref b)]) F dL_law_1217 (by decide) rfl ?_
  refine ml_aload_n (q := 4) F dL_law_1219 rfl rfl ?_
  refine ml_aload_n (q := 6) F dL_law_1220 rfl rfl ?_
  refine ml_iload (q := 1) F dL_law_1221 rfl ?_
  refine ml_iconst (v := 1) F dL_law_1223 (by decide) ?_
  refine ml_iadd F dL_law_1224 ?_
  refine ml_scld (j := i0 + 1) (x := xs (i0 + 1)) F S hi.2.1.1 hi.2.1.2.1 hi.2.1.2.2 rfl dL_law_1225 ?_
  refine ml_callVQ (r8 := b9) (M8 := M2) (vl2 := (fun r _ => some (.int r))) (av := [.int (xs (i0 + 1))]) (st := []) (kb := 11) (ci := 11) (T := TX7) (N := 16) F (pc11 g) rfl (fX7_isOpen_c ((xs (i0 + 1))) M1 _ hst hM) wcX7_isOpen mlL_205 wdX7_isOpen (by omega) (by omega) (by omega) rfl seX7_isOpen imX7_isOpen rfl (Nat.le_of_ble_eq_true rfl) dL_law_1226 ?_
  refine ml_istore (ls2 := [(7, .int b9), (6, .int k9), (5, .int i), (4, ml_rf g 182), (3, ml_rf g 181), (2, ml_rf g 11), (1, ml_rf g 0), (0, .ref b)]) F dL_law_1229 (by decide) rfl ?_
  refine ml_aload_n (q := 5) F dL_law_1231 rfl rfl ?_
  refine ml_callVQ (r8 := k9) (M8 := M3) (vl2 := (fun r _ => some (.int r))) (av := []) (st := []) (kb := 11) (ci := 11) (T := TX7) (N := 16) F (pc11 g) rfl (fX7_thrown_c M2 _ hst hT) wcX7_thrown mlL_155 wdX7_thrown (by omega) (by omega) (by omega) rfl seX7_thrown imX7_thrown rfl (Nat.le_of_ble_eq_true rfl) dL_law_1232 ?_
  refine ml_iload (q := 1) F dL_law_1235 rfl ?_
  refine ml_icmp_eqT (tgt := 1242) F dL_law_1237 (by decide) rfl ?_
  refine ml_iload (q := 1) F dL_law_1242 rfl ?_
  by_cases hk0 : k9 = 0
  · refine ml_if_neF (tgt := 1266) F dL_law_1244 (by decide) hk0 ?_
    refine ml_aload_n (q := 4) F dL_law_1247 rfl rfl ?_
    refine ml_iconst (v := 0) F dL_law_1248 (by decide) ?_
    refine ml_lald F dL_law_1249 ?_
    refine ml_iload (q := 0) F dL_law_1250 rfl ?_
    by_cases hb0 : b9 = 0
    · refine ml_if_eqT (tgt := 1259) F dL_law_1252 (by decide) hb0 ?_
      refine ml_lconst (v := 0) F dL_law_1259 (by decide) ?_
      refine ml_lcmp0 F dL_law_1260 (by rw [hE hk0]; unfold lw_bz; rw [if_pos hb0]; decide) ?_
      refine ml_if_eqT (tgt := 1266) F dL_law_1261 (by decide) rfl ?_
      refine ml_goto (tgt := 2751) F dL_law_1266 (by decide) ?_
      exact ml_wid (by omega) (by omega) (ml_sub [2, 3, 4, 5, 6, 7] rfl K)
    · refine ml_if_eqF (tgt := 1259) F dL_law_1252 (by decide) hb0 ?_
      refine ml_lconst (v := 1) F dL_law_1255 (by decide) ?_
      refine ml_goto (tgt := 1260) F dL_law_1256 (by decide) ?_
      refine ml_lcmp0 F dL_law_1260 (by rw [hE hk0]; unfold lw_bz; rw [if_neg hb0]; decide) ?_
      refine ml_if_eqT (tgt := 1266) F dL_law_1261 (by decide) rfl ?_
      refine ml_goto (tgt := 2751) F dL_law_1266 (by decide) ?_
      exact ml_wid (by omega) (by omega) (ml_sub [2, 3, 4, 5, 6, 7] rfl K)
  · refine ml_if_neT (tgt := 1266) F dL_law_1244 (by decide) hk0 ?_
    refine ml_goto (tgt := 2751) F dL_law_1266 (by decide) ?_
    exact ml_wid (by omega) (by omega) (ml_sub [2, 3, 4, 5, 6, 7] rfl K)
set_option maxHeartbeats 4000000 in
set_option maxRecDepth 100000 in
theorem lwc_16 {E : ml_E} {g : ml_G} {lv mc ms k n b L i0 : Nat} {ret : Option FieldType} {tb : List ExceptionTableEntry} {xs : Nat → Int32} {i : Int32} {Q : State → Prop} {M M1 M2 M3 : ml_M} {k9 b9 : Int32} (hst : g.2.2.2.2.2.stackTraces = false) (F : ml_F E g cL_law RL 10 lv mc ms ret tb) (S : ml_S E g b L xs) (hi : lw_ix i i0 L) (hlv : 20 ≤ lv) (hk : k + 2 ≤ mc) (hn2 : n + 12 ≤ ms) (hW : fL_flow ((xs (i0 + 1))) M = some (.inl k9, M1)) (hM : fX7_flow ((xs (i0 + 1))) M1 = some (.inl b9, M2)) (hT : fX7_thrown M2 = some (.inl k9, M3)) (hE : k9 = 0 → M3 181 0 = b9) (K : ml_J E g 10 Q (k + 2) (n + 12) 2751 [(5, .int i), (4, ml_rf g 182), (3, ml_rf g 181), (2, ml_rf g 11), (1, ml_rf g 0), (0, .ref b)] [] M3) : ml_J E g 10 Q k n 1269 [(5, .int i), (4, ml_rf g 182), (3, ml_rf g 181), (2, ml_rf g 11), (1, ml_rf g 0), (0, .ref b)] [] M := by
  refine ml_aload_n (q := 4) F dL_law_1269 rfl rfl ?_
  refine ml_aload_n (q := 5) F dL_law_1270 rfl rfl ?_
  refine ml_iload (q := 0) F dL_law_1271 rfl ?_
  refine ml_iconst (v := 1) F dL_law_1273 (by decide) ?_
  refine ml_iadd F dL_law_1274 ?_
  refine ml_scld (j := i0 + 1) (x := xs (i0 + 1)) F S hi.2.1.1 hi.2.1.2.1 hi.2.1.2.2 rfl dL_law_1275 ?_
  refine ml_aload_n (q := 2) F dL_law_1276 rfl rfl ?_
  refine ml_callSQ (hh := [(0, 9, 12, 21)]) (r8 := k9) (M8 := M1) (vl2 := fun r _ => some (.int r)) (av := [ml_rf g 0, .int (xs (i0 + 1)), ml_rf g 181]) (st := []) F (fL_flow_c ((xs (i0 + 1))) M _ hst hW) wcL_flow mlL_206 wdL_flow (by omega) (by omega) (by omega) rfl stL_flow rfl (Nat.le_of_ble_eq_true rfl) dL_law_1277 ?_
  refine ml_istore (ls2 := [(6, .int k9), (5, .int i), (4, ml_rf g 182), (3, ml_rf g 181), (2, ml_rf g 11), (1, ml_rf g 0), (0, .ref b)]) F dL_law_1280 (by decide) rfl ?_
  refine ml_aload_n (q := 4) F dL_law_1282 rfl rfl ?_
  refine ml_aload_n (q := 6) F dL_law_1283 rfl rfl ?_
  refine ml_iload (q := 1) F dL_law_1284 rfl ?_
  refine ml_iconst (v := 1) F dL_law_1286 (by decide) ?_
  refine ml_iadd F dL_law_1287 ?_
  refine ml_scld (j := i0 + 1) (x := xs (i0 + 1)) F S hi.2.1.1 hi.2.1.2.1 hi.2.1.2.2 rfl dL_law_1288 ?_
  refine ml_callVQ (r8 := b9) (M8 := M2) (vl2 := (fun r _ => some (.int r))) (av := [.int (xs (i0 + 1))]) (st := []) (kb := 11) (ci := 11) (T := TX7) (N := 16) F (pc11 g) rfl (fX7_flow_c ((xs (i0 + 1))) M1 _ hst hM) wcX7_flow mlL_208 wdX7_flow (by omega) (by omega) (by omega) rfl seX7_flow imX7_flow rfl (Nat.le_of_ble_eq_true rfl) dL_law_1289 ?_
  refine ml_istore (ls2 := [(7, .int b9), (6, .int k9), (5, .int i), (4, ml_rf g 182), (3, ml_rf g 181), (2, ml_rf g 11), (1, ml_rf g 0), (0, .ref b)]) F dL_law_1292 (by decide) rfl ?_
  refine ml_aload_n (q := 5) F dL_law_1294 rfl rfl ?_
  refine ml_callVQ (r8 := k9) (M8 := M3) (vl2 := (fun r _ => some (.int r))) (av := []) (st := []) (kb := 11) (ci := 11) (T := TX7) (N := 16) F (pc11 g) rfl (fX7_thrown_c M2 _ hst hT) wcX7_thrown mlL_155 wdX7_thrown (by omega) (by omega) (by omega) rfl seX7_thrown imX7_thrown rfl (Nat.le_of_ble_eq_true rfl) dL_law_1295 ?_
  refine ml_iload (q := 1) F dL_law_1298 rfl ?_
  refine ml_icmp_eqT (tgt := 1305) F dL_law_1300 (by decide) rfl ?_
  refine ml_iload (q := 1) F dL_law_1305 rfl ?_
  by_cases hk0 : k9 = 0
  · refine ml_if_neF (tgt := 1322) F dL_law_1307 (by decide) hk0 ?_
    refine ml_aload_n (q := 4) F dL_law_1310 rfl rfl ?_
    refine ml_iconst (v := 0) F dL_law_1311 (by decide) ?_
    refine ml_lald F dL_law_1312 ?_
    refine ml_iload (q := 0) F dL_law_1313 rfl ?_
    refine ml_i2l F dL_law_1315 ?_
    refine ml_lcmp0 F dL_law_1316 (by rw [hE hk0]) ?_
    refine ml_if_eqT (tgt := 1322) F dL_law_1317 (by decide) rfl ?_
    refine ml_goto (tgt := 2751) F dL_law_1322 (by decide) ?_
    exact ml_wid (by omega) (by omega) (ml_sub [2, 3, 4, 5, 6, 7] rfl K)
  · refine ml_if_neT (tgt := 1322) F dL_law_1307 (by decide) hk0 ?_
    refine ml_goto (tgt := 2751) F dL_law_1322 (by decide) ?_
    exact ml_wid (by omega) (by omega) (ml_sub [2, 3, 4, 5, 6, 7] rfl K)
set_option maxHeartbeats 4000000 in
set_option maxRecDepth 100000 in
theorem lwc_17 {E : ml_E} {g : ml_G} {lv mc ms k n b L i0 : Nat} {ret : Option FieldType} {tb : List ExceptionTableEntry} {xs : Nat → Int32} {i : Int32} {Q : State → Prop} {M M1 M2 : ml_M} {r9 : Int32} (hst : g.2.2.2.2.2.stackTraces = false) (F : ml_F E g cL_law RL 10 lv mc ms ret tb) (S : ml_S E g b L xs) (hi : lw_ix i i0 L) (hlv : 20 ≤ lv) (hk : k + 2 ≤ mc) (hn2 : n + 12 ≤ ms) (hX : fX6_rain M = some (.inl r9, M1)) (hM : fX7_rain M1 = some (.inl r9, M2)) (K : ml_J E g 10 Q (k + 2) (n + 12) 2751 [(5, .int i), (4, ml_rf g 182), (3, ml_rf g 181), (2, ml_rf g 11), (1, ml_rf g 0), (0, .ref b)] [] M2) : ml_J E g 10 Q k n 1325 [(5, .int i), (4, ml_rf g 182), (3, ml_rf g 181), (2, ml_rf g 11), (1, ml_rf g 0), (0, .ref b)] [] M := by
  refine ml_aload_n (q := 4) F dL_law_1325 rfl rfl ?_
  refine ml_callVQ (r8 := r9) (M8 := M1) (vl2 := (fun r _ => some (.int r))) (av := []) (st := []) (kb := 0) (ci := 10) (T := TX6) (N := 9) F (pc0 g) rfl (fX6_rain_c M _ hst hX) wcX6_rain mlL_209 wdX6_rain (by omega) (by omega) (by omega) rfl seX6_rain imX6_rain rfl (Nat.le_of_ble_eq_true rfl) dL_law_1326 ?_
  refine ml_aload_n (q := 3) F dL_law_1329 rfl rfl ?_
  refine ml_callVQ (r8 := r9) (M8 := M2) (vl2 := (fun r _ => some (.int r))) (av := []) (st := [.int r9]) (kb := 11) (ci := 11) (T := TX7) (N := 16) F (pc11 g) rfl (fX7_rain_c M1 _ hst hM) wcX7_rain mlL_212 wdX7_rain (by omega) (by omega) (by omega) rfl seX7_rain imX7_rain rfl (Nat.le_of_ble_eq_true rfl) dL_law_1330 ?_
  refine ml_icmp_eqT (tgt := 2751) F dL_law_1333 (by decide) rfl ?_
  exact ml_wid (by omega) (by omega) (ml_sub [0, 1, 2, 3, 4, 5] rfl K)
set_option maxHeartbeats 4000000 in
set_option maxRecDepth 100000 in
theorem lwc_18 {E : ml_E} {g : ml_G} {lv mc ms k n b L i0 : Nat} {ret : Option FieldType} {tb : List ExceptionTableEntry} {xs : Nat → Int32} {i : Int32} {Q : State → Prop} {M M1 M2 : ml_M} {r9 : Int32} (hst : g.2.2.2.2.2.stackTraces = false) (F : ml_F E g cL_law RL 10 lv mc ms ret tb) (S : ml_S E g b L xs) (hi : lw_ix i i0 L) (hlv : 20 ≤ lv) (hk : k + 2 ≤ mc) (hn2 : n + 12 ≤ ms) (hX : fX6_drain M = some (.inl r9, M1)) (hM : fX7_drain M1 = some (.inl r9, M2)) (K : ml_J E g 10 Q (k + 2) (n + 12) 2751 [(5, .int i), (4, ml_rf g 182), (3, ml_rf g 181), (2, ml_rf g 11), (1, ml_rf g 0), (0, .ref b)] [] M2) : ml_J E g 10 Q k n 1338 [(5, .int i), (4, ml_rf g 182), (3, ml_rf g 181), (2, ml_rf g 11), (1, ml_rf g 0), (0, .ref b)] [] M := by
  refine ml_aload_n (q := 4) F dL_law_1338 rfl rfl ?_
  refine ml_callVQ (r8 := r9) (M8 := M1) (vl2 := (fun r _ => some (.int r))) (av := []) (st := []) (kb := 0) (ci := 10) (T := TX6) (N := 9) F (pc0 g) rfl (fX6_drain_c M _ hst hX) wcX6_drain mlL_213 wdX6_drain (by omega) (by omega) (by omega) rfl seX6_drain imX6_drain rfl (Nat.le_of_ble_eq_true rfl) dL_law_1339 ?_
  refine ml_aload_n (q := 3) F dL_law_1342 rfl rfl ?_
  refine ml_callVQ (r8 := r9) (M8 := M2) (vl2 := (fun r _ => some (.int r))) (av := []) (st := [.int r9]) (kb := 11) (ci := 11) (T := TX7) (N := 16) F (pc11 g) rfl (fX7_drain_c M1 _ hst hM) wcX7_drain mlL_216 wdX7_drain (by omega) (by omega) (by omega) rfl seX7_drain imX7_drain rfl (Nat.le_of_ble_eq_true rfl) dL_law_1343 ?_
  refine ml_icmp_eqT (tgt := 2751) F dL_law_1346 (by decide) rfl ?_
  exact ml_wid (by omega) (by omega) (ml_sub [0, 1, 2, 3, 4, 5] rfl K)
set_option maxHeartbeats 4000000 in
set_option maxRecDepth 100000 in
theorem lwc_19 {E : ml_E} {g : ml_G} {lv mc ms k n b L i0 : Nat} {ret : Option FieldType} {tb : List ExceptionTableEntry} {xs : Nat → Int32} {i : Int32} {Q : State → Prop} {M M1 M2 : ml_M} {r9 : Int32} (hst : g.2.2.2.2.2.stackTraces = false) (F : ml_F E g cL_law RL 10 lv mc ms ret tb) (S : ml_S E g b L xs) (hi : lw_ix i i0 L) (hlv : 20 ≤ lv) (hk : k + 2 ≤ mc) (hn2 : n + 12 ≤ ms) (hX : fX6_totalVolume M = some (.inl r9, M1)) (hM : fX7_totalVolume M1 = some (.inl r9, M2)) (K : ml_J E g 10 Q (k + 2) (n + 12) 2751 [(5, .int i), (4, ml_rf g 182), (3, ml_rf g 181), (2, ml_rf g 11), (1, ml_rf g 0), (0, .ref b)] [] M2) : ml_J E g 10 Q k n 1351 [(5, .int i), (4, ml_rf g 182), (3, ml_rf g 181), (2, ml_rf g 11), (1, ml_rf g 0), (0, .ref b)] [] M := by
  refine ml_aload_n (q := 4) F dL_law_1351 rfl rfl ?_
  refine ml_callVQ (r8 := r9) (M8 := M1) (vl2 := (fun r _ => some (.int r))) (av := []) (st := []) (kb := 0) (ci := 10) (T := TX6) (N := 9) F (pc0 g) rfl (fX6_totalVolume_c M _ hst hX) wcX6_totalVolume mlL_217 wdX6_totalVolume (by omega) (by omega) (by omega) rfl seX6_totalVolume imX6_totalVolume rfl (Nat.le_of_ble_eq_true rfl) dL_law_1352 ?_
  refine ml_aload_n (q := 3) F dL_law_1355 rfl rfl ?_
  refine ml_callVQ (r8 := r9) (M8 := M2) (vl2 := (fun r _ => some (.int r))) (av := []) (st := [.int r9]) (kb := 11) (ci := 11) (T := TX7) (N := 16) F (pc11 g) rfl (fX7_totalVolume_c M1 _ hst hM) wcX7_totalVolume mlL_220 wdX7_totalVolume (by omega) (by omega) (by omega) rfl seX7_totalVolume imX7_totalVolume rfl (Nat.le_of_ble_eq_true rfl) dL_law_1356 ?_
  refine ml_icmp_eqT (tgt := 2751) F dL_law_1359 (by decide) rfl ?_
  exact ml_wid (by omega) (by omega) (ml_sub [0, 1, 2, 3, 4, 5] rfl K)
set_option maxHeartbeats 4000000 in
set_option maxRecDepth 100000 in
theorem lwc_20 {E : ml_E} {g : ml_G} {lv mc ms k n b L i0 : Nat} {ret : Option FieldType} {tb : List ExceptionTableEntry} {xs : Nat → Int32} {i : Int32} {Q : State → Prop} {M M1 M2 : ml_M} {r9 : Int32} (hst : g.2.2.2.2.2.stackTraces = false) (F : ml_F E g cL_law RL 10 lv mc ms ret tb) (S : ml_S E g b L xs) (hi : lw_ix i i0 L) (hlv : 20 ≤ lv) (hk : k + 2 ≤ mc) (hn2 : n + 12 ≤ ms) (hX : fX6_totalVolumeByAccounts M = some (.inl r9, M1)) (hM : fX7_totalVolumeByAccounts M1 = some (.inl r9, M2)) (K : ml_J E g 10 Q (k + 2) (n + 12) 2751 [(5, .int i), (4, ml_rf g 182), (3, ml_rf g 181), (2, ml_rf g 11), (1, ml_rf g 0), (0, .ref b)] [] M2) : ml_J E g 10 Q k n 1364 [(5, .int i), (4, ml_rf g 182), (3, ml_rf g 181), (2, ml_rf g 11), (1, ml_rf g 0), (0, .ref b)] [] M := by
  refine ml_aload_n (q := 4) F dL_law_1364 rfl rfl ?_
  refine ml_callVQ (r8 := r9) (M8 := M1) (vl2 := (fun r _ => some (.int r))) (av := []) (st := []) (kb := 0) (ci := 10) (T := TX6) (N := 9) F (pc0 g) rfl (fX6_totalVolumeByAccounts_c M _ hst hX) wcX6_totalVolumeByAccounts mlL_221 wdX6_totalVolumeByAccounts (by omega) (by omega) (by omega) rfl seX6_totalVolumeByAccounts imX6_totalVolumeByAccounts rfl (Nat.le_of_ble_eq_true rfl) dL_law_1365 ?_
  refine ml_aload_n (q := 3) F dL_law_1368 rfl rfl ?_
  refine ml_callVQ (r8 := r9) (M8 := M2) (vl2 := (fun r _ => some (.int r))) (av := []) (st := [.int r9]) (kb := 11) (ci := 11) (T := TX7) (N := 16) F (pc11 g) rfl (fX7_totalVolumeByAccounts_c M1 _ hst hM) wcX7_totalVolumeByAccounts mlL_224 wdX7_totalVolumeByAccounts (by omega) (by omega) (by omega) rfl seX7_totalVolumeByAccounts imX7_totalVolumeByAccounts rfl (Nat.le_of_ble_eq_true rfl) dL_law_1369 ?_
  refine ml_icmp_eqT (tgt := 2751) F dL_law_1372 (by decide) rfl ?_
  exact ml_wid (by omega) (by omega) (ml_sub [0, 1, 2, 3, 4, 5] rfl K)
set_option maxHeartbeats 4000000 in
set_option maxRecDepth 100000 in
theorem lwc_21 {E : ml_E} {g : ml_G} {lv mc ms k n b L i0 : Nat} {ret : Option FieldType} {tb : List ExceptionTableEntry} {xs : Nat → Int32} {i : Int32} {Q : State → Prop} {M M1 M2 : ml_M} {r9 : Int32} (hst : g.2.2.2.2.2.stackTraces = false) (F : ml_F E g cL_law RL 10 lv mc ms ret tb) (S : ml_S E g b L xs) (hi : lw_ix i i0 L) (hlv : 20 ≤ lv) (hk : k + 2 ≤ mc) (hn2 : n + 12 ≤ ms) (hX : fX6_rainTotal M = some (.inl r9, M1)) (hM : fX7_rainTotal M1 = some (.inl r9, M2)) (K : ml_J E g 10 Q (k + 2) (n + 12) 2751 [(5, .int i), (4, ml_rf g 182), (3, ml_rf g 181), (2, ml_rf g 11), (1, ml_rf g 0), (0, .ref b)] [] M2) : ml_J E g 10 Q k n 1377 [(5, .int i), (4, ml_rf g 182), (3, ml_rf g 181), (2, ml_rf g 11), (1, ml_rf g 0), (0, .ref b)] [] M := by
  refine ml_aload_n (q := 4) F dL_law_1377 rfl rfl ?_
  refine ml_callVQ (r8 := r9) (M8 := M1) (vl2 := (fun r _ => some (.int r))) (av := []) (st := []) (kb := 0) (ci := 10) (T := TX6) (N := 9) F (pc0 g) rfl (fX6_rainTotal_c M _ hst hX) wcX6_rainTotal mlL_225 wdX6_rainTotal (by omega) (by omega) (by omega) rfl seX6_rainTotal imX6_rainTotal rfl (Nat.le_of_ble_eq_true rfl) dL_law_1378 ?_
  refine ml_aload_n (q := 3) F dL_law_1381 rfl rfl ?_
  refine ml_callVQ (r8 := r9) (M8 := M2) (vl2 := (fun r _ => some (.int r))) (av := []) (st := [.int r9]) (kb := 11) (ci := 11) (T := TX7) (N := 16) F (pc11 g) rfl (fX7_rainTotal_c M1 _ hst hM) wcX7_rainTotal mlL_228 wdX7_rainTotal (by omega) (by omega) (by omega) rfl seX7_rainTotal imX7_rainTotal rfl (Nat.le_of_ble_eq_true rfl) dL_law_1382 ?_
  refine ml_icmp_eqT (tgt := 2751) F dL_law_1385 (by decide) rfl ?_
  exact ml_wid (by omega) (by omega) (ml_sub [0, 1, 2, 3, 4, 5] rfl K)
set_option maxHeartbeats 4000000 in
set_option maxRecDepth 100000 in
theorem lwc_22 {E : ml_E} {g : ml_G} {lv mc ms k n b L i0 : Nat} {ret : Option FieldType} {tb : List ExceptionTableEntry} {xs : Nat → Int32} {i : Int32} {Q : State → Prop} {M M1 M2 : ml_M} {r9 : Int32} (hst : g.2.2.2.2.2.stackTraces = false) (F : ml_F E g cL_law RL 10 lv mc ms ret tb) (S : ml_S E g b L xs) (hi : lw_ix i i0 L) (hlv : 20 ≤ lv) (hk : k + 2 ≤ mc) (hn2 : n + 12 ≤ ms) (hX : fX6_drainTotal M = some (.inl r9, M1)) (hM : fX7_drainTotal M1 = some (.inl r9, M2)) (K : ml_J E g 10 Q (k + 2) (n + 12) 2751 [(5, .int i), (4, ml_rf g 182), (3, ml_rf g 181), (2, ml_rf g 11), (1, ml_rf g 0), (0, .ref b)] [] M2) : ml_J E g 10 Q k n 1390 [(5, .int i), (4, ml_rf g 182), (3, ml_rf g 181), (2, ml_rf g 11), (1, ml_rf g 0), (0, .ref b)] [] M := by
  refine ml_aload_n (q := 4) F dL_law_1390 rfl rfl ?_
  refine ml_callVQ (r8 := r9) (M8 := M1) (vl2 := (fun r _ => some (.int r))) (av := []) (st := []) (kb := 0) (ci := 10) (T := TX6) (N := 9) F (pc0 g) rfl (fX6_drainTotal_c M _ hst hX) wcX6_drainTotal mlL_229 wdX6_drainTotal (by omega) (by omega) (by omega) rfl seX6_drainTotal imX6_drainTotal rfl (Nat.le_of_ble_eq_true rfl) dL_law_1391 ?_
  refine ml_aload_n (q := 3) F dL_law_1394 rfl rfl ?_
  refine ml_callVQ (r8 := r9) (M8 := M2) (vl2 := (fun r _ => some (.int r))) (av := []) (st := [.int r9]) (kb := 11) (ci := 11) (T := TX7) (N := 16) F (pc11 g) rfl (fX7_drainTotal_c M1 _ hst hM) wcX7_drainTotal mlL_232 wdX7_drainTotal (by omega) (by omega) (by omega) rfl seX7_drainTotal imX7_drainTotal rfl (Nat.le_of_ble_eq_true rfl) dL_law_1395 ?_
  refine ml_icmp_eqT (tgt := 2751) F dL_law_1398 (by decide) rfl ?_
  exact ml_wid (by omega) (by omega) (ml_sub [0, 1, 2, 3, 4, 5] rfl K)
set_option maxHeartbeats 4000000 in
set_option maxRecDepth 100000 in
theorem lwc_23 {E : ml_E} {g : ml_G} {lv mc ms k n b L i0 : Nat} {ret : Option FieldType} {tb : List ExceptionTableEntry} {xs : Nat → Int32} {i : Int32} {Q : State → Prop} {M M1 M2 : ml_M} {r9 : Int32} (hst : g.2.2.2.2.2.stackTraces = false) (F : ml_F E g cL_law RL 10 lv mc ms ret tb) (S : ml_S E g b L xs) (hi : lw_ix i i0 L) (hlv : 20 ≤ lv) (hk : k + 2 ≤ mc) (hn2 : n + 12 ≤ ms) (hX : fX6_spilledTotal M = some (.inl r9, M1)) (hM : fX7_spilledTotal M1 = some (.inl r9, M2)) (K : ml_J E g 10 Q (k + 2) (n + 12) 2751 [(5, .int i), (4, ml_rf g 182), (3, ml_rf g 181), (2, ml_rf g 11), (1, ml_rf g 0), (0, .ref b)] [] M2) : ml_J E g 10 Q k n 1403 [(5, .int i), (4, ml_rf g 182), (3, ml_rf g 181), (2, ml_rf g 11), (1, ml_rf g 0), (0, .ref b)] [] M := by
  refine ml_aload_n (q := 4) F dL_law_1403 rfl rfl ?_
  refine ml_callVQ (r8 := r9) (M8 := M1) (vl2 := (fun r _ => some (.int r))) (av := []) (st := []) (kb := 0) (ci := 10) (T := TX6) (N := 9) F (pc0 g) rfl (fX6_spilledTotal_c M _ hst hX) wcX6_spilledTotal mlL_233 wdX6_spilledTotal (by omega) (by omega) (by omega) rfl seX6_spilledTotal imX6_spilledTotal rfl (Nat.le_of_ble_eq_true rfl) dL_law_1404 ?_
  refine ml_aload_n (q := 3) F dL_law_1407 rfl rfl ?_
  refine ml_callVQ (r8 := r9) (M8 := M2) (vl2 := (fun r _ => some (.int r))) (av := []) (st := [.int r9]) (kb := 11) (ci := 11) (T := TX7) (N := 16) F (pc11 g) rfl (fX7_spilledTotal_c M1 _ hst hM) wcX7_spilledTotal mlL_236 wdX7_spilledTotal (by omega) (by omega) (by omega) rfl seX7_spilledTotal imX7_spilledTotal rfl (Nat.le_of_ble_eq_true rfl) dL_law_1408 ?_
  refine ml_icmp_eqT (tgt := 2751) F dL_law_1411 (by decide) rfl ?_
  exact ml_wid (by omega) (by omega) (ml_sub [0, 1, 2, 3, 4, 5] rfl K)
set_option maxHeartbeats 4000000 in
set_option maxRecDepth 100000 in
theorem lwc_24 {E : ml_E} {g : ml_G} {lv mc ms k n b L i0 : Nat} {ret : Option FieldType} {tb : List ExceptionTableEntry} {xs : Nat → Int32} {i : Int32} {Q : State → Prop} {M M1 M2 M3 : ml_M} {k9 b9 : Int32} (hst : g.2.2.2.2.2.stackTraces = false) (F : ml_F E g cL_law RL 10 lv mc ms ret tb) (S : ml_S E g b L xs) (hi : lw_ix i i0 L) (hlv : 20 ≤ lv) (hk : k + 2 ≤ mc) (hn2 : n + 12 ≤ ms) (hW : fL_basinByLevel ((xs (i0 + 1))) M = some (.inl k9, M1)) (hM : fX7_basinByLevel ((xs (i0 + 1))) M1 = some (.inl b9, M2)) (hT : fX7_thrown M2 = some (.inl k9, M3)) (hE : k9 = 0 → M3 181 0 = b9) (K : ml_J E g 10 Q (k + 2) (n + 12) 2751 [(5, .int i), (4, ml_rf g 182), (3, ml_rf g 181), (2, ml_rf g 11), (1, ml_rf g 0), (0, .ref b)] [] M3) : ml_J E g 10 Q k n 1416 [(5, .int i), (4, ml_rf g 182), (3, ml_rf g 181), (2, ml_rf g 11), (1, ml_rf g 0), (0, .ref b)] [] M := by
  refine ml_aload_n (q := 4) F dL_law_1416 rfl rfl ?_
  refine ml_aload_n (q := 5) F dL_law_1417 rfl rfl ?_
  refine ml_iload (q := 0) F dL_law_1418 rfl ?_
  refine ml_iconst (v := 1) F dL_law_1420 (by decide) ?_
  refine ml_iadd F dL_law_1421 ?_
  refine ml_scld (j := i0 + 1) (x := xs (i0 + 1)) F S hi.2.1.1 hi.2.1.2.1 hi.2.1.2.2 rfl dL_law_1422 ?_
  refine ml_aload_n (q := 2) F dL_law_1423 rfl rfl ?_
  refine ml_callSQ (hh := [(0, 9, 12, 77)]) (r8 := k9) (M8 := M1) (vl2 := fun r _ => some (.int r)) (av := [ml_rf g 0, .int (xs (i0 + 1)), ml_rf g 181]) (st := []) F (fL_basinByLevel_c ((xs (i0 + 1))) M _ hst hW) wcL_basinByLevel mlL_237 wdL_basinByLevel (by omega) (by omega) (by omega) rfl stL_basinByLevel rfl (Nat.le_of_ble_eq_true rfl) dL_law_1424 ?_
  refine ml_istore (ls2 := [(6, .int k9), (5, .int i), (4, ml_rf g 182), (3, ml_rf g 181), (2, ml_rf g 11), (1, ml_rf g 0), (0, .ref b)]) F dL_law_1427 (by decide) rfl ?_
  refine ml_aload_n (q := 4) F dL_law_1429 rfl rfl ?_
  refine ml_aload_n (q := 6) F dL_law_1430 rfl rfl ?_
  refine ml_iload (q := 1) F dL_law_1431 rfl ?_
  refine ml_iconst (v := 1) F dL_law_1433 (by decide) ?_
  refine ml_iadd F dL_law_1434 ?_
  refine ml_scld (j := i0 + 1) (x := xs (i0 + 1)) F S hi.2.1.1 hi.2.1.2.1 hi.2.1.2.2 rfl dL_law_1435 ?_
  refine ml_callVQ (r8 := b9) (M8 := M2) (vl2 := (fun r _ => some (.int r))) (av := [.int (xs (i0 + 1))]) (st := []) (kb := 11) (ci := 11) (T := TX7) (N := 16) F (pc11 g) rfl (fX7_basinByLevel_c ((xs (i0 + 1))) M1 _ hst hM) wcX7_basinByLevel mlL_239 wdX7_basinByLevel (by omega) (by omega) (by omega) rfl seX7_basinByLevel imX7_basinByLevel rfl (Nat.le_of_ble_eq_true rfl) dL_law_1436 ?_
  refine ml_istore (ls2 := [(7, .int b9), (6, .int k9), (5, .int i), (4, ml_rf g 182), (3, ml_rf g 181), (2, ml_rf g 11), (1, ml_rf g 0), (0, .ref b)]) F dL_law_1439 (by decide) rfl ?_
  refine ml_aload_n (q := 5) F dL_law_1441 rfl rfl ?_
  refine ml_callVQ (r8 := k9) (M8 := M3) (vl2 := (fun r _ => some (.int r))) (av := []) (st := []) (kb := 11) (ci := 11) (T := TX7) (N := 16) F (pc11 g) rfl (fX7_thrown_c M2 _ hst hT) wcX7_thrown mlL_155 wdX7_thrown (by omega) (by omega) (by omega) rfl seX7_thrown imX7_thrown rfl (Nat.le_of_ble_eq_true rfl) dL_law_1442 ?_
  refine ml_iload (q := 1) F dL_law_1445 rfl ?_
  refine ml_icmp_eqT (tgt := 1452) F dL_law_1447 (by decide) rfl ?_
  refine ml_iload (q := 1) F dL_law_1452 rfl ?_
  by_cases hk0 : k9 = 0
  · refine ml_if_neF (tgt := 1469) F dL_law_1454 (by decide) hk0 ?_
    refine ml_aload_n (q := 4) F dL_law_1457 rfl rfl ?_
    refine ml_iconst (v := 0) F dL_law_1458 (by decide) ?_
    refine ml_lald F dL_law_1459 ?_
    refine ml_iload (q := 0) F dL_law_1460 rfl ?_
    refine ml_i2l F dL_law_1462 ?_
    refine ml_lcmp0 F dL_law_1463 (by rw [hE hk0]) ?_
    refine ml_if_eqT (tgt := 1469) F dL_law_1464 (by decide) rfl ?_
    refine ml_goto (tgt := 2751) F dL_law_1469 (by decide) ?_
    exact ml_wid (by omega) (by omega) (ml_sub [2, 3, 4, 5, 6, 7] rfl K)
  · refine ml_if_neT (tgt := 1469) F dL_law_1454 (by decide) hk0 ?_
    refine ml_goto (tgt := 2751) F dL_law_1469 (by decide) ?_
    exact ml_wid (by omega) (by omega) (ml_sub [2, 3, 4, 5, 6, 7] rfl K)
set_option maxHeartbeats 4000000 in
set_option maxRecDepth 100000 in
theorem lwc_25 {E : ml_E} {g : ml_G} {lv mc ms k n b L i0 : Nat} {ret : Option FieldType} {tb : List ExceptionTableEntry} {xs : Nat → Int32} {i : Int32} {Q : State → Prop} {M M1 M2 : ml_M} {r9 : Int32} (hst : g.2.2.2.2.2.stackTraces = false) (F : ml_F E g cL_law RL 10 lv mc ms ret tb) (S : ml_S E g b L xs) (hi : lw_ix i i0 L) (hlv : 20 ≤ lv) (hk : k + 2 ≤ mc) (hn2 : n + 12 ≤ ms) (hX : fX6_boatCount M = some (.inl r9, M1)) (hM : fX7_boatCount M1 = some (.inl r9, M2)) (K : ml_J E g 10 Q (k + 2) (n + 12) 2751 [(5, .int i), (4, ml_rf g 182), (3, ml_rf g 181), (2, ml_rf g 11), (1, ml_rf g 0), (0, .ref b)] [] M2) : ml_J E g 10 Q k n 1472 [(5, .int i), (4, ml_rf g 182), (3, ml_rf g 181), (2, ml_rf g 11), (1, ml_rf g 0), (0, .ref b)] [] M := by
  refine ml_aload_n (q := 4) F dL_law_1472 rfl rfl ?_
  refine ml_callVQ (r8 := r9) (M8 := M1) (vl2 := (fun r _ => some (.int r))) (av := []) (st := []) (kb := 0) (ci := 10) (T := TX6) (N := 9) F (pc0 g) rfl (fX6_boatCount_c M _ hst hX) wcX6_boatCount mlL_240 wdX6_boatCount (by omega) (by omega) (by omega) rfl seX6_boatCount imX6_boatCount rfl (Nat.le_of_ble_eq_true rfl) dL_law_1473 ?_
  refine ml_aload_n (q := 3) F dL_law_1476 rfl rfl ?_
  refine ml_callVQ (r8 := r9) (M8 := M2) (vl2 := (fun r _ => some (.int r))) (av := []) (st := [.int r9]) (kb := 11) (ci := 11) (T := TX7) (N := 16) F (pc11 g) rfl (fX7_boatCount_c M1 _ hst hM) wcX7_boatCount mlL_243 wdX7_boatCount (by omega) (by omega) (by omega) rfl seX7_boatCount imX7_boatCount rfl (Nat.le_of_ble_eq_true rfl) dL_law_1477 ?_
  refine ml_icmp_eqT (tgt := 2751) F dL_law_1480 (by decide) rfl ?_
  exact ml_wid (by omega) (by omega) (ml_sub [0, 1, 2, 3, 4, 5] rfl K)
set_option maxHeartbeats 4000000 in
set_option maxRecDepth 100000 in
theorem lwc_26 {E : ml_E} {g : ml_G} {lv mc ms k n b L i0 : Nat} {ret : Option FieldType} {tb : List ExceptionTableEntry} {xs : Nat → Int32} {i : Int32} {Q : State → Prop} {M M1 M2 M3 : ml_M} {k9 b9 : Int32} (hst : g.2.2.2.2.2.stackTraces = false) (F : ml_F E g cL_law RL 10 lv mc ms ret tb) (S : ml_S E g b L xs) (hi : lw_ix i i0 L) (hlv : 20 ≤ lv) (hk : k + 2 ≤ mc) (hn2 : n + 12 ≤ ms) (hW : fL_colour ((xs (i0 + 1))) M = some (.inl k9, M1)) (hM : fX7_colour ((xs (i0 + 1))) M1 = some (.inl b9, M2)) (hT : fX7_thrown M2 = some (.inl k9, M3)) (hE : k9 = 0 → M3 181 0 = b9) (K : ml_J E g 10 Q (k + 2) (n + 12) 2751 [(5, .int i), (4, ml_rf g 182), (3, ml_rf g 181), (2, ml_rf g 11), (1, ml_rf g 0), (0, .ref b)] [] M3) : ml_J E g 10 Q k n 1485 [(5, .int i), (4, ml_rf g 182), (3, ml_rf g 181), (2, ml_rf g 11), (1, ml_rf g 0), (0, .ref b)] [] M := by
  refine ml_aload_n (q := 4) F dL_law_1485 rfl rfl ?_
  refine ml_aload_n (q := 5) F dL_law_1486 rfl rfl ?_
  refine ml_iload (q := 0) F dL_law_1487 rfl ?_
  refine ml_iconst (v := 1) F dL_law_1489 (by decide) ?_
  refine ml_iadd F dL_law_1490 ?_
  refine ml_scld (j := i0 + 1) (x := xs (i0 + 1)) F S hi.2.1.1 hi.2.1.2.1 hi.2.1.2.2 rfl dL_law_1491 ?_
  refine ml_aload_n (q := 2) F dL_law_1492 rfl rfl ?_
  refine ml_callSQ (hh := [(0, 9, 12, 21)]) (r8 := k9) (M8 := M1) (vl2 := fun r _ => some (.int r)) (av := [ml_rf g 0, .int (xs (i0 + 1)), ml_rf g 181]) (st := []) F (fL_colour_c ((xs (i0 + 1))) M _ hst hW) wcL_colour mlL_244 wdL_colour (by omega) (by omega) (by omega) rfl stL_colour rfl (Nat.le_of_ble_eq_true rfl) dL_law_1493 ?_
  refine ml_istore (ls2 := [(6, .int k9), (5, .int i), (4, ml_rf g 182), (3, ml_rf g 181), (2, ml_rf g 11), (1, ml_rf g 0), (0, .ref b)]) F dL_law_1496 (by decide) rfl ?_
  refine ml_aload_n (q := 4) F dL_law_1498 rfl rfl ?_
  refine ml_aload_n (q := 6) F dL_law_1499 rfl rfl ?_
  refine ml_iload (q := 1) F dL_law_1500 rfl ?_
  refine ml_iconst (v := 1) F dL_law_1502 (by decide) ?_
  refine ml_iadd F dL_law_1503 ?_
  refine ml_scld (j := i0 + 1) (x := xs (i0 + 1)) F S hi.2.1.1 hi.2.1.2.1 hi.2.1.2.2 rfl dL_law_1504 ?_
  refine ml_callVQ (r8 := b9) (M8 := M2) (vl2 := (fun r _ => some (.int r))) (av := [.int (xs (i0 + 1))]) (st := []) (kb := 11) (ci := 11) (T := TX7) (N := 16) F (pc11 g) rfl (fX7_colour_c ((xs (i0 + 1))) M1 _ hst hM) wcX7_colour mlL_246 wdX7_colour (by omega) (by omega) (by omega) rfl seX7_colour imX7_colour rfl (Nat.le_of_ble_eq_true rfl) dL_law_1505 ?_
  refine ml_istore (ls2 := [(7, .int b9), (6, .int k9), (5, .int i), (4, ml_rf g 182), (3, ml_rf g 181), (2, ml_rf g 11), (1, ml_rf g 0), (0, .ref b)]) F dL_law_1508 (by decide) rfl ?_
  refine ml_aload_n (q := 5) F dL_law_1510 rfl rfl ?_
  refine ml_callVQ (r8 := k9) (M8 := M3) (vl2 := (fun r _ => some (.int r))) (av := []) (st := []) (kb := 11) (ci := 11) (T := TX7) (N := 16) F (pc11 g) rfl (fX7_thrown_c M2 _ hst hT) wcX7_thrown mlL_155 wdX7_thrown (by omega) (by omega) (by omega) rfl seX7_thrown imX7_thrown rfl (Nat.le_of_ble_eq_true rfl) dL_law_1511 ?_
  refine ml_iload (q := 1) F dL_law_1514 rfl ?_
  refine ml_icmp_eqT (tgt := 1521) F dL_law_1516 (by decide) rfl ?_
  refine ml_iload (q := 1) F dL_law_1521 rfl ?_
  by_cases hk0 : k9 = 0
  · refine ml_if_neF (tgt := 1538) F dL_law_1523 (by decide) hk0 ?_
    refine ml_aload_n (q := 4) F dL_law_1526 rfl rfl ?_
    refine ml_iconst (v := 0) F dL_law_1527 (by decide) ?_
    refine ml_lald F dL_law_1528 ?_
    refine ml_iload (q := 0) F dL_law_1529 rfl ?_
    refine ml_i2l F dL_law_1531 ?_
    refine ml_lcmp0 F dL_law_1532 (by rw [hE hk0]) ?_
    refine ml_if_eqT (tgt := 1538) F dL_law_1533 (by decide) rfl ?_
    refine ml_goto (tgt := 2751) F dL_law_1538 (by decide) ?_
    exact ml_wid (by omega) (by omega) (ml_sub [2, 3, 4, 5, 6, 7] rfl K)
  · refine ml_if_neT (tgt := 1538) F dL_law_1523 (by decide) hk0 ?_
    refine ml_goto (tgt := 2751) F dL_law_1538 (by decide) ?_
    exact ml_wid (by omega) (by omega) (ml_sub [2, 3, 4, 5, 6, 7] rfl K)
set_option maxHeartbeats 4000000 in
set_option maxRecDepth 100000 in
theorem lwc_27 {E : ml_E} {g : ml_G} {lv mc ms k n b L i0 : Nat} {ret : Option FieldType} {tb : List ExceptionTableEntry} {xs : Nat → Int32} {i : Int32} {Q : State → Prop} {M M1 M2 M3 : ml_M} {k9 b9 : Int32} (hst : g.2.2.2.2.2.stackTraces = false) (F : ml_F E g cL_law RL 10 lv mc ms ret tb) (S : ml_S E g b L xs) (hi : lw_ix i i0 L) (hlv : 20 ≤ lv) (hk : k + 2 ≤ mc) (hn2 : n + 12 ≤ ms) (hW : fL_draught ((xs (i0 + 1))) M = some (.inl k9, M1)) (hM : fX7_draught ((xs (i0 + 1))) M1 = some (.inl b9, M2)) (hT : fX7_thrown M2 = some (.inl k9, M3)) (hE : k9 = 0 → M3 181 0 = b9) (K : ml_J E g 10 Q (k + 2) (n + 12) 2751 [(5, .int i), (4, ml_rf g 182), (3, ml_rf g 181), (2, ml_rf g 11), (1, ml_rf g 0), (0, .ref b)] [] M3) : ml_J E g 10 Q k n 1541 [(5, .int i), (4, ml_rf g 182), (3, ml_rf g 181), (2, ml_rf g 11), (1, ml_rf g 0), (0, .ref b)] [] M := by
  refine ml_aload_n (q := 4) F dL_law_1541 rfl rfl ?_
  refine ml_aload_n (q := 5) F dL_law_1542 rfl rfl ?_
  refine ml_iload (q := 0) F dL_law_1543 rfl ?_
  refine ml_iconst (v := 1) F dL_law_1545 (by decide) ?_
  refine ml_iadd F dL_law_1546 ?_
  refine ml_scld (j := i0 + 1) (x := xs (i0 + 1)) F S hi.2.1.1 hi.2.1.2.1 hi.2.1.2.2 rfl dL_law_1547 ?_
  refine ml_aload_n (q := 2) F dL_law_1548 rfl rfl ?_
  refine ml_callSQ (hh := [(0, 9, 12, 21)]) (r8 := k9) (M8 := M1) (vl2 := fun r _ => some (.int r)) (av := [ml_rf g 0, .int (xs (i0 + 1)), ml_rf g 181]) (st := []) F (fL_draught_c ((xs (i0 + 1))) M _ hst hW) wcL_draught mlL_247 wdL_draught (by omega) (by omega) (by omega) rfl stL_draught rfl (Nat.le_of_ble_eq_true rfl) dL_law_1549 ?_
  refine ml_istore (ls2 := [(6, .int k9), (5, .int i), (4, ml_rf g 182), (3, ml_rf g 181), (2, ml_rf g 11), (1, ml_rf g 0), (0, .ref b)]) F dL_law_1552 (by decide) rfl ?_
  refine ml_aload_n (q := 4) F dL_law_1554 rfl rfl ?_
  refine ml_aload_n (q := 6) F dL_law_1555 rfl rfl ?_
  refine ml_iload (q := 1) F dL_law_1556 rfl ?_
  refine ml_iconst (v := 1) F dL_law_1558 (by decide) ?_
  refine ml_iadd F dL_law_1559 ?_
  refine ml_scld (j := i0 + 1) (x := xs (i0 + 1)) F S hi.2.1.1 hi.2.1.2.1 hi.2.1.2.2 rfl dL_law_1560 ?_
  refine ml_callVQ (r8 := b9) (M8 := M2) (vl2 := (fun r _ => some (.int r))) (av := [.int (xs (i0 + 1))]) (st := []) (kb := 11) (ci := 11) (T := TX7) (N := 16) F (pc11 g) rfl (fX7_draught_c ((xs (i0 + 1))) M1 _ hst hM) wcX7_draught mlL_249 wdX7_draught (by omega) (by omega) (by omega) rfl seX7_draught imX7_draught rfl (Nat.le_of_ble_eq_true rfl) dL_law_1561 ?_
  refine ml_istore (ls2 := [(7, .int b9), (6, .int k9), (5, .int i), (4, ml_rf g 182), (3, ml_rf g 181), (2, ml_rf g 11), (1, ml_rf g 0), (0, .ref b)]) F dL_law_1564 (by decide) rfl ?_
  refine ml_aload_n (q := 5) F dL_law_1566 rfl rfl ?_
  refine ml_callVQ (r8 := k9) (M8 := M3) (vl2 := (fun r _ => some (.int r))) (av := []) (st := []) (kb := 11) (ci := 11) (T := TX7) (N := 16) F (pc11 g) rfl (fX7_thrown_c M2 _ hst hT) wcX7_thrown mlL_155 wdX7_thrown (by omega) (by omega) (by omega) rfl seX7_thrown imX7_thrown rfl (Nat.le_of_ble_eq_true rfl) dL_law_1567 ?_
  refine ml_iload (q := 1) F dL_law_1570 rfl ?_
  refine ml_icmp_eqT (tgt := 1577) F dL_law_1572 (by decide) rfl ?_
  refine ml_iload (q := 1) F dL_law_1577 rfl ?_
  by_cases hk0 : k9 = 0
  · refine ml_if_neF (tgt := 1594) F dL_law_1579 (by decide) hk0 ?_
    refine ml_aload_n (q := 4) F dL_law_1582 rfl rfl ?_
    refine ml_iconst (v := 0) F dL_law_1583 (by decide) ?_
    refine ml_lald F dL_law_1584 ?_
    refine ml_iload (q := 0) F dL_law_1585 rfl ?_
    refine ml_i2l F dL_law_1587 ?_
    refine ml_lcmp0 F dL_law_1588 (by rw [hE hk0]) ?_
    refine ml_if_eqT (tgt := 1594) F dL_law_1589 (by decide) rfl ?_
    refine ml_goto (tgt := 2751) F dL_law_1594 (by decide) ?_
    exact ml_wid (by omega) (by omega) (ml_sub [2, 3, 4, 5, 6, 7] rfl K)
  · refine ml_if_neT (tgt := 1594) F dL_law_1579 (by decide) hk0 ?_
    refine ml_goto (tgt := 2751) F dL_law_1594 (by decide) ?_
    exact ml_wid (by omega) (by omega) (ml_sub [2, 3, 4, 5, 6, 7] rfl K)
set_option maxHeartbeats 4000000 in
set_option maxRecDepth 100000 in
theorem lwc_28 {E : ml_E} {g : ml_G} {lv mc ms k n b L i0 : Nat} {ret : Option FieldType} {tb : List ExceptionTableEntry} {xs : Nat → Int32} {i : Int32} {Q : State → Prop} {M M1 M2 M3 : ml_M} {k9 b9 : Int32} (hst : g.2.2.2.2.2.stackTraces = false) (F : ml_F E g cL_law RL 10 lv mc ms ret tb) (S : ml_S E g b L xs) (hi : lw_ix i i0 L) (hlv : 20 ≤ lv) (hk : k + 2 ≤ mc) (hn2 : n + 12 ≤ ms) (hW : fL_isGoingDown ((xs (i0 + 1))) M = some (.inl k9, M1)) (hM : fX7_isGoingDown ((xs (i0 + 1))) M1 = some (.inl b9, M2)) (hT : fX7_thrown M2 = some (.inl k9, M3)) (hE : k9 = 0 → M3 181 0 = lw_bz b9) (K : ml_J E g 10 Q (k + 2) (n + 12) 2751 [(5, .int i), (4, ml_rf g 182), (3, ml_rf g 181), (2, ml_rf g 11), (1, ml_rf g 0), (0, .ref b)] [] M3) : ml_J E g 10 Q k n 1597 [(5, .int i), (4, ml_rf g 182), (3, ml_rf g 181), (2, ml_rf g 11), (1, ml_rf g 0), (0, .ref b)] [] M := by
  refine ml_aload_n (q := 4) F dL_law_1597 rfl rfl ?_
  refine ml_aload_n (q := 5) F dL_law_1598 rfl rfl ?_
  refine ml_iload (q := 0) F dL_law_1599 rfl ?_
  refine ml_iconst (v := 1) F dL_law_1601 (by decide) ?_
  refine ml_iadd F dL_law_1602 ?_
  refine ml_scld (j := i0 + 1) (x := xs (i0 + 1)) F S hi.2.1.1 hi.2.1.2.1 hi.2.1.2.2 rfl dL_law_1603 ?_
  refine ml_aload_n (q := 2) F dL_law_1604 rfl rfl ?_
  refine ml_callSQ (hh := [(0, 16, 19, 21)]) (r8 := k9) (M8 := M1) (vl2 := fun r _ => some (.int r)) (av := [ml_rf g 0, .int (xs (i0 + 1)), ml_rf g 181]) (st := []) F (fL_isGoingDown_c ((xs (i0 + 1))) M _ hst hW) wcL_isGoingDown mlL_250 wdL_isGoingDown (by omega) (by omega) (by omega) rfl stL_isGoingDown rfl (Nat.le_of_ble_eq_true rfl) dL_law_1605 ?_
  refine ml_istore (ls2 := [(6, .int k9), (5, .int i), (4, ml_rf g 182), (3, ml_rf g 181), (2, ml_rf g 11), (1, ml_rf g 0), (0, .ref b)]) F dL_law_1608 (by decide) rfl ?_
  refine ml_aload_n (q := 4) F dL_law_1610 rfl rfl ?_
  refine ml_aload_n (q := 6) F dL_law_1611 rfl rfl ?_
  refine ml_iload (q := 1) F dL_law_1612 rfl ?_
  refine ml_iconst (v := 1) F dL_law_1614 (by decide) ?_
  refine ml_iadd F dL_law_1615 ?_
  refine ml_scld (j := i0 + 1) (x := xs (i0 + 1)) F S hi.2.1.1 hi.2.1.2.1 hi.2.1.2.2 rfl dL_law_1616 ?_
  refine ml_callVQ (r8 := b9) (M8 := M2) (vl2 := (fun r _ => some (.int r))) (av := [.int (xs (i0 + 1))]) (st := []) (kb := 11) (ci := 11) (T := TX7) (N := 16) F (pc11 g) rfl (fX7_isGoingDown_c ((xs (i0 + 1))) M1 _ hst hM) wcX7_isGoingDown mlL_252 wdX7_isGoingDown (by omega) (by omega) (by omega) rfl seX7_isGoingDown imX7_isGoingDown rfl (Nat.le_of_ble_eq_true rfl) dL_law_1617 ?_
  refine ml_istore (ls2 := [(7, .int b9), (6, .int k9), (5, .int i), (4, ml_rf g 182), (3, ml_rf g 181), (2, ml_rf g 11), (1, ml_rf g 0), (0, .ref b)]) F dL_law_1620 (by decide) rfl ?_
  refine ml_aload_n (q := 5) F dL_law_1622 rfl rfl ?_
  refine ml_callVQ (r8 := k9) (M8 := M3) (vl2 := (fun r _ => some (.int r))) (av := []) (st := []) (kb := 11) (ci := 11) (T := TX7) (N := 16) F (pc11 g) rfl (fX7_thrown_c M2 _ hst hT) wcX7_thrown mlL_155 wdX7_thrown (by omega) (by omega) (by omega) rfl seX7_thrown imX7_thrown rfl (Nat.le_of_ble_eq_true rfl) dL_law_1623 ?_
  refine ml_iload (q := 1) F dL_law_1626 rfl ?_
  refine ml_icmp_eqT (tgt := 1633) F dL_law_1628 (by decide) rfl ?_
  refine ml_iload (q := 1) F dL_law_1633 rfl ?_
  by_cases hk0 : k9 = 0
  · refine ml_if_neF (tgt := 1657) F dL_law_1635 (by decide) hk0 ?_
    refine ml_aload_n (q := 4) F dL_law_1638 rfl rfl ?_
    refine ml_iconst (v := 0) F dL_law_1639 (by decide) ?_
    refine ml_lald F dL_law_1640 ?_
    refine ml_iload (q := 0) F dL_law_1641 rfl ?_
    by_cases hb0 : b9 = 0
    · refine ml_if_eqT (tgt := 1650) F dL_law_1643 (by decide) hb0 ?_
      refine ml_lconst (v := 0) F dL_law_1650 (by decide) ?_
      refine ml_lcmp0 F dL_law_1651 (by rw [hE hk0]; unfold lw_bz; rw [if_pos hb0]; decide) ?_
      refine ml_if_eqT (tgt := 1657) F dL_law_1652 (by decide) rfl ?_
      refine ml_goto (tgt := 2751) F dL_law_1657 (by decide) ?_
      exact ml_wid (by omega) (by omega) (ml_sub [2, 3, 4, 5, 6, 7] rfl K)
    · refine ml_if_eqF (tgt := 1650) F dL_law_1643 (by decide) hb0 ?_
      refine ml_lconst (v := 1) F dL_law_1646 (by decide) ?_
      refine ml_goto (tgt := 1651) F dL_law_1647 (by decide) ?_
      refine ml_lcmp0 F dL_law_1651 (by rw [hE hk0]; unfold lw_bz; rw [if_neg hb0]; decide) ?_
      refine ml_if_eqT (tgt := 1657) F dL_law_1652 (by decide) rfl ?_
      refine ml_goto (tgt := 2751) F dL_law_1657 (by decide) ?_
      exact ml_wid (by omega) (by omega) (ml_sub [2, 3, 4, 5, 6, 7] rfl K)
  · refine ml_if_neT (tgt := 1657) F dL_law_1635 (by decide) hk0 ?_
    refine ml_goto (tgt := 2751) F dL_law_1657 (by decide) ?_
    exact ml_wid (by omega) (by omega) (ml_sub [2, 3, 4, 5, 6, 7] rfl K)
set_option maxHeartbeats 4000000 in
set_option maxRecDepth 100000 in
theorem lwc_29 {E : ml_E} {g : ml_G} {lv mc ms k n b L i0 : Nat} {ret : Option FieldType} {tb : List ExceptionTableEntry} {xs : Nat → Int32} {i : Int32} {Q : State → Prop} {M M1 M2 M3 : ml_M} {k9 b9 : Int32} (hst : g.2.2.2.2.2.stackTraces = false) (F : ml_F E g cL_law RL 10 lv mc ms ret tb) (S : ml_S E g b L xs) (hi : lw_ix i i0 L) (hlv : 20 ≤ lv) (hk : k + 2 ≤ mc) (hn2 : n + 12 ≤ ms) (hW : fL_basinOf ((xs (i0 + 1))) M = some (.inl k9, M1)) (hM : fX7_basinOf ((xs (i0 + 1))) M1 = some (.inl b9, M2)) (hT : fX7_thrown M2 = some (.inl k9, M3)) (hE : k9 = 0 → M3 181 0 = b9) (K : ml_J E g 10 Q (k + 2) (n + 12) 2751 [(5, .int i), (4, ml_rf g 182), (3, ml_rf g 181), (2, ml_rf g 11), (1, ml_rf g 0), (0, .ref b)] [] M3) : ml_J E g 10 Q k n 1660 [(5, .int i), (4, ml_rf g 182), (3, ml_rf g 181), (2, ml_rf g 11), (1, ml_rf g 0), (0, .ref b)] [] M := by
  refine ml_aload_n (q := 4) F dL_law_1660 rfl rfl ?_
  refine ml_aload_n (q := 5) F dL_law_1661 rfl rfl ?_
  refine ml_iload (q := 0) F dL_law_1662 rfl ?_
  refine ml_iconst (v := 1) F dL_law_1664 (by decide) ?_
  refine ml_iadd F dL_law_1665 ?_
  refine ml_scld (j := i0 + 1) (x := xs (i0 + 1)) F S hi.2.1.1 hi.2.1.2.1 hi.2.1.2.2 rfl dL_law_1666 ?_
  refine ml_aload_n (q := 2) F dL_law_1667 rfl rfl ?_
  refine ml_callSQ (hh := [(0, 9, 12, 21)]) (r8 := k9) (M8 := M1) (vl2 := fun r _ => some (.int r)) (av := [ml_rf g 0, .int (xs (i0 + 1)), ml_rf g 181]) (st := []) F (fL_basinOf_c ((xs (i0 + 1))) M _ hst hW) wcL_basinOf mlL_253 wdL_basinOf (by omega) (by omega) (by omega) rfl stL_basinOf rfl (Nat.le_of_ble_eq_true rfl) dL_law_1668 ?_
  refine ml_istore (ls2 := [(6, .int k9), (5, .int i), (4, ml_rf g 182), (3, ml_rf g 181), (2, ml_rf g 11), (1, ml_rf g 0), (0, .ref b)]) F dL_law_1671 (by decide) rfl ?_
  refine ml_aload_n (q := 4) F dL_law_1673 rfl rfl ?_
  refine ml_aload_n (q := 6) F dL_law_1674 rfl rfl ?_
  refine ml_iload (q := 1) F dL_law_1675 rfl ?_
  refine ml_iconst (v := 1) F dL_law_1677 (by decide) ?_
  refine ml_iadd F dL_law_1678 ?_
  refine ml_scld (j := i0 + 1) (x := xs (i0 + 1)) F S hi.2.1.1 hi.2.1.2.1 hi.2.1.2.2 rfl dL_law_1679 ?_
  refine ml_callVQ (r8 := b9) (M8 := M2) (vl2 := (fun r _ => some (.int r))) (av := [.int (xs (i0 + 1))]) (st := []) (kb := 11) (ci := 11) (T := TX7) (N := 16) F (pc11 g) rfl (fX7_basinOf_c ((xs (i0 + 1))) M1 _ hst hM) wcX7_basinOf mlL_255 wdX7_basinOf (by omega) (by omega) (by omega) rfl seX7_basinOf imX7_basinOf rfl (Nat.le_of_ble_eq_true rfl) dL_law_1680 ?_
  refine ml_istore (ls2 := [(7, .int b9), (6, .int k9), (5, .int i), (4, ml_rf g 182), (3, ml_rf g 181), (2, ml_rf g 11), (1, ml_rf g 0), (0, .ref b)]) F dL_law_1683 (by decide) rfl ?_
  refine ml_aload_n (q := 5) F dL_law_1685 rfl rfl ?_
  refine ml_callVQ (r8 := k9) (M8 := M3) (vl2 := (fun r _ => some (.int r))) (av := []) (st := []) (kb := 11) (ci := 11) (T := TX7) (N := 16) F (pc11 g) rfl (fX7_thrown_c M2 _ hst hT) wcX7_thrown mlL_155 wdX7_thrown (by omega) (by omega) (by omega) rfl seX7_thrown imX7_thrown rfl (Nat.le_of_ble_eq_true rfl) dL_law_1686 ?_
  refine ml_iload (q := 1) F dL_law_1689 rfl ?_
  refine ml_icmp_eqT (tgt := 1696) F dL_law_1691 (by decide) rfl ?_
  refine ml_iload (q := 1) F dL_law_1696 rfl ?_
  by_cases hk0 : k9 = 0
  · refine ml_if_neF (tgt := 1713) F dL_law_1698 (by decide) hk0 ?_
    refine ml_aload_n (q := 4) F dL_law_1701 rfl rfl ?_
    refine ml_iconst (v := 0) F dL_law_1702 (by decide) ?_
    refine ml_lald F dL_law_1703 ?_
    refine ml_iload (q := 0) F dL_law_1704 rfl ?_
    refine ml_i2l F dL_law_1706 ?_
    refine ml_lcmp0 F dL_law_1707 (by rw [hE hk0]) ?_
    refine ml_if_eqT (tgt := 1713) F dL_law_1708 (by decide) rfl ?_
    refine ml_goto (tgt := 2751) F dL_law_1713 (by decide) ?_
    exact ml_wid (by omega) (by omega) (ml_sub [2, 3, 4, 5, 6, 7] rfl K)
  · refine ml_if_neT (tgt := 1713) F dL_law_1698 (by decide) hk0 ?_
    refine ml_goto (tgt := 2751) F dL_law_1713 (by decide) ?_
    exact ml_wid (by omega) (by omega) (ml_sub [2, 3, 4, 5, 6, 7] rfl K)
set_option maxHeartbeats 4000000 in
set_option maxRecDepth 100000 in
theorem lwc_30 {E : ml_E} {g : ml_G} {lv mc ms k n b L i0 : Nat} {ret : Option FieldType} {tb : List ExceptionTableEntry} {xs : Nat → Int32} {i : Int32} {Q : State → Prop} {M M1 M2 M3 : ml_M} {k9 b9 : Int32} (hst : g.2.2.2.2.2.stackTraces = false) (F : ml_F E g cL_law RL 10 lv mc ms ret tb) (S : ml_S E g b L xs) (hi : lw_ix i i0 L) (hlv : 20 ≤ lv) (hk : k + 2 ≤ mc) (hn2 : n + 12 ≤ ms) (hW : fL_boatsIn ((xs (i0 + 1))) M = some (.inl k9, M1)) (hM : fX7_boatsIn ((xs (i0 + 1))) M1 = some (.inl b9, M2)) (hT : fX7_thrown M2 = some (.inl k9, M3)) (hE : k9 = 0 → M3 181 0 = b9) (K : ml_J E g 10 Q (k + 2) (n + 12) 2751 [(5, .int i), (4, ml_rf g 182), (3, ml_rf g 181), (2, ml_rf g 11), (1, ml_rf g 0), (0, .ref b)] [] M3) : ml_J E g 10 Q k n 1716 [(5, .int i), (4, ml_rf g 182), (3, ml_rf g 181), (2, ml_rf g 11), (1, ml_rf g 0), (0, .ref b)] [] M := by
  refine ml_aload_n (q := 4) F dL_law_1716 rfl rfl ?_
  refine ml_aload_n (q := 5) F dL_law_1717 rfl rfl ?_
  refine ml_iload (q := 0) F dL_law_1718 rfl ?_
  refine ml_iconst (v := 1) F dL_law_1720 (by decide) ?_
  refine ml_iadd F dL_law_1721 ?_
  refine ml_scld (j := i0 + 1) (x := xs (i0 + 1)) F S hi.2.1.1 hi.2.1.2.1 hi.2.1.2.2 rfl dL_law_1722 ?_
  refine ml_aload_n (q := 2) F dL_law_1723 rfl rfl ?_
  refine ml_callSQ (hh := [(0, 9, 12, 21)]) (r8 := k9) (M8 := M1) (vl2 := fun r _ => some (.int r)) (av := [ml_rf g 0, .int (xs (i0 + 1)), ml_rf g 181]) (st := []) F (fL_boatsIn_c ((xs (i0 + 1))) M _ hst hW) wcL_boatsIn mlL_256 wdL_boatsIn (by omega) (by omega) (by omega) rfl stL_boatsIn rfl (Nat.le_of_ble_eq_true rfl) dL_law_1724 ?_
  refine ml_istore (ls2 := [(6, .int k9), (5, .int i), (4, ml_rf g 182), (3, ml_rf g 181), (2, ml_rf g 11), (1, ml_rf g 0), (0, .ref b)]) F dL_law_1727 (by decide) rfl ?_
  refine ml_aload_n (q := 4) F dL_law_1729 rfl rfl ?_
  refine ml_aload_n (q := 6) F dL_law_1730 rfl rfl ?_
  refine ml_iload (q := 1) F dL_law_1731 rfl ?_
  refine ml_iconst (v := 1) F dL_law_1733 (by decide) ?_
  refine ml_iadd F dL_law_1734 ?_
  refine ml_scld (j := i0 + 1) (x := xs (i0 + 1)) F S hi.2.1.1 hi.2.1.2.1 hi.2.1.2.2 rfl dL_law_1735 ?_
  refine ml_callVQ (r8 := b9) (M8 := M2) (vl2 := (fun r _ => some (.int r))) (av := [.int (xs (i0 + 1))]) (st := []) (kb := 11) (ci := 11) (T := TX7) (N := 16) F (pc11 g) rfl (fX7_boatsIn_c ((xs (i0 + 1))) M1 _ hst hM) wcX7_boatsIn mlL_258 wdX7_boatsIn (by omega) (by omega) (by omega) rfl seX7_boatsIn imX7_boatsIn rfl (Nat.le_of_ble_eq_true rfl) dL_law_1736 ?_
  refine ml_istore (ls2 := [(7, .int b9), (6, .int k9), (5, .int i), (4, ml_rf g 182), (3, ml_rf g 181), (2, ml_rf g 11), (1, ml_rf g 0), (0, .ref b)]) F dL_law_1739 (by decide) rfl ?_
  refine ml_aload_n (q := 5) F dL_law_1741 rfl rfl ?_
  refine ml_callVQ (r8 := k9) (M8 := M3) (vl2 := (fun r _ => some (.int r))) (av := []) (st := []) (kb := 11) (ci := 11) (T := TX7) (N := 16) F (pc11 g) rfl (fX7_thrown_c M2 _ hst hT) wcX7_thrown mlL_155 wdX7_thrown (by omega) (by omega) (by omega) rfl seX7_thrown imX7_thrown rfl (Nat.le_of_ble_eq_true rfl) dL_law_1742 ?_
  refine ml_iload (q := 1) F dL_law_1745 rfl ?_
  refine ml_icmp_eqT (tgt := 1752) F dL_law_1747 (by decide) rfl ?_
  refine ml_iload (q := 1) F dL_law_1752 rfl ?_
  by_cases hk0 : k9 = 0
  · refine ml_if_neF (tgt := 1769) F dL_law_1754 (by decide) hk0 ?_
    refine ml_aload_n (q := 4) F dL_law_1757 rfl rfl ?_
    refine ml_iconst (v := 0) F dL_law_1758 (by decide) ?_
    refine ml_lald F dL_law_1759 ?_
    refine ml_iload (q := 0) F dL_law_1760 rfl ?_
    refine ml_i2l F dL_law_1762 ?_
    refine ml_lcmp0 F dL_law_1763 (by rw [hE hk0]) ?_
    refine ml_if_eqT (tgt := 1769) F dL_law_1764 (by decide) rfl ?_
    refine ml_goto (tgt := 2751) F dL_law_1769 (by decide) ?_
    exact ml_wid (by omega) (by omega) (ml_sub [2, 3, 4, 5, 6, 7] rfl K)
  · refine ml_if_neT (tgt := 1769) F dL_law_1754 (by decide) hk0 ?_
    refine ml_goto (tgt := 2751) F dL_law_1769 (by decide) ?_
    exact ml_wid (by omega) (by omega) (ml_sub [2, 3, 4, 5, 6, 7] rfl K)
set_option maxHeartbeats 4000000 in
set_option maxRecDepth 100000 in
theorem lwc_31 {E : ml_E} {g : ml_G} {lv mc ms k n b L i0 : Nat} {ret : Option FieldType} {tb : List ExceptionTableEntry} {xs : Nat → Int32} {i : Int32} {Q : State → Prop} {M M1 M2 M3 : ml_M} {k9 b9 : Int32} (hst : g.2.2.2.2.2.stackTraces = false) (F : ml_F E g cL_law RL 10 lv mc ms ret tb) (S : ml_S E g b L xs) (hi : lw_ix i i0 L) (hlv : 20 ≤ lv) (hk : k + 2 ≤ mc) (hn2 : n + 12 ≤ ms) (hW : fL_boatInOrder ((xs (i0 + 1))) M = some (.inl k9, M1)) (hM : fX7_boatInOrder ((xs (i0 + 1))) M1 = some (.inl b9, M2)) (hT : fX7_thrown M2 = some (.inl k9, M3)) (hE : k9 = 0 → M3 181 0 = b9) (K : ml_J E g 10 Q (k + 2) (n + 12) 2751 [(5, .int i), (4, ml_rf g 182), (3, ml_rf g 181), (2, ml_rf g 11), (1, ml_rf g 0), (0, .ref b)] [] M3) : ml_J E g 10 Q k n 1772 [(5, .int i), (4, ml_rf g 182), (3, ml_rf g 181), (2, ml_rf g 11), (1, ml_rf g 0), (0, .ref b)] [] M := by
  refine ml_aload_n (q := 4) F dL_law_1772 rfl rfl ?_
  refine ml_aload_n (q := 5) F dL_law_1773 rfl rfl ?_
  refine ml_iload (q := 0) F dL_law_1774 rfl ?_
  refine ml_iconst (v := 1) F dL_law_1776 (by decide) ?_
  refine ml_iadd F dL_law_1777 ?_
  refine ml_scld (j := i0 + 1) (x := xs (i0 + 1)) F S hi.2.1.1 hi.2.1.2.1 hi.2.1.2.2 rfl dL_law_1778 ?_
  refine ml_aload_n (q := 2) F dL_law_1779 rfl rfl ?_
  refine ml_callSQ (hh := [(0, 9, 12, 77)]) (r8 := k9) (M8 := M1) (vl2 := fun r _ => some (.int r)) (av := [ml_rf g 0, .int (xs (i0 + 1)), ml_rf g 181]) (st := []) F (fL_boatInOrder_c ((xs (i0 + 1))) M _ hst hW) wcL_boatInOrder mlL_259 wdL_boatInOrder (by omega) (by omega) (by omega) rfl stL_boatInOrder rfl (Nat.le_of_ble_eq_true rfl) dL_law_1780 ?_
  refine ml_istore (ls2 := [(6, .int k9), (5, .int i), (4, ml_rf g 182), (3, ml_rf g 181), (2, ml_rf g 11), (1, ml_rf g 0), (0, .ref b)]) F dL_law_1783 (by decide) rfl ?_
  refine ml_aload_n (q := 4) F dL_law_1785 rfl rfl ?_
  refine ml_aload_n (q := 6) F dL_law_1786 rfl rfl ?_
  refine ml_iload (q := 1) F dL_law_1787 rfl ?_
  refine ml_iconst (v := 1) F dL_law_1789 (by decide) ?_
  refine ml_iadd F dL_law_1790 ?_
  refine ml_scld (j := i0 + 1) (x := xs (i0 + 1)) F S hi.2.1.1 hi.2.1.2.1 hi.2.1.2.2 rfl dL_law_1791 ?_
  refine ml_callVQ (r8 := b9) (M8 := M2) (vl2 := (fun r _ => some (.int r))) (av := [.int (xs (i0 + 1))]) (st := []) (kb := 11) (ci := 11) (T := TX7) (N := 16) F (pc11 g) rfl (fX7_boatInOrder_c ((xs (i0 + 1))) M1 _ hst hM) wcX7_boatInOrder mlL_261 wdX7_boatInOrder (by omega) (by omega) (by omega) rfl seX7_boatInOrder imX7_boatInOrder rfl (Nat.le_of_ble_eq_true rfl) dL_law_1792 ?_
  refine ml_istore (ls2 := [(7, .int b9), (6, .int k9), (5, .int i), (4, ml_rf g 182), (3, ml_rf g 181), (2, ml_rf g 11), (1, ml_rf g 0), (0, .ref b)]) F dL_law_1795 (by decide) rfl ?_
  refine ml_aload_n (q := 5) F dL_law_1797 rfl rfl ?_
  refine ml_callVQ (r8 := k9) (M8 := M3) (vl2 := (fun r _ => some (.int r))) (av := []) (st := []) (kb := 11) (ci := 11) (T := TX7) (N := 16) F (pc11 g) rfl (fX7_thrown_c M2 _ hst hT) wcX7_thrown mlL_155 wdX7_thrown (by omega) (by omega) (by omega) rfl seX7_thrown imX7_thrown rfl (Nat.le_of_ble_eq_true rfl) dL_law_1798 ?_
  refine ml_iload (q := 1) F dL_law_1801 rfl ?_
  refine ml_icmp_eqT (tgt := 1808) F dL_law_1803 (by decide) rfl ?_
  refine ml_iload (q := 1) F dL_law_1808 rfl ?_
  by_cases hk0 : k9 = 0
  · refine ml_if_neF (tgt := 1825) F dL_law_1810 (by decide) hk0 ?_
    refine ml_aload_n (q := 4) F dL_law_1813 rfl rfl ?_
    refine ml_iconst (v := 0) F dL_law_1814 (by decide) ?_
    refine ml_lald F dL_law_1815 ?_
    refine ml_iload (q := 0) F dL_law_1816 rfl ?_
    refine ml_i2l F dL_law_1818 ?_
    refine ml_lcmp0 F dL_law_1819 (by rw [hE hk0]) ?_
    refine ml_if_eqT (tgt := 1825) F dL_law_1820 (by decide) rfl ?_
    refine ml_goto (tgt := 2751) F dL_law_1825 (by decide) ?_
    exact ml_wid (by omega) (by omega) (ml_sub [2, 3, 4, 5, 6, 7] rfl K)
  · refine ml_if_neT (tgt := 1825) F dL_law_1810 (by decide) hk0 ?_
    refine ml_goto (tgt := 2751) F dL_law_1825 (by decide) ?_
    exact ml_wid (by omega) (by omega) (ml_sub [2, 3, 4, 5, 6, 7] rfl K)
set_option maxHeartbeats 4000000 in
set_option maxRecDepth 100000 in
theorem lwc_32 {E : ml_E} {g : ml_G} {lv mc ms k n b L i0 : Nat} {ret : Option FieldType} {tb : List ExceptionTableEntry} {xs : Nat → Int32} {i : Int32} {Q : State → Prop} {M M1 M2 M3 : ml_M} {k9 b9 : Int32} (hst : g.2.2.2.2.2.stackTraces = false) (F : ml_F E g cL_law RL 10 lv mc ms ret tb) (S : ml_S E g b L xs) (hi : lw_ix i i0 L) (hlv : 20 ≤ lv) (hk : k + 2 ≤ mc) (hn2 : n + 12 ≤ ms) (hW : fL_floats ((xs (i0 + 1))) ((xs (i0 + 2))) M = some (.inl k9, M1)) (hM : fX7_floats ((xs (i0 + 1))) ((xs (i0 + 2))) M1 = some (.inl b9, M2)) (hT : fX7_thrown M2 = some (.inl k9, M3)) (hE : k9 = 0 → M3 181 0 = lw_bz b9) (K : ml_J E g 10 Q (k + 2) (n + 12) 2751 [(5, .int i), (4, ml_rf g 182), (3, ml_rf g 181), (2, ml_rf g 11), (1, ml_rf g 0), (0, .ref b)] [] M3) : ml_J E g 10 Q k n 1828 [(5, .int i), (4, ml_rf g 182), (3, ml_rf g 181), (2, ml_rf g 11), (1, ml_rf g 0), (0, .ref b)] [] M := by
  refine ml_aload_n (q := 4) F dL_law_1828 rfl rfl ?_
  refine ml_aload_n (q := 5) F dL_law_1829 rfl rfl ?_
  refine ml_iload (q := 0) F dL_law_1830 rfl ?_
  refine ml_iconst (v := 1) F dL_law_1832 (by decide) ?_
  refine ml_iadd F dL_law_1833 ?_
  refine ml_scld (j := i0 + 1) (x := xs (i0 + 1)) F S hi.2.1.1 hi.2.1.2.1 hi.2.1.2.2 rfl dL_law_1834 ?_
  refine ml_aload_n (q := 5) F dL_law_1835 rfl rfl ?_
  refine ml_iload (q := 0) F dL_law_1836 rfl ?_
  refine ml_iconst (v := 2) F dL_law_1838 (by decide) ?_
  refine ml_iadd F dL_law_1839 ?_
  refine ml_scld (j := i0 + 2) (x := xs (i0 + 2)) F S hi.2.2.1.1 hi.2.2.1.2.1 hi.2.2.1.2.2 rfl dL_law_1840 ?_
  refine ml_aload_n (q := 2) F dL_law_1841 rfl rfl ?_
  refine ml_callSQ (hh := [(0, 17, 20, 21)]) (r8 := k9) (M8 := M1) (vl2 := fun r _ => some (.int r)) (av := [ml_rf g 0, .int (xs (i0 + 1)), .int (xs (i0 + 2)), ml_rf g 181]) (st := []) F (fL_floats_c ((xs (i0 + 1))) ((xs (i0 + 2))) M _ hst hW) wcL_floats mlL_262 wdL_floats (by omega) (by omega) (by omega) rfl stL_floats rfl (Nat.le_of_ble_eq_true rfl) dL_law_1842 ?_
  refine ml_istore (ls2 := [(6, .int k9), (5, .int i), (4, ml_rf g 182), (3, ml_rf g 181), (2, ml_rf g 11), (1, ml_rf g 0), (0, .ref b)]) F dL_law_1845 (by decide) rfl ?_
  refine ml_aload_n (q := 4) F dL_law_1847 rfl rfl ?_
  refine ml_aload_n (q := 6) F dL_law_1848 rfl rfl ?_
  refine ml_iload (q := 1) F dL_law_1849 rfl ?_
  refine ml_iconst (v := 1) F dL_law_1851 (by decide) ?_
  refine ml_iadd F dL_law_1852 ?_
  refine ml_scld (j := i0 + 1) (x := xs (i0 + 1)) F S hi.2.1.1 hi.2.1.2.1 hi.2.1.2.2 rfl dL_law_1853 ?_
  refine ml_aload_n (q := 6) F dL_law_1854 rfl rfl ?_
  refine ml_iload (q := 1) F dL_law_1855 rfl ?_
  refine ml_iconst (v := 2) F dL_law_1857 (by decide) ?_
  refine ml_iadd F dL_law_1858 ?_
  refine ml_scld (j := i0 + 2) (x := xs (i0 + 2)) F S hi.2.2.1.1 hi.2.2.1.2.1 hi.2.2.1.2.2 rfl dL_law_1859 ?_
  refine ml_callVQ (r8 := b9) (M8 := M2) (vl2 := (fun r _ => some (.int r))) (av := [.int (xs (i0 + 1)), .int (xs (i0 + 2))]) (st := []) (kb := 11) (ci := 11) (T := TX7) (N := 16) F (pc11 g) rfl (fX7_floats_c ((xs (i0 + 1))) ((xs (i0 + 2))) M1 _ hst hM) wcX7_floats mlL_264 wdX7_floats (by omega) (by omega) (by omega) rfl seX7_floats imX7_floats rfl (Nat.le_of_ble_eq_true rfl) dL_law_1860 ?_
  refine ml_istore (ls2 := [(7, .int b9), (6, .int k9), (5, .int i), (4, ml_rf g 182), (3, ml_rf g 181), (2, ml_rf g 11), (1, ml_rf g 0), (0, .ref b)]) F dL_law_1863 (by decide) rfl ?_
  refine ml_aload_n (q := 5) F dL_law_1865 rfl rfl ?_
  refine ml_callVQ (r8 := k9) (M8 := M3) (vl2 := (fun r _ => some (.int r))) (av := []) (st := []) (kb := 11) (ci := 11) (T := TX7) (N := 16) F (pc11 g) rfl (fX7_thrown_c M2 _ hst hT) wcX7_thrown mlL_155 wdX7_thrown (by omega) (by omega) (by omega) rfl seX7_thrown imX7_thrown rfl (Nat.le_of_ble_eq_true rfl) dL_law_1866 ?_
  refine ml_iload (q := 1) F dL_law_1869 rfl ?_
  refine ml_icmp_eqT (tgt := 1876) F dL_law_1871 (by decide) rfl ?_
  refine ml_iload (q := 1) F dL_law_1876 rfl ?_
  by_cases hk0 : k9 = 0
  · refine ml_if_neF (tgt := 1900) F dL_law_1878 (by decide) hk0 ?_
    refine ml_aload_n (q := 4) F dL_law_1881 rfl rfl ?_
    refine ml_iconst (v := 0) F dL_law_1882 (by decide) ?_
    refine ml_lald F dL_law_1883 ?_
    refine ml_iload (q := 0) F dL_law_1884 rfl ?_
    by_cases hb0 : b9 = 0
    · refine ml_if_eqT (tgt := 1893) F dL_law_1886 (by decide) hb0 ?_
      refine ml_lconst (v := 0) F dL_law_1893 (by decide) ?_
      refine ml_lcmp0 F dL_law_1894 (by rw [hE hk0]; unfold lw_bz; rw [if_pos hb0]; decide) ?_
      refine ml_if_eqT (tgt := 1900) F dL_law_1895 (by decide) rfl ?_
      refine ml_goto (tgt := 2751) F dL_law_1900 (by decide) ?_
      exact ml_wid (by omega) (by omega) (ml_sub [2, 3, 4, 5, 6, 7] rfl K)
    · refine ml_if_eqF (tgt := 1893) F dL_law_1886 (by decide) hb0 ?_
      refine ml_lconst (v := 1) F dL_law_1889 (by decide) ?_
      refine ml_goto (tgt := 1894) F dL_law_1890 (by decide) ?_
      refine ml_lcmp0 F dL_law_1894 (by rw [hE hk0]; unfold lw_bz; rw [if_neg hb0]; decide) ?_
      refine ml_if_eqT (tgt := 1900) F dL_law_1895 (by decide) rfl ?_
      refine ml_goto (tgt := 2751) F dL_law_1900 (by decide) ?_
      exact ml_wid (by omega) (by omega) (ml_sub [2, 3, 4, 5, 6, 7] rfl K)
  · refine ml_if_neT (tgt := 1900) F dL_law_1878 (by decide) hk0 ?_
    refine ml_goto (tgt := 2751) F dL_law_1900 (by decide) ?_
    exact ml_wid (by omega) (by omega) (ml_sub [2, 3, 4, 5, 6, 7] rfl K)
set_option maxHeartbeats 4000000 in
set_option maxRecDepth 100000 in
theorem lwc_33 {E : ml_E} {g : ml_G} {lv mc ms k n b L i0 : Nat} {ret : Option FieldType} {tb : List ExceptionTableEntry} {xs : Nat → Int32} {i : Int32} {Q : State → Prop} {M M1 M2 M3 : ml_M} {k9 b9 : Int32} (hst : g.2.2.2.2.2.stackTraces = false) (F : ml_F E g cL_law RL 10 lv mc ms ret tb) (S : ml_S E g b L xs) (hi : lw_ix i i0 L) (hlv : 20 ≤ lv) (hk : k + 2 ≤ mc) (hn2 : n + 12 ≤ ms) (hW : fL_leftTotal ((lw_ic (xs (i0 + 1)))) M = some (.inl k9, M1)) (hM : fX7_leftTotal ((lw_ic (xs (i0 + 1)))) M1 = some (.inl b9, M2)) (hT : fX7_thrown M2 = some (.inl k9, M3)) (hE : k9 = 0 → M3 181 0 = b9) (K : ml_J E g 10 Q (k + 2) (n + 12) 2751 [(5, .int i), (4, ml_rf g 182), (3, ml_rf g 181), (2, ml_rf g 11), (1, ml_rf g 0), (0, .ref b)] [] M3) : ml_J E g 10 Q k n 1903 [(5, .int i), (4, ml_rf g 182), (3, ml_rf g 181), (2, ml_rf g 11), (1, ml_rf g 0), (0, .ref b)] [] M := by
  refine ml_aload_n (q := 4) F dL_law_1903 rfl rfl ?_
  refine ml_aload_n (q := 5) F dL_law_1904 rfl rfl ?_
  refine ml_iload (q := 0) F dL_law_1905 rfl ?_
  refine ml_iconst (v := 1) F dL_law_1907 (by decide) ?_
  refine ml_iadd F dL_law_1908 ?_
  refine ml_scld (j := i0 + 1) (x := xs (i0 + 1)) F S hi.2.1.1 hi.2.1.2.1 hi.2.1.2.2 rfl dL_law_1909 ?_
  refine ml_i2c F dL_law_1910 ?_
  refine ml_aload_n (q := 2) F dL_law_1911 rfl rfl ?_
  refine ml_callSQ (hh := [(0, 9, 12, 13)]) (r8 := k9) (M8 := M1) (vl2 := fun r _ => some (.int r)) (av := [ml_rf g 0, .int (lw_ic (xs (i0 + 1))), ml_rf g 181]) (st := []) F (fL_leftTotal_c ((lw_ic (xs (i0 + 1)))) M _ hst hW) wcL_leftTotal mlL_265 wdL_leftTotal (by omega) (by omega) (by omega) rfl stL_leftTotal rfl (Nat.le_of_ble_eq_true rfl) dL_law_1912 ?_
  refine ml_istore (ls2 := [(6, .int k9), (5, .int i), (4, ml_rf g 182), (3, ml_rf g 181), (2, ml_rf g 11), (1, ml_rf g 0), (0, .ref b)]) F dL_law_1915 (by decide) rfl ?_
  refine ml_aload_n (q := 4) F dL_law_1917 rfl rfl ?_
  refine ml_aload_n (q := 6) F dL_law_1918 rfl rfl ?_
  refine ml_iload (q := 1) F dL_law_1919 rfl ?_
  refine ml_iconst (v := 1) F dL_law_1921 (by decide) ?_
  refine ml_iadd F dL_law_1922 ?_
  refine ml_scld (j := i0 + 1) (x := xs (i0 + 1)) F S hi.2.1.1 hi.2.1.2.1 hi.2.1.2.2 rfl dL_law_1923 ?_
  refine ml_i2c F dL_law_1924 ?_
  refine ml_callVQ (r8 := b9) (M8 := M2) (vl2 := (fun r _ => some (.int r))) (av := [.int (lw_ic (xs (i0 + 1)))]) (st := []) (kb := 11) (ci := 11) (T := TX7) (N := 16) F (pc11 g) rfl (fX7_leftTotal_c ((lw_ic (xs (i0 + 1)))) M1 _ hst hM) wcX7_leftTotal mlL_268 wdX7_leftTotal (by omega) (by omega) (by omega) rfl seX7_leftTotal imX7_leftTotal rfl (Nat.le_of_ble_eq_true rfl) dL_law_1925 ?_
  refine ml_istore (ls2 := [(7, .int b9), (6, .int k9), (5, .int i), (4, ml_rf g 182), (3, ml_rf g 181), (2, ml_rf g 11), (1, ml_rf g 0), (0, .ref b)]) F dL_law_1928 (by decide) rfl ?_
  refine ml_aload_n (q := 5) F dL_law_1930 rfl rfl ?_
  refine ml_callVQ (r8 := k9) (M8 := M3) (vl2 := (fun r _ => some (.int r))) (av := []) (st := []) (kb := 11) (ci := 11) (T := TX7) (N := 16) F (pc11 g) rfl (fX7_thrown_c M2 _ hst hT) wcX7_thrown mlL_155 wdX7_thrown (by omega) (by omega) (by omega) rfl seX7_thrown imX7_thrown rfl (Nat.le_of_ble_eq_true rfl) dL_law_1931 ?_
  refine ml_iload (q := 1) F dL_law_1934 rfl ?_
  refine ml_icmp_eqT (tgt := 1941) F dL_law_1936 (by decide) rfl ?_
  refine ml_iload (q := 1) F dL_law_1941 rfl ?_
  by_cases hk0 : k9 = 0
  · refine ml_if_neF (tgt := 1958) F dL_law_1943 (by decide) hk0 ?_
    refine ml_aload_n (q := 4) F dL_law_1946 rfl rfl ?_
    refine ml_iconst (v := 0) F dL_law_1947 (by decide) ?_
    refine ml_lald F dL_law_1948 ?_
    refine ml_iload (q := 0) F dL_law_1949 rfl ?_
    refine ml_i2l F dL_law_1951 ?_
    refine ml_lcmp0 F dL_law_1952 (by rw [hE hk0]) ?_
    refine ml_if_eqT (tgt := 1958) F dL_law_1953 (by decide) rfl ?_
    refine ml_goto (tgt := 2751) F dL_law_1958 (by decide) ?_
    exact ml_wid (by omega) (by omega) (ml_sub [2, 3, 4, 5, 6, 7] rfl K)
  · refine ml_if_neT (tgt := 1958) F dL_law_1943 (by decide) hk0 ?_
    refine ml_goto (tgt := 2751) F dL_law_1958 (by decide) ?_
    exact ml_wid (by omega) (by omega) (ml_sub [2, 3, 4, 5, 6, 7] rfl K)
set_option maxHeartbeats 4000000 in
set_option maxRecDepth 100000 in
theorem lwc_34 {E : ml_E} {g : ml_G} {lv mc ms k n b L i0 : Nat} {ret : Option FieldType} {tb : List ExceptionTableEntry} {xs : Nat → Int32} {i : Int32} {Q : State → Prop} {M M1 M2 M3 : ml_M} {k9 b9 : Int32} (hst : g.2.2.2.2.2.stackTraces = false) (F : ml_F E g cL_law RL 10 lv mc ms ret tb) (S : ml_S E g b L xs) (hi : lw_ix i i0 L) (hlv : 20 ≤ lv) (hk : k + 2 ≤ mc) (hn2 : n + 12 ≤ ms) (hW : fL_minutesUntilLeaving ((xs (i0 + 1))) M = some (.inl k9, M1)) (hM : fX7_minutesUntilLeaving ((xs (i0 + 1))) M1 = some (.inl b9, M2)) (hT : fX7_thrown M2 = some (.inl k9, M3)) (hE : k9 = 0 → M3 181 0 = b9) (K : ml_J E g 10 Q (k + 2) (n + 12) 2751 [(5, .int i), (4, ml_rf g 182), (3, ml_rf g 181), (2, ml_rf g 11), (1, ml_rf g 0), (0, .ref b)] [] M3) : ml_J E g 10 Q k n 1961 [(5, .int i), (4, ml_rf g 182), (3, ml_rf g 181), (2, ml_rf g 11), (1, ml_rf g 0), (0, .ref b)] [] M := by
  refine ml_aload_n (q := 4) F dL_law_1961 rfl rfl ?_
  refine ml_aload_n (q := 5) F dL_law_1962 rfl rfl ?_
  refine ml_iload (q := 0) F dL_law_1963 rfl ?_
  refine ml_iconst (v := 1) F dL_law_1965 (by decide) ?_
  refine ml_iadd F dL_law_1966 ?_
  refine ml_scld (j := i0 + 1) (x := xs (i0 + 1)) F S hi.2.1.1 hi.2.1.2.1 hi.2.1.2.2 rfl dL_law_1967 ?_
  refine ml_aload_n (q := 2) F dL_law_1968 rfl rfl ?_
  refine ml_callSQ (hh := [(0, 9, 12, 21), (0, 9, 15, 77)]) (r8 := k9) (M8 := M1) (vl2 := fun r _ => some (.int r)) (av := [ml_rf g 0, .int (xs (i0 + 1)), ml_rf g 181]) (st := []) F (fL_minutesUntilLeaving_c ((xs (i0 + 1))) M _ hst hW) wcL_minutesUntilLeaving mlL_269 wdL_minutesUntilLeaving (by omega) (by omega) (by omega) rfl stL_minutesUntilLeaving rfl (Nat.le_of_ble_eq_true rfl) dL_law_1969 ?_
  refine ml_istore (ls2 := [(6, .int k9), (5, .int i), (4, ml_rf g 182), (3, ml_rf g 181), (2, ml_rf g 11), (1, ml_rf g 0), (0, .ref b)]) F dL_law_1972 (by decide) rfl ?_
  refine ml_aload_n (q := 4) F dL_law_1974 rfl rfl ?_
  refine ml_aload_n (q := 6) F dL_law_1975 rfl rfl ?_
  refine ml_iload (q := 1) F dL_law_1976 rfl ?_
  refine ml_iconst (v := 1) F dL_law_1978 (by decide) ?_
  refine ml_iadd F dL_law_1979 ?_
  refine ml_scld (j := i0 + 1) (x := xs (i0 + 1)) F S hi.2.1.1 hi.2.1.2.1 hi.2.1.2.2 rfl dL_law_1980 ?_
  refine ml_callVQ (r8 := b9) (M8 := M2) (vl2 := (fun r _ => some (.int r))) (av := [.int (xs (i0 + 1))]) (st := []) (kb := 11) (ci := 11) (T := TX7) (N := 16) F (pc11 g) rfl (fX7_minutesUntilLeaving_c ((xs (i0 + 1))) M1 _ hst hM) wcX7_minutesUntilLeaving mlL_271 wdX7_minutesUntilLeaving (by omega) (by omega) (by omega) rfl seX7_minutesUntilLeaving imX7_minutesUntilLeaving rfl (Nat.le_of_ble_eq_true rfl) dL_law_1981 ?_
  refine ml_istore (ls2 := [(7, .int b9), (6, .int k9), (5, .int i), (4, ml_rf g 182), (3, ml_rf g 181), (2, ml_rf g 11), (1, ml_rf g 0), (0, .ref b)]) F dL_law_1984 (by decide) rfl ?_
  refine ml_aload_n (q := 5) F dL_law_1986 rfl rfl ?_
  refine ml_callVQ (r8 := k9) (M8 := M3) (vl2 := (fun r _ => some (.int r))) (av := []) (st := []) (kb := 11) (ci := 11) (T := TX7) (N := 16) F (pc11 g) rfl (fX7_thrown_c M2 _ hst hT) wcX7_thrown mlL_155 wdX7_thrown (by omega) (by omega) (by omega) rfl seX7_thrown imX7_thrown rfl (Nat.le_of_ble_eq_true rfl) dL_law_1987 ?_
  refine ml_iload (q := 1) F dL_law_1990 rfl ?_
  refine ml_icmp_eqT (tgt := 1997) F dL_law_1992 (by decide) rfl ?_
  refine ml_iload (q := 1) F dL_law_1997 rfl ?_
  by_cases hk0 : k9 = 0
  · refine ml_if_neF (tgt := 2014) F dL_law_1999 (by decide) hk0 ?_
    refine ml_aload_n (q := 4) F dL_law_2002 rfl rfl ?_
    refine ml_iconst (v := 0) F dL_law_2003 (by decide) ?_
    refine ml_lald F dL_law_2004 ?_
    refine ml_iload (q := 0) F dL_law_2005 rfl ?_
    refine ml_i2l F dL_law_2007 ?_
    refine ml_lcmp0 F dL_law_2008 (by rw [hE hk0]) ?_
    refine ml_if_eqT (tgt := 2014) F dL_law_2009 (by decide) rfl ?_
    refine ml_goto (tgt := 2751) F dL_law_2014 (by decide) ?_
    exact ml_wid (by omega) (by omega) (ml_sub [2, 3, 4, 5, 6, 7] rfl K)
  · refine ml_if_neT (tgt := 2014) F dL_law_1999 (by decide) hk0 ?_
    refine ml_goto (tgt := 2751) F dL_law_2014 (by decide) ?_
    exact ml_wid (by omega) (by omega) (ml_sub [2, 3, 4, 5, 6, 7] rfl K)
set_option maxHeartbeats 4000000 in
set_option maxRecDepth 100000 in
theorem lwc_35 {E : ml_E} {g : ml_G} {lv mc ms k n b L i0 : Nat} {ret : Option FieldType} {tb : List ExceptionTableEntry} {xs : Nat → Int32} {i : Int32} {Q : State → Prop} {M M1 M2 M3 : ml_M} {k9 b9 : Int32} (hst : g.2.2.2.2.2.stackTraces = false) (F : ml_F E g cL_law RL 10 lv mc ms ret tb) (S : ml_S E g b L xs) (hi : lw_ix i i0 L) (hlv : 20 ≤ lv) (hk : k + 2 ≤ mc) (hn2 : n + 12 ≤ ms) (hW : fL_minutesUntilEqual ((xs (i0 + 1))) M = some (.inl k9, M1)) (hM : fX7_minutesUntilEqual ((xs (i0 + 1))) M1 = some (.inl b9, M2)) (hT : fX7_thrown M2 = some (.inl k9, M3)) (hE : k9 = 0 → M3 181 0 = b9) (K : ml_J E g 10 Q (k + 2) (n + 12) 2751 [(5, .int i), (4, ml_rf g 182), (3, ml_rf g 181), (2, ml_rf g 11), (1, ml_rf g 0), (0, .ref b)] [] M3) : ml_J E g 10 Q k n 2017 [(5, .int i), (4, ml_rf g 182), (3, ml_rf g 181), (2, ml_rf g 11), (1, ml_rf g 0), (0, .ref b)] [] M := by
  refine ml_aload_n (q := 4) F dL_law_2017 rfl rfl ?_
  refine ml_aload_n (q := 5) F dL_law_2018 rfl rfl ?_
  refine ml_iload (q := 0) F dL_law_2019 rfl ?_
  refine ml_iconst (v := 1) F dL_law_2021 (by decide) ?_
  refine ml_iadd F dL_law_2022 ?_
  refine ml_scld (j := i0 + 1) (x := xs (i0 + 1)) F S hi.2.1.1 hi.2.1.2.1 hi.2.1.2.2 rfl dL_law_2023 ?_
  refine ml_aload_n (q := 2) F dL_law_2024 rfl rfl ?_
  refine ml_callSQ (hh := [(0, 9, 12, 21), (0, 9, 15, 77)]) (r8 := k9) (M8 := M1) (vl2 := fun r _ => some (.int r)) (av := [ml_rf g 0, .int (xs (i0 + 1)), ml_rf g 181]) (st := []) F (fL_minutesUntilEqual_c ((xs (i0 + 1))) M _ hst hW) wcL_minutesUntilEqual mlL_272 wdL_minutesUntilEqual (by omega) (by omega) (by omega) rfl stL_minutesUntilEqual rfl (Nat.le_of_ble_eq_true rfl) dL_law_2025 ?_
  refine ml_istore (ls2 := [(6, .int k9), (5, .int i), (4, ml_rf g 182), (3, ml_rf g 181), (2, ml_rf g 11), (1, ml_rf g 0), (0, .ref b)]) F dL_law_2028 (by decide) rfl ?_
  refine ml_aload_n (q := 4) F dL_law_2030 rfl rfl ?_
  refine ml_aload_n (q := 6) F dL_law_2031 rfl rfl ?_
  refine ml_iload (q := 1) F dL_law_2032 rfl ?_
  refine ml_iconst (v := 1) F dL_law_2034 (by decide) ?_
  refine ml_iadd F dL_law_2035 ?_
  refine ml_scld (j := i0 + 1) (x := xs (i0 + 1)) F S hi.2.1.1 hi.2.1.2.1 hi.2.1.2.2 rfl dL_law_2036 ?_
  refine ml_callVQ (r8 := b9) (M8 := M2) (vl2 := (fun r _ => some (.int r))) (av := [.int (xs (i0 + 1))]) (st := []) (kb := 11) (ci := 11) (T := TX7) (N := 16) F (pc11 g) rfl (fX7_minutesUntilEqual_c ((xs (i0 + 1))) M1 _ hst hM) wcX7_minutesUntilEqual mlL_274 wdX7_minutesUntilEqual (by omega) (by omega) (by omega) rfl seX7_minutesUntilEqual imX7_minutesUntilEqual rfl (Nat.le_of_ble_eq_true rfl) dL_law_2037 ?_
  refine ml_istore (ls2 := [(7, .int b9), (6, .int k9), (5, .int i), (4, ml_rf g 182), (3, ml_rf g 181), (2, ml_rf g 11), (1, ml_rf g 0), (0, .ref b)]) F dL_law_2040 (by decide) rfl ?_
  refine ml_aload_n (q := 5) F dL_law_2042 rfl rfl ?_
  refine ml_callVQ (r8 := k9) (M8 := M3) (vl2 := (fun r _ => some (.int r))) (av := []) (st := []) (kb := 11) (ci := 11) (T := TX7) (N := 16) F (pc11 g) rfl (fX7_thrown_c M2 _ hst hT) wcX7_thrown mlL_155 wdX7_thrown (by omega) (by omega) (by omega) rfl seX7_thrown imX7_thrown rfl (Nat.le_of_ble_eq_true rfl) dL_law_2043 ?_
  refine ml_iload (q := 1) F dL_law_2046 rfl ?_
  refine ml_icmp_eqT (tgt := 2053) F dL_law_2048 (by decide) rfl ?_
  refine ml_iload (q := 1) F dL_law_2053 rfl ?_
  by_cases hk0 : k9 = 0
  · refine ml_if_neF (tgt := 2070) F dL_law_2055 (by decide) hk0 ?_
    refine ml_aload_n (q := 4) F dL_law_2058 rfl rfl ?_
    refine ml_iconst (v := 0) F dL_law_2059 (by decide) ?_
    refine ml_lald F dL_law_2060 ?_
    refine ml_iload (q := 0) F dL_law_2061 rfl ?_
    refine ml_i2l F dL_law_2063 ?_
    refine ml_lcmp0 F dL_law_2064 (by rw [hE hk0]) ?_
    refine ml_if_eqT (tgt := 2070) F dL_law_2065 (by decide) rfl ?_
    refine ml_goto (tgt := 2751) F dL_law_2070 (by decide) ?_
    exact ml_wid (by omega) (by omega) (ml_sub [2, 3, 4, 5, 6, 7] rfl K)
  · refine ml_if_neT (tgt := 2070) F dL_law_2055 (by decide) hk0 ?_
    refine ml_goto (tgt := 2751) F dL_law_2070 (by decide) ?_
    exact ml_wid (by omega) (by omega) (ml_sub [2, 3, 4, 5, 6, 7] rfl K)
set_option maxHeartbeats 4000000 in
set_option maxRecDepth 100000 in
theorem lwc_36 {E : ml_E} {g : ml_G} {lv mc ms k n b L i0 : Nat} {ret : Option FieldType} {tb : List ExceptionTableEntry} {xs : Nat → Int32} {i : Int32} {Q : State → Prop} {M M1 M2 M3 : ml_M} {k9 b9 : Int32} (hst : g.2.2.2.2.2.stackTraces = false) (F : ml_F E g cL_law RL 10 lv mc ms ret tb) (S : ml_S E g b L xs) (hi : lw_ix i i0 L) (hlv : 20 ≤ lv) (hk : k + 2 ≤ mc) (hn2 : n + 12 ≤ ms) (hW : fL_volumeAfter ((xs (i0 + 1))) ((xs (i0 + 2))) M = some (.inl k9, M1)) (hM : fX7_volumeAfter ((xs (i0 + 1))) ((xs (i0 + 2))) M1 = some (.inl b9, M2)) (hT : fX7_thrown M2 = some (.inl k9, M3)) (hE : k9 = 0 → M3 181 0 = b9) (K : ml_J E g 10 Q (k + 2) (n + 12) 2751 [(5, .int i), (4, ml_rf g 182), (3, ml_rf g 181), (2, ml_rf g 11), (1, ml_rf g 0), (0, .ref b)] [] M3) : ml_J E g 10 Q k n 2073 [(5, .int i), (4, ml_rf g 182), (3, ml_rf g 181), (2, ml_rf g 11), (1, ml_rf g 0), (0, .ref b)] [] M := by
  refine ml_aload_n (q := 4) F dL_law_2073 rfl rfl ?_
  refine ml_aload_n (q := 5) F dL_law_2074 rfl rfl ?_
  refine ml_iload (q := 0) F dL_law_2075 rfl ?_
  refine ml_iconst (v := 1) F dL_law_2077 (by decide) ?_
  refine ml_iadd F dL_law_2078 ?_
  refine ml_scld (j := i0 + 1) (x := xs (i0 + 1)) F S hi.2.1.1 hi.2.1.2.1 hi.2.1.2.2 rfl dL_law_2079 ?_
  refine ml_aload_n (q := 5) F dL_law_2080 rfl rfl ?_
  refine ml_iload (q := 0) F dL_law_2081 rfl ?_
  refine ml_iconst (v := 2) F dL_law_2083 (by decide) ?_
  refine ml_iadd F dL_law_2084 ?_
  refine ml_scld (j := i0 + 2) (x := xs (i0 + 2)) F S hi.2.2.1.1 hi.2.2.1.2.1 hi.2.2.1.2.2 rfl dL_law_2085 ?_
  refine ml_aload_n (q := 2) F dL_law_2086 rfl rfl ?_
  refine ml_callSQ (hh := [(0, 10, 13, 21), (0, 10, 17, 13)]) (r8 := k9) (M8 := M1) (vl2 := fun r _ => some (.int r)) (av := [ml_rf g 0, .int (xs (i0 + 1)), .int (xs (i0 + 2)), ml_rf g 181]) (st := []) F (fL_volumeAfter_c ((xs (i0 + 1))) ((xs (i0 + 2))) M _ hst hW) wcL_volumeAfter mlL_275 wdL_volumeAfter (by omega) (by omega) (by omega) rfl stL_volumeAfter rfl (Nat.le_of_ble_eq_true rfl) dL_law_2087 ?_
  refine ml_istore (ls2 := [(6, .int k9), (5, .int i), (4, ml_rf g 182), (3, ml_rf g 181), (2, ml_rf g 11), (1, ml_rf g 0), (0, .ref b)]) F dL_law_2090 (by decide) rfl ?_
  refine ml_aload_n (q := 4) F dL_law_2092 rfl rfl ?_
  refine ml_aload_n (q := 6) F dL_law_2093 rfl rfl ?_
  refine ml_iload (q := 1) F dL_law_2094 rfl ?_
  refine ml_iconst (v := 1) F dL_law_2096 (by decide) ?_
  refine ml_iadd F dL_law_2097 ?_
  refine ml_scld (j := i0 + 1) (x := xs (i0 + 1)) F S hi.2.1.1 hi.2.1.2.1 hi.2.1.2.2 rfl dL_law_2098 ?_
  refine ml_aload_n (q := 6) F dL_law_2099 rfl rfl ?_
  refine ml_iload (q := 1) F dL_law_2100 rfl ?_
  refine ml_iconst (v := 2) F dL_law_2102 (by decide) ?_
  refine ml_iadd F dL_law_2103 ?_
  refine ml_scld (j := i0 + 2) (x := xs (i0 + 2)) F S hi.2.2.1.1 hi.2.2.1.2.1 hi.2.2.1.2.2 rfl dL_law_2104 ?_
  refine ml_callVQ (r8 := b9) (M8 := M2) (vl2 := (fun r _ => some (.int r))) (av := [.int (xs (i0 + 1)), .int (xs (i0 + 2))]) (st := []) (kb := 11) (ci := 11) (T := TX7) (N := 16) F (pc11 g) rfl (fX7_volumeAfter_c ((xs (i0 + 1))) ((xs (i0 + 2))) M1 _ hst hM) wcX7_volumeAfter mlL_277 wdX7_volumeAfter (by omega) (by omega) (by omega) rfl seX7_volumeAfter imX7_volumeAfter rfl (Nat.le_of_ble_eq_true rfl) dL_law_2105 ?_
  refine ml_istore (ls2 := [(7, .int b9), (6, .int k9), (5, .int i), (4, ml_rf g 182), (3, ml_rf g 181), (2, ml_rf g 11), (1, ml_rf g 0), (0, .ref b)]) F dL_law_2108 (by decide) rfl ?_
  refine ml_aload_n (q := 5) F dL_law_2110 rfl rfl ?_
  refine ml_callVQ (r8 := k9) (M8 := M3) (vl2 := (fun r _ => some (.int r))) (av := []) (st := []) (kb := 11) (ci := 11) (T := TX7) (N := 16) F (pc11 g) rfl (fX7_thrown_c M2 _ hst hT) wcX7_thrown mlL_155 wdX7_thrown (by omega) (by omega) (by omega) rfl seX7_thrown imX7_thrown rfl (Nat.le_of_ble_eq_true rfl) dL_law_2111 ?_
  refine ml_iload (q := 1) F dL_law_2114 rfl ?_
  refine ml_icmp_eqT (tgt := 2121) F dL_law_2116 (by decide) rfl ?_
  refine ml_iload (q := 1) F dL_law_2121 rfl ?_
  by_cases hk0 : k9 = 0
  · refine ml_if_neF (tgt := 2138) F dL_law_2123 (by decide) hk0 ?_
    refine ml_aload_n (q := 4) F dL_law_2126 rfl rfl ?_
    refine ml_iconst (v := 0) F dL_law_2127 (by decide) ?_
    refine ml_lald F dL_law_2128 ?_
    refine ml_iload (q := 0) F dL_law_2129 rfl ?_
    refine ml_i2l F dL_law_2131 ?_
    refine ml_lcmp0 F dL_law_2132 (by rw [hE hk0]) ?_
    refine ml_if_eqT (tgt := 2138) F dL_law_2133 (by decide) rfl ?_
    refine ml_goto (tgt := 2751) F dL_law_2138 (by decide) ?_
    exact ml_wid (by omega) (by omega) (ml_sub [2, 3, 4, 5, 6, 7] rfl K)
  · refine ml_if_neT (tgt := 2138) F dL_law_2123 (by decide) hk0 ?_
    refine ml_goto (tgt := 2751) F dL_law_2138 (by decide) ?_
    exact ml_wid (by omega) (by omega) (ml_sub [2, 3, 4, 5, 6, 7] rfl K)
set_option maxHeartbeats 4000000 in
set_option maxRecDepth 100000 in
theorem lwc_37 {E : ml_E} {g : ml_G} {lv mc ms k n b L i0 : Nat} {ret : Option FieldType} {tb : List ExceptionTableEntry} {xs : Nat → Int32} {i : Int32} {Q : State → Prop} {M M1 M2 : ml_M} {r9 : Int32} (hst : g.2.2.2.2.2.stackTraces = false) (F : ml_F E g cL_law RL 10 lv mc ms ret tb) (S : ml_S E g b L xs) (hi : lw_ix i i0 L) (hlv : 20 ≤ lv) (hk : k + 2 ≤ mc) (hn2 : n + 12 ≤ ms) (hX : fX6_eventCount M = some (.inl r9, M1)) (hM : fX7_eventCount M1 = some (.inl r9, M2)) (K : ml_J E g 10 Q (k + 2) (n + 12) 2751 [(5, .int i), (4, ml_rf g 182), (3, ml_rf g 181), (2, ml_rf g 11), (1, ml_rf g 0), (0, .ref b)] [] M2) : ml_J E g 10 Q k n 2141 [(5, .int i), (4, ml_rf g 182), (3, ml_rf g 181), (2, ml_rf g 11), (1, ml_rf g 0), (0, .ref b)] [] M := by
  refine ml_aload_n (q := 4) F dL_law_2141 rfl rfl ?_
  refine ml_callVQ (r8 := r9) (M8 := M1) (vl2 := (fun r _ => some (.int r))) (av := []) (st := []) (kb := 0) (ci := 10) (T := TX6) (N := 9) F (pc0 g) rfl (fX6_eventCount_c M _ hst hX) wcX6_eventCount mlL_278 wdX6_eventCount (by omega) (by omega) (by omega) rfl seX6_eventCount imX6_eventCount rfl (Nat.le_of_ble_eq_true rfl) dL_law_2142 ?_
  refine ml_aload_n (q := 3) F dL_law_2145 rfl rfl ?_
  refine ml_callVQ (r8 := r9) (M8 := M2) (vl2 := (fun r _ => some (.int r))) (av := []) (st := [.int r9]) (kb := 11) (ci := 11) (T := TX7) (N := 16) F (pc11 g) rfl (fX7_eventCount_c M1 _ hst hM) wcX7_eventCount mlL_281 wdX7_eventCount (by omega) (by omega) (by omega) rfl seX7_eventCount imX7_eventCount rfl (Nat.le_of_ble_eq_true rfl) dL_law_2146 ?_
  refine ml_icmp_eqT (tgt := 2751) F dL_law_2149 (by decide) rfl ?_
  exact ml_wid (by omega) (by omega) (ml_sub [0, 1, 2, 3, 4, 5] rfl K)
set_option maxHeartbeats 4000000 in
set_option maxRecDepth 100000 in
theorem lwc_38 {E : ml_E} {g : ml_G} {lv mc ms k n b L i0 : Nat} {ret : Option FieldType} {tb : List ExceptionTableEntry} {xs : Nat → Int32} {i : Int32} {Q : State → Prop} {M M1 M2 M3 : ml_M} {k9 b9 : Int32} (hst : g.2.2.2.2.2.stackTraces = false) (F : ml_F E g cL_law RL 10 lv mc ms ret tb) (S : ml_S E g b L xs) (hi : lw_ix i i0 L) (hlv : 20 ≤ lv) (hk : k + 2 ≤ mc) (hn2 : n + 12 ≤ ms) (hW : fL_eventKind ((xs (i0 + 1))) M = some (.inl k9, M1)) (hM : fX7_eventKind ((xs (i0 + 1))) M1 = some (.inl b9, M2)) (hT : fX7_thrown M2 = some (.inl k9, M3)) (hE : k9 = 0 → M3 181 0 = b9) (K : ml_J E g 10 Q (k + 2) (n + 12) 2751 [(5, .int i), (4, ml_rf g 182), (3, ml_rf g 181), (2, ml_rf g 11), (1, ml_rf g 0), (0, .ref b)] [] M3) : ml_J E g 10 Q k n 2154 [(5, .int i), (4, ml_rf g 182), (3, ml_rf g 181), (2, ml_rf g 11), (1, ml_rf g 0), (0, .ref b)] [] M := by
  refine ml_aload_n (q := 4) F dL_law_2154 rfl rfl ?_
  refine ml_aload_n (q := 5) F dL_law_2155 rfl rfl ?_
  refine ml_iload (q := 0) F dL_law_2156 rfl ?_
  refine ml_iconst (v := 1) F dL_law_2158 (by decide) ?_
  refine ml_iadd F dL_law_2159 ?_
  refine ml_scld (j := i0 + 1) (x := xs (i0 + 1)) F S hi.2.1.1 hi.2.1.2.1 hi.2.1.2.2 rfl dL_law_2160 ?_
  refine ml_aload_n (q := 2) F dL_law_2161 rfl rfl ?_
  refine ml_callSQ (hh := [(0, 9, 12, 77)]) (r8 := k9) (M8 := M1) (vl2 := fun r _ => some (.int r)) (av := [ml_rf g 0, .int (xs (i0 + 1)), ml_rf g 181]) (st := []) F (fL_eventKind_c ((xs (i0 + 1))) M _ hst hW) wcL_eventKind mlL_282 wdL_eventKind (by omega) (by omega) (by omega) rfl stL_eventKind rfl (Nat.le_of_ble_eq_true rfl) dL_law_2162 ?_
  refine ml_istore (ls2 := [(6, .int k9), (5, .int i), (4, ml_rf g 182), (3, ml_rf g 181), (2, ml_rf g 11), (1, ml_rf g 0), (0, .ref b)]) F dL_law_2165 (by decide) rfl ?_
  refine ml_aload_n (q := 4) F dL_law_2167 rfl rfl ?_
  refine ml_aload_n (q := 6) F dL_law_2168 rfl rfl ?_
  refine ml_iload (q := 1) F dL_law_2169 rfl ?_
  refine ml_iconst (v := 1) F dL_law_2171 (by decide) ?_
  refine ml_iadd F dL_law_2172 ?_
  refine ml_scld (j := i0 + 1) (x := xs (i0 + 1)) F S hi.2.1.1 hi.2.1.2.1 hi.2.1.2.2 rfl dL_law_2173 ?_
  refine ml_callVQ (r8 := b9) (M8 := M2) (vl2 := (fun r _ => some (.int r))) (av := [.int (xs (i0 + 1))]) (st := []) (kb := 11) (ci := 11) (T := TX7) (N := 16) F (pc11 g) rfl (fX7_eventKind_c ((xs (i0 + 1))) M1 _ hst hM) wcX7_eventKind mlL_284 wdX7_eventKind (by omega) (by omega) (by omega) rfl seX7_eventKind imX7_eventKind rfl (Nat.le_of_ble_eq_true rfl) dL_law_2174 ?_
  refine ml_istore (ls2 := [(7, .int b9), (6, .int k9), (5, .int i), (4, ml_rf g 182), (3, ml_rf g 181), (2, ml_rf g 11), (1, ml_rf g 0), (0, .ref b)]) F dL_law_2177 (by decide) rfl ?_
  refine ml_aload_n (q := 5) F dL_law_2179 rfl rfl ?_
  refine ml_callVQ (r8 := k9) (M8 := M3) (vl2 := (fun r _ => some (.int r))) (av := []) (st := []) (kb := 11) (ci := 11) (T := TX7) (N := 16) F (pc11 g) rfl (fX7_thrown_c M2 _ hst hT) wcX7_thrown mlL_155 wdX7_thrown (by omega) (by omega) (by omega) rfl seX7_thrown imX7_thrown rfl (Nat.le_of_ble_eq_true rfl) dL_law_2180 ?_
  refine ml_iload (q := 1) F dL_law_2183 rfl ?_
  refine ml_icmp_eqT (tgt := 2190) F dL_law_2185 (by decide) rfl ?_
  refine ml_iload (q := 1) F dL_law_2190 rfl ?_
  by_cases hk0 : k9 = 0
  · refine ml_if_neF (tgt := 2207) F dL_law_2192 (by decide) hk0 ?_
    refine ml_aload_n (q := 4) F dL_law_2195 rfl rfl ?_
    refine ml_iconst (v := 0) F dL_law_2196 (by decide) ?_
    refine ml_lald F dL_law_2197 ?_
    refine ml_iload (q := 0) F dL_law_2198 rfl ?_
    refine ml_i2l F dL_law_2200 ?_
    refine ml_lcmp0 F dL_law_2201 (by rw [hE hk0]) ?_
    refine ml_if_eqT (tgt := 2207) F dL_law_2202 (by decide) rfl ?_
    refine ml_goto (tgt := 2751) F dL_law_2207 (by decide) ?_
    exact ml_wid (by omega) (by omega) (ml_sub [2, 3, 4, 5, 6, 7] rfl K)
  · refine ml_if_neT (tgt := 2207) F dL_law_2192 (by decide) hk0 ?_
    refine ml_goto (tgt := 2751) F dL_law_2207 (by decide) ?_
    exact ml_wid (by omega) (by omega) (ml_sub [2, 3, 4, 5, 6, 7] rfl K)
set_option maxHeartbeats 4000000 in
set_option maxRecDepth 100000 in
theorem lwc_39 {E : ml_E} {g : ml_G} {lv mc ms k n b L i0 : Nat} {ret : Option FieldType} {tb : List ExceptionTableEntry} {xs : Nat → Int32} {i : Int32} {Q : State → Prop} {M M1 M2 M3 : ml_M} {k9 b9 : Int32} (hst : g.2.2.2.2.2.stackTraces = false) (F : ml_F E g cL_law RL 10 lv mc ms ret tb) (S : ml_S E g b L xs) (hi : lw_ix i i0 L) (hlv : 20 ≤ lv) (hk : k + 2 ≤ mc) (hn2 : n + 12 ≤ ms) (hW : fL_eventNumber ((xs (i0 + 1))) M = some (.inl k9, M1)) (hM : fX7_eventNumber ((xs (i0 + 1))) M1 = some (.inl b9, M2)) (hT : fX7_thrown M2 = some (.inl k9, M3)) (hE : k9 = 0 → M3 181 0 = b9) (K : ml_J E g 10 Q (k + 2) (n + 12) 2751 [(5, .int i), (4, ml_rf g 182), (3, ml_rf g 181), (2, ml_rf g 11), (1, ml_rf g 0), (0, .ref b)] [] M3) : ml_J E g 10 Q k n 2210 [(5, .int i), (4, ml_rf g 182), (3, ml_rf g 181), (2, ml_rf g 11), (1, ml_rf g 0), (0, .ref b)] [] M := by
  refine ml_aload_n (q := 4) F dL_law_2210 rfl rfl ?_
  refine ml_aload_n (q := 5) F dL_law_2211 rfl rfl ?_
  refine ml_iload (q := 0) F dL_law_2212 rfl ?_
  refine ml_iconst (v := 1) F dL_law_2214 (by decide) ?_
  refine ml_iadd F dL_law_2215 ?_
  refine ml_scld (j := i0 + 1) (x := xs (i0 + 1)) F S hi.2.1.1 hi.2.1.2.1 hi.2.1.2.2 rfl dL_law_2216 ?_
  refine ml_aload_n (q := 2) F dL_law_2217 rfl rfl ?_
  refine ml_callSQ (hh := [(0, 9, 12, 77)]) (r8 := k9) (M8 := M1) (vl2 := fun r _ => some (.int r)) (av := [ml_rf g 0, .int (xs (i0 + 1)), ml_rf g 181]) (st := []) F (fL_eventNumber_c ((xs (i0 + 1))) M _ hst hW) wcL_eventNumber mlL_285 wdL_eventNumber (by omega) (by omega) (by omega) rfl stL_eventNumber rfl (Nat.le_of_ble_eq_true rfl) dL_law_2218 ?_
  refine ml_istore (ls2 := [(6, .int k9), (5, .int i), (4, ml_rf g 182), (3, ml_rf g 181), (2, ml_rf g 11), (1, ml_rf g 0), (0, .ref b)]) F dL_law_2221 (by decide) rfl ?_
  refine ml_aload_n (q := 4) F dL_law_2223 rfl rfl ?_
  refine ml_aload_n (q := 6) F dL_law_2224 rfl rfl ?_
  refine ml_iload (q := 1) F dL_law_2225 rfl ?_
  refine ml_iconst (v := 1) F dL_law_2227 (by decide) ?_
  refine ml_iadd F dL_law_2228 ?_
  refine ml_scld (j := i0 + 1) (x := xs (i0 + 1)) F S hi.2.1.1 hi.2.1.2.1 hi.2.1.2.2 rfl dL_law_2229 ?_
  refine ml_callVQ (r8 := b9) (M8 := M2) (vl2 := (fun r _ => some (.int r))) (av := [.int (xs (i0 + 1))]) (st := []) (kb := 11) (ci := 11) (T := TX7) (N := 16) F (pc11 g) rfl (fX7_eventNumber_c ((xs (i0 + 1))) M1 _ hst hM) wcX7_eventNumber mlL_287 wdX7_eventNumber (by omega) (by omega) (by omega) rfl seX7_eventNumber imX7_eventNumber rfl (Nat.le_of_ble_eq_true rfl) dL_law_2230 ?_
  refine ml_istore (ls2 := [(7, .int b9), (6, .int k9), (5, .int i), (4, ml_rf g 182), (3, ml_rf g 181), (2, ml_rf g 11), (1, ml_rf g 0), (0, .ref b)]) F dL_law_2233 (by decide) rfl ?_
  refine ml_aload_n (q := 5) F dL_law_2235 rfl rfl ?_
  refine ml_callVQ (r8 := k9) (M8 := M3) (vl2 := (fun r _ => some (.int r))) (av := []) (st := []) (kb := 11) (ci := 11) (T := TX7) (N := 16) F (pc11 g) rfl (fX7_thrown_c M2 _ hst hT) wcX7_thrown mlL_155 wdX7_thrown (by omega) (by omega) (by omega) rfl seX7_thrown imX7_thrown rfl (Nat.le_of_ble_eq_true rfl) dL_law_2236 ?_
  refine ml_iload (q := 1) F dL_law_2239 rfl ?_
  refine ml_icmp_eqT (tgt := 2246) F dL_law_2241 (by decide) rfl ?_
  refine ml_iload (q := 1) F dL_law_2246 rfl ?_
  by_cases hk0 : k9 = 0
  · refine ml_if_neF (tgt := 2263) F dL_law_2248 (by decide) hk0 ?_
    refine ml_aload_n (q := 4) F dL_law_2251 rfl rfl ?_
    refine ml_iconst (v := 0) F dL_law_2252 (by decide) ?_
    refine ml_lald F dL_law_2253 ?_
    refine ml_iload (q := 0) F dL_law_2254 rfl ?_
    refine ml_i2l F dL_law_2256 ?_
    refine ml_lcmp0 F dL_law_2257 (by rw [hE hk0]) ?_
    refine ml_if_eqT (tgt := 2263) F dL_law_2258 (by decide) rfl ?_
    refine ml_goto (tgt := 2751) F dL_law_2263 (by decide) ?_
    exact ml_wid (by omega) (by omega) (ml_sub [2, 3, 4, 5, 6, 7] rfl K)
  · refine ml_if_neT (tgt := 2263) F dL_law_2248 (by decide) hk0 ?_
    refine ml_goto (tgt := 2751) F dL_law_2263 (by decide) ?_
    exact ml_wid (by omega) (by omega) (ml_sub [2, 3, 4, 5, 6, 7] rfl K)
set_option maxHeartbeats 4000000 in
set_option maxRecDepth 100000 in
theorem lwc_40 {E : ml_E} {g : ml_G} {lv mc ms k n b L i0 : Nat} {ret : Option FieldType} {tb : List ExceptionTableEntry} {xs : Nat → Int32} {i : Int32} {Q : State → Prop} {M M1 M2 : ml_M} {r9 : Int32} (hst : g.2.2.2.2.2.stackTraces = false) (F : ml_F E g cL_law RL 10 lv mc ms ret tb) (S : ml_S E g b L xs) (hi : lw_ix i i0 L) (hlv : 20 ≤ lv) (hk : k + 2 ≤ mc) (hn2 : n + 12 ≤ ms) (hX : fX6_time M = some (.inl r9, M1)) (hM : fX7_time M1 = some (.inl r9, M2)) (K : ml_J E g 10 Q (k + 2) (n + 12) 2751 [(5, .int i), (4, ml_rf g 182), (3, ml_rf g 181), (2, ml_rf g 11), (1, ml_rf g 0), (0, .ref b)] [] M2) : ml_J E g 10 Q k n 2266 [(5, .int i), (4, ml_rf g 182), (3, ml_rf g 181), (2, ml_rf g 11), (1, ml_rf g 0), (0, .ref b)] [] M := by
  refine ml_aload_n (q := 4) F dL_law_2266 rfl rfl ?_
  refine ml_callVQ (r8 := r9) (M8 := M1) (vl2 := (fun r _ => some (.int r))) (av := []) (st := []) (kb := 0) (ci := 10) (T := TX6) (N := 9) F (pc0 g) rfl (fX6_time_c M _ hst hX) wcX6_time mlL_288 wdX6_time (by omega) (by omega) (by omega) rfl seX6_time imX6_time rfl (Nat.le_of_ble_eq_true rfl) dL_law_2267 ?_
  refine ml_aload_n (q := 3) F dL_law_2270 rfl rfl ?_
  refine ml_callVQ (r8 := r9) (M8 := M2) (vl2 := (fun r _ => some (.int r))) (av := []) (st := [.int r9]) (kb := 11) (ci := 11) (T := TX7) (N := 16) F (pc11 g) rfl (fX7_time_c M1 _ hst hM) wcX7_time mlL_291 wdX7_time (by omega) (by omega) (by omega) rfl seX7_time imX7_time rfl (Nat.le_of_ble_eq_true rfl) dL_law_2271 ?_
  refine ml_icmp_eqT (tgt := 2751) F dL_law_2274 (by decide) rfl ?_
  exact ml_wid (by omega) (by omega) (ml_sub [0, 1, 2, 3, 4, 5] rfl K)
set_option maxHeartbeats 4000000 in
set_option maxRecDepth 100000 in
theorem lwc_41 {E : ml_E} {g : ml_G} {lv mc ms k n b L i0 : Nat} {ret : Option FieldType} {tb : List ExceptionTableEntry} {xs : Nat → Int32} {i : Int32} {Q : State → Prop} {M M1 M2 : ml_M} {r9 r8 : Int32} (hst : g.2.2.2.2.2.stackTraces = false) (F : ml_F E g cL_law RL 10 lv mc ms ret tb) (S : ml_S E g b L xs) (hi : lw_ix i i0 L) (hlv : 20 ≤ lv) (hk : k + 2 ≤ mc) (hn2 : n + 12 ≤ ms) (hX : fX6_meanLevel M = some (.inl r9, M1)) (hM : fX7_meanLevel M1 = some (.inl r8, M2)) (hE : M1 200 0 = M2 200 0) (hN : vf_n64 (FP.f2d (FP.fdiv (FP.i2f (M2 200 0)) (FP.i2f 38)))) (K : ml_J E g 10 Q (k + 2) (n + 12) 2751 [(5, .int i), (4, ml_rf g 182), (3, ml_rf g 181), (2, ml_rf g 11), (1, ml_rf g 0), (0, .ref b)] [] M2) : ml_J E g 10 Q k n 2279 [(5, .int i), (4, ml_rf g 182), (3, ml_rf g 181), (2, ml_rf g 11), (1, ml_rf g 0), (0, .ref b)] [] M := by
  refine ml_aload_n (q := 4) F dL_law_2279 rfl rfl ?_
  refine ml_callVQ (r8 := r9) (M8 := M1) (vl2 := (fun _ M => some (.float (FP.fdiv (FP.i2f (M 200 0)) (FP.i2f 38))))) (av := []) (st := []) (kb := 0) (ci := 10) (T := TX6) (N := 9) F (pc0 g) rfl (fX6_meanLevel_c M _ hst hX) wcX6_meanLevel mlL_292 wdX6_meanLevel (by omega) (by omega) (by omega) rfl seX6_meanLevel imX6_meanLevel rfl (Nat.le_of_ble_eq_true rfl) dL_law_2280 ?_
  refine ml_f2d F dL_law_2283 (by first | exact hN | (rw [hE]; exact hN)) ?_
  refine ml_dstore (ls2 := [(6, .double (FP.f2d (FP.fdiv (FP.i2f (M1 200 0)) (FP.i2f 38)))), (5, .int i), (4, ml_rf g 182), (3, ml_rf g 181), (2, ml_rf g 11), (1, ml_rf g 0), (0, .ref b)]) F dL_law_2284 (by decide) rfl ?_
  refine ml_aload_n (q := 4) F dL_law_2286 rfl rfl ?_
  refine ml_callVQ (r8 := r8) (M8 := M2) (vl2 := (fun _ M => some (.float (FP.fdiv (FP.i2f (M 200 0)) (FP.i2f 38))))) (av := []) (st := []) (kb := 11) (ci := 11) (T := TX7) (N := 16) F (pc11 g) rfl (fX7_meanLevel_c M1 _ hst hM) wcX7_meanLevel mlL_296 wdX7_meanLevel (by omega) (by omega) (by omega) rfl seX7_meanLevel imX7_meanLevel rfl (Nat.le_of_ble_eq_true rfl) dL_law_2287 ?_
  refine ml_f2d F dL_law_2290 (by first | exact hN | (rw [hE]; exact hN)) ?_
  refine ml_dstore (ls2 := [(8, .double (FP.f2d (FP.fdiv (FP.i2f (M2 200 0)) (FP.i2f 38)))), (6, .double (FP.f2d (FP.fdiv (FP.i2f (M1 200 0)) (FP.i2f 38)))), (5, .int i), (4, ml_rf g 182), (3, ml_rf g 181), (2, ml_rf g 11), (1, ml_rf g 0), (0, .ref b)]) F dL_law_2291 (by decide) rfl ?_
  refine ml_dload (q := 1) F dL_law_2293 rfl ?_
  refine ml_dload (q := 0) F dL_law_2295 rfl ?_
  refine ml_dcmp F dL_law_2297 ?_
  try rw [hE]
  obtain ⟨v, hv⟩ : ∃ v, v = Op.cmpValue (FP.dcmp (FP.f2d (FP.fdiv (FP.i2f (M2 200 0)) (FP.i2f 38))) (FP.f2d (FP.fdiv (FP.i2f (M2 200 0)) (FP.i2f 38)))) CmpOp.l := ⟨_, rfl⟩
  rw [← hv]
  by_cases hv0 : v = 0
  · refine ml_if_eqT (tgt := 2319) F dL_law_2298 (by decide) hv0 ?_
    refine ml_goto (tgt := 2751) F dL_law_2319 (by decide) ?_
    exact ml_wid (by omega) (by omega) (ml_sub [2, 3, 4, 5, 6, 7] rfl K)
  · refine ml_if_eqF (tgt := 2319) F dL_law_2298 (by decide) hv0 ?_
    refine ml_dload (q := 1) F dL_law_2301 rfl ?_
    refine ml_dload (q := 1) F dL_law_2303 rfl ?_
    refine ml_dcmp F dL_law_2305 ?_
    try rw [hE]
    rw [← hv]
    refine ml_if_eqF (tgt := 2317) F dL_law_2306 (by decide) hv0 ?_
    refine ml_dload (q := 0) F dL_law_2309 rfl ?_
    refine ml_dload (q := 0) F dL_law_2311 rfl ?_
    refine ml_dcmp F dL_law_2313 ?_
    try rw [hE]
    rw [← hv]
    refine ml_if_neT (tgt := 2319) F dL_law_2314 (by decide) hv0 ?_
    refine ml_goto (tgt := 2751) F dL_law_2319 (by decide) ?_
    exact ml_wid (by omega) (by omega) (ml_sub [2, 3, 4, 5, 6, 7] rfl K)
set_option maxHeartbeats 4000000 in
set_option maxRecDepth 100000 in
theorem lwc_42 {E : ml_E} {g : ml_G} {lv mc ms k n b L i0 : Nat} {ret : Option FieldType} {tb : List ExceptionTableEntry} {xs : Nat → Int32} {i : Int32} {Q : State → Prop} {M M1 M2 : ml_M} {r9 : Int32} (hst : g.2.2.2.2.2.stackTraces = false) (F : ml_F E g cL_law RL 10 lv mc ms ret tb) (S : ml_S E g b L xs) (hi : lw_ix i i0 L) (hlv : 20 ≤ lv) (hk : k + 2 ≤ mc) (hn2 : n + 12 ≤ ms) (hX : fX6_isConsistent M = some (.inl r9, M1)) (hM : fX7_isConsistent M1 = some (.inl r9, M2)) (K : ml_J E g 10 Q (k + 2) (n + 12) 2751 [(5, .int i), (4, ml_rf g 182), (3, ml_rf g 181), (2, ml_rf g 11), (1, ml_rf g 0), (0, .ref b)] [] M2) : ml_J E g 10 Q k n 2322 [(5, .int i), (4, ml_rf g 182), (3, ml_rf g 181), (2, ml_rf g 11), (1, ml_rf g 0), (0, .ref b)] [] M := by
  refine ml_aload_n (q := 4) F dL_law_2322 rfl rfl ?_
  refine ml_callVQ (r8 := r9) (M8 := M1) (vl2 := (fun r _ => some (.int r))) (av := []) (st := []) (kb := 0) (ci := 10) (T := TX6) (N := 9) F (pc0 g) rfl (fX6_isConsistent_c M _ hst hX) wcX6_isConsistent mlL_297 wdX6_isConsistent (by omega) (by omega) (by omega) rfl seX6_isConsistent imX6_isConsistent rfl (Nat.le_of_ble_eq_true rfl) dL_law_2323 ?_
  refine ml_aload_n (q := 3) F dL_law_2326 rfl rfl ?_
  refine ml_callVQ (r8 := r9) (M8 := M2) (vl2 := (fun r _ => some (.int r))) (av := []) (st := [.int r9]) (kb := 11) (ci := 11) (T := TX7) (N := 16) F (pc11 g) rfl (fX7_isConsistent_c M1 _ hst hM) wcX7_isConsistent mlL_301 wdX7_isConsistent (by omega) (by omega) (by omega) rfl seX7_isConsistent imX7_isConsistent rfl (Nat.le_of_ble_eq_true rfl) dL_law_2327 ?_
  refine ml_icmp_eqT (tgt := 2751) F dL_law_2330 (by decide) rfl ?_
  exact ml_wid (by omega) (by omega) (ml_sub [0, 1, 2, 3, 4, 5] rfl K)
set_option maxHeartbeats 4000000 in
set_option maxRecDepth 100000 in
theorem lwc_43 {E : ml_E} {g : ml_G} {lv mc ms k n b L i0 : Nat} {ret : Option FieldType} {tb : List ExceptionTableEntry} {xs : Nat → Int32} {i : Int32} {Q : State → Prop} {M M1 M2 : ml_M} {r9 : Int32} (hst : g.2.2.2.2.2.stackTraces = false) (F : ml_F E g cL_law RL 10 lv mc ms ret tb) (S : ml_S E g b L xs) (hi : lw_ix i i0 L) (hlv : 20 ≤ lv) (hk : k + 2 ≤ mc) (hn2 : n + 12 ≤ ms) (hX : fX6_renderLevels M = some (.inl r9, M1)) (hM : fX7_renderLevels M1 = some (.inl r9, M2)) (K : ml_J E g 10 Q (k + 2) (n + 12) 2751 [(5, .int i), (4, ml_rf g 182), (3, ml_rf g 181), (2, ml_rf g 11), (1, ml_rf g 0), (0, .ref b)] [] M2) : ml_J E g 10 Q k n 2335 [(5, .int i), (4, ml_rf g 182), (3, ml_rf g 181), (2, ml_rf g 11), (1, ml_rf g 0), (0, .ref b)] [] M := by
  refine ml_aload_n (q := 4) F dL_law_2335 rfl rfl ?_
  refine ml_callVQ (r8 := r9) (M8 := M1) (vl2 := (fun r _ => some (.int r))) (av := []) (st := []) (kb := 0) (ci := 10) (T := TX6) (N := 9) F (pc0 g) rfl (fX6_renderLevels_c M _ hst hX) wcX6_renderLevels mlL_302 wdX6_renderLevels (by omega) (by omega) (by omega) rfl seX6_renderLevels imX6_renderLevels rfl (Nat.le_of_ble_eq_true rfl) dL_law_2336 ?_
  refine ml_aload_n (q := 3) F dL_law_2339 rfl rfl ?_
  refine ml_callVQ (r8 := r9) (M8 := M2) (vl2 := (fun r _ => some (.int r))) (av := []) (st := [.int r9]) (kb := 11) (ci := 11) (T := TX7) (N := 16) F (pc11 g) rfl (fX7_renderLevels_c M1 _ hst hM) wcX7_renderLevels mlL_305 wdX7_renderLevels (by omega) (by omega) (by omega) rfl seX7_renderLevels imX7_renderLevels rfl (Nat.le_of_ble_eq_true rfl) dL_law_2340 ?_
  refine ml_icmp_eqT (tgt := 2751) F dL_law_2343 (by decide) rfl ?_
  exact ml_wid (by omega) (by omega) (ml_sub [0, 1, 2, 3, 4, 5] rfl K)
set_option maxHeartbeats 4000000 in
set_option maxRecDepth 100000 in
theorem lwc_44 {E : ml_E} {g : ml_G} {lv mc ms k n b L i0 : Nat} {ret : Option FieldType} {tb : List ExceptionTableEntry} {xs : Nat → Int32} {i : Int32} {Q : State → Prop} {M M1 M2 M3 : ml_M} {k9 b9 : Int32} (hst : g.2.2.2.2.2.stackTraces = false) (F : ml_F E g cL_law RL 10 lv mc ms ret tb) (S : ml_S E g b L xs) (hi : lw_ix i i0 L) (hlv : 20 ≤ lv) (hk : k + 2 ≤ mc) (hn2 : n + 12 ≤ ms) (hW : fL_renderBoat ((xs (i0 + 1))) M = some (.inl k9, M1)) (hM : fX7_renderBoat ((xs (i0 + 1))) M1 = some (.inl b9, M2)) (hT : fX7_thrown M2 = some (.inl k9, M3)) (hE : k9 = 0 → M3 181 0 = b9) (K : ml_J E g 10 Q (k + 2) (n + 12) 2751 [(5, .int i), (4, ml_rf g 182), (3, ml_rf g 181), (2, ml_rf g 11), (1, ml_rf g 0), (0, .ref b)] [] M3) : ml_J E g 10 Q k n 2348 [(5, .int i), (4, ml_rf g 182), (3, ml_rf g 181), (2, ml_rf g 11), (1, ml_rf g 0), (0, .ref b)] [] M := by
  refine ml_aload_n (q := 4) F dL_law_2348 rfl rfl ?_
  refine ml_aload_n (q := 5) F dL_law_2349 rfl rfl ?_
  refine ml_iload (q := 0) F dL_law_2350 rfl ?_
  refine ml_iconst (v := 1) F dL_law_2352 (by decide) ?_
  refine ml_iadd F dL_law_2353 ?_
  refine ml_scld (j := i0 + 1) (x := xs (i0 + 1)) F S hi.2.1.1 hi.2.1.2.1 hi.2.1.2.2 rfl dL_law_2354 ?_
  refine ml_aload_n (q := 2) F dL_law_2355 rfl rfl ?_
  refine ml_callSQ (hh := [(0, 9, 12, 21)]) (r8 := k9) (M8 := M1) (vl2 := fun r _ => some (.int r)) (av := [ml_rf g 0, .int (xs (i0 + 1)), ml_rf g 181]) (st := []) F (fL_renderBoat_c ((xs (i0 + 1))) M _ hst hW) wcL_renderBoat mlL_306 wdL_renderBoat (by omega) (by omega) (by omega) rfl stL_renderBoat rfl (Nat.le_of_ble_eq_true rfl) dL_law_2356 ?_
  refine ml_istore (ls2 := [(6, .int k9), (5, .int i), (4, ml_rf g 182), (3, ml_rf g 181), (2, ml_rf g 11), (1, ml_rf g 0), (0, .ref b)]) F dL_law_2359 (by decide) rfl ?_
  refine ml_aload_n (q := 4) F dL_law_2361 rfl rfl ?_
  refine ml_aload_n (q := 6) F dL_law_2362 rfl rfl ?_
  refine ml_iload (q := 1) F dL_law_2363 rfl ?_
  refine ml_iconst (v := 1) F dL_law_2365 (by decide) ?_
  refine ml_iadd F dL_law_2366 ?_
  refine ml_scld (j := i0 + 1) (x := xs (i0 + 1)) F S hi.2.1.1 hi.2.1.2.1 hi.2.1.2.2 rfl dL_law_2367 ?_
  refine ml_callVQ (r8 := b9) (M8 := M2) (vl2 := (fun r _ => some (.int r))) (av := [.int (xs (i0 + 1))]) (st := []) (kb := 11) (ci := 11) (T := TX7) (N := 16) F (pc11 g) rfl (fX7_renderBoat_c ((xs (i0 + 1))) M1 _ hst hM) wcX7_renderBoat mlL_308 wdX7_renderBoat (by omega) (by omega) (by omega) rfl seX7_renderBoat imX7_renderBoat rfl (Nat.le_of_ble_eq_true rfl) dL_law_2368 ?_
  refine ml_istore (ls2 := [(7, .int b9), (6, .int k9), (5, .int i), (4, ml_rf g 182), (3, ml_rf g 181), (2, ml_rf g 11), (1, ml_rf g 0), (0, .ref b)]) F dL_law_2371 (by decide) rfl ?_
  refine ml_aload_n (q := 5) F dL_law_2373 rfl rfl ?_
  refine ml_callVQ (r8 := k9) (M8 := M3) (vl2 := (fun r _ => some (.int r))) (av := []) (st := []) (kb := 11) (ci := 11) (T := TX7) (N := 16) F (pc11 g) rfl (fX7_thrown_c M2 _ hst hT) wcX7_thrown mlL_155 wdX7_thrown (by omega) (by omega) (by omega) rfl seX7_thrown imX7_thrown rfl (Nat.le_of_ble_eq_true rfl) dL_law_2374 ?_
  refine ml_iload (q := 1) F dL_law_2377 rfl ?_
  refine ml_icmp_eqT (tgt := 2384) F dL_law_2379 (by decide) rfl ?_
  refine ml_iload (q := 1) F dL_law_2384 rfl ?_
  by_cases hk0 : k9 = 0
  · refine ml_if_neF (tgt := 2401) F dL_law_2386 (by decide) hk0 ?_
    refine ml_aload_n (q := 4) F dL_law_2389 rfl rfl ?_
    refine ml_iconst (v := 0) F dL_law_2390 (by decide) ?_
    refine ml_lald F dL_law_2391 ?_
    refine ml_iload (q := 0) F dL_law_2392 rfl ?_
    refine ml_i2l F dL_law_2394 ?_
    refine ml_lcmp0 F dL_law_2395 (by rw [hE hk0]) ?_
    refine ml_if_eqT (tgt := 2401) F dL_law_2396 (by decide) rfl ?_
    refine ml_goto (tgt := 2751) F dL_law_2401 (by decide) ?_
    exact ml_wid (by omega) (by omega) (ml_sub [2, 3, 4, 5, 6, 7] rfl K)
  · refine ml_if_neT (tgt := 2401) F dL_law_2386 (by decide) hk0 ?_
    refine ml_goto (tgt := 2751) F dL_law_2401 (by decide) ?_
    exact ml_wid (by omega) (by omega) (ml_sub [2, 3, 4, 5, 6, 7] rfl K)
set_option maxHeartbeats 4000000 in
set_option maxRecDepth 100000 in
theorem lwc_45 {E : ml_E} {g : ml_G} {lv mc ms k n b L i0 : Nat} {ret : Option FieldType} {tb : List ExceptionTableEntry} {xs : Nat → Int32} {i : Int32} {Q : State → Prop} {M M1 M2 M3 : ml_M} {k9 b9 : Int32} (hst : g.2.2.2.2.2.stackTraces = false) (F : ml_F E g cL_law RL 10 lv mc ms ret tb) (S : ml_S E g b L xs) (hi : lw_ix i i0 L) (hlv : 20 ≤ lv) (hk : k + 2 ≤ mc) (hn2 : n + 12 ≤ ms) (hW : fL_outputAt ((xs (i0 + 1))) M = some (.inl k9, M1)) (hM : fX7_outputAt ((xs (i0 + 1))) M1 = some (.inl b9, M2)) (hT : fX7_thrown M2 = some (.inl k9, M3)) (hE : k9 = 0 → M3 181 0 = b9) (K : ml_J E g 10 Q (k + 2) (n + 12) 2751 [(5, .int i), (4, ml_rf g 182), (3, ml_rf g 181), (2, ml_rf g 11), (1, ml_rf g 0), (0, .ref b)] [] M3) : ml_J E g 10 Q k n 2404 [(5, .int i), (4, ml_rf g 182), (3, ml_rf g 181), (2, ml_rf g 11), (1, ml_rf g 0), (0, .ref b)] [] M := by
  refine ml_aload_n (q := 4) F dL_law_2404 rfl rfl ?_
  refine ml_aload_n (q := 5) F dL_law_2405 rfl rfl ?_
  refine ml_iload (q := 0) F dL_law_2406 rfl ?_
  refine ml_iconst (v := 1) F dL_law_2408 (by decide) ?_
  refine ml_iadd F dL_law_2409 ?_
  refine ml_scld (j := i0 + 1) (x := xs (i0 + 1)) F S hi.2.1.1 hi.2.1.2.1 hi.2.1.2.2 rfl dL_law_2410 ?_
  refine ml_aload_n (q := 2) F dL_law_2411 rfl rfl ?_
  refine ml_callSQ (hh := [(0, 9, 12, 21)]) (r8 := k9) (M8 := M1) (vl2 := fun r _ => some (.int r)) (av := [ml_rf g 0, .int (xs (i0 + 1)), ml_rf g 181]) (st := []) F (fL_outputAt_c ((xs (i0 + 1))) M _ hst hW) wcL_outputAt mlL_309 wdL_outputAt (by omega) (by omega) (by omega) rfl stL_outputAt rfl (Nat.le_of_ble_eq_true rfl) dL_law_2412 ?_
  refine ml_istore (ls2 := [(6, .int k9), (5, .int i), (4, ml_rf g 182), (3, ml_rf g 181), (2, ml_rf g 11), (1, ml_rf g 0), (0, .ref b)]) F dL_law_2415 (by decide) rfl ?_
  refine ml_aload_n (q := 4) F dL_law_2417 rfl rfl ?_
  refine ml_aload_n (q := 6) F dL_law_2418 rfl rfl ?_
  refine ml_iload (q := 1) F dL_law_2419 rfl ?_
  refine ml_iconst (v := 1) F dL_law_2421 (by decide) ?_
  refine ml_iadd F dL_law_2422 ?_
  refine ml_scld (j := i0 + 1) (x := xs (i0 + 1)) F S hi.2.1.1 hi.2.1.2.1 hi.2.1.2.2 rfl dL_law_2423 ?_
  refine ml_callVQ (r8 := b9) (M8 := M2) (vl2 := (fun r _ => some (.int r))) (av := [.int (xs (i0 + 1))]) (st := []) (kb := 11) (ci := 11) (T := TX7) (N := 16) F (pc11 g) rfl (fX7_outputAt_c ((xs (i0 + 1))) M1 _ hst hM) wcX7_outputAt mlL_311 wdX7_outputAt (by omega) (by omega) (by omega) rfl seX7_outputAt imX7_outputAt rfl (Nat.le_of_ble_eq_true rfl) dL_law_2424 ?_
  refine ml_istore (ls2 := [(7, .int b9), (6, .int k9), (5, .int i), (4, ml_rf g 182), (3, ml_rf g 181), (2, ml_rf g 11), (1, ml_rf g 0), (0, .ref b)]) F dL_law_2427 (by decide) rfl ?_
  refine ml_aload_n (q := 5) F dL_law_2429 rfl rfl ?_
  refine ml_callVQ (r8 := k9) (M8 := M3) (vl2 := (fun r _ => some (.int r))) (av := []) (st := []) (kb := 11) (ci := 11) (T := TX7) (N := 16) F (pc11 g) rfl (fX7_thrown_c M2 _ hst hT) wcX7_thrown mlL_155 wdX7_thrown (by omega) (by omega) (by omega) rfl seX7_thrown imX7_thrown rfl (Nat.le_of_ble_eq_true rfl) dL_law_2430 ?_
  refine ml_iload (q := 1) F dL_law_2433 rfl ?_
  refine ml_icmp_eqT (tgt := 2440) F dL_law_2435 (by decide) rfl ?_
  refine ml_iload (q := 1) F dL_law_2440 rfl ?_
  by_cases hk0 : k9 = 0
  · refine ml_if_neF (tgt := 2457) F dL_law_2442 (by decide) hk0 ?_
    refine ml_aload_n (q := 4) F dL_law_2445 rfl rfl ?_
    refine ml_iconst (v := 0) F dL_law_2446 (by decide) ?_
    refine ml_lald F dL_law_2447 ?_
    refine ml_iload (q := 0) F dL_law_2448 rfl ?_
    refine ml_i2l F dL_law_2450 ?_
    refine ml_lcmp0 F dL_law_2451 (by rw [hE hk0]) ?_
    refine ml_if_eqT (tgt := 2457) F dL_law_2452 (by decide) rfl ?_
    refine ml_goto (tgt := 2751) F dL_law_2457 (by decide) ?_
    exact ml_wid (by omega) (by omega) (ml_sub [2, 3, 4, 5, 6, 7] rfl K)
  · refine ml_if_neT (tgt := 2457) F dL_law_2442 (by decide) hk0 ?_
    refine ml_goto (tgt := 2751) F dL_law_2457 (by decide) ?_
    exact ml_wid (by omega) (by omega) (ml_sub [2, 3, 4, 5, 6, 7] rfl K)
set_option maxHeartbeats 4000000 in
set_option maxRecDepth 100000 in
theorem lwc_46 {E : ml_E} {g : ml_G} {lv mc ms k n b L i0 : Nat} {ret : Option FieldType} {tb : List ExceptionTableEntry} {xs : Nat → Int32} {i : Int32} {Q : State → Prop} {M M1 M2 M3 : ml_M} {k9 b9 : Int32} (hst : g.2.2.2.2.2.stackTraces = false) (F : ml_F E g cL_law RL 10 lv mc ms ret tb) (S : ml_S E g b L xs) (hi : lw_ix i i0 L) (hlv : 20 ≤ lv) (hk : k + 2 ≤ mc) (hn2 : n + 12 ≤ ms) (hW : fL_type ((lw_ic (xs (i0 + 1)))) M = some (.inl k9, M1)) (hM : fX7_type ((lw_ic (xs (i0 + 1)))) M1 = some (.inl b9, M2)) (hT : fX7_thrown M2 = some (.inl k9, M3)) (hE : k9 = 0 → M3 181 0 = b9) (K : ml_J E g 10 Q (k + 2) (n + 12) 2751 [(5, .int i), (4, ml_rf g 182), (3, ml_rf g 181), (2, ml_rf g 11), (1, ml_rf g 0), (0, .ref b)] [] M3) : ml_J E g 10 Q k n 2460 [(5, .int i), (4, ml_rf g 182), (3, ml_rf g 181), (2, ml_rf g 11), (1, ml_rf g 0), (0, .ref b)] [] M := by
  refine ml_aload_n (q := 4) F dL_law_2460 rfl rfl ?_
  refine ml_aload_n (q := 5) F dL_law_2461 rfl rfl ?_
  refine ml_iload (q := 0) F dL_law_2462 rfl ?_
  refine ml_iconst (v := 1) F dL_law_2464 (by decide) ?_
  refine ml_iadd F dL_law_2465 ?_
  refine ml_scld (j := i0 + 1) (x := xs (i0 + 1)) F S hi.2.1.1 hi.2.1.2.1 hi.2.1.2.2 rfl dL_law_2466 ?_
  refine ml_i2c F dL_law_2467 ?_
  refine ml_aload_n (q := 2) F dL_law_2468 rfl rfl ?_
  refine ml_callSQ (hh := [(0, 9, 12, 13), (0, 9, 15, 15)]) (r8 := k9) (M8 := M1) (vl2 := fun r _ => some (.int r)) (av := [ml_rf g 0, .int (lw_ic (xs (i0 + 1))), ml_rf g 181]) (st := []) F (fL_type_c ((lw_ic (xs (i0 + 1)))) M _ hst hW) wcL_type mlL_312 wdL_type (by omega) (by omega) (by omega) rfl stL_type rfl (Nat.le_of_ble_eq_true rfl) dL_law_2469 ?_
  refine ml_istore (ls2 := [(6, .int k9), (5, .int i), (4, ml_rf g 182), (3, ml_rf g 181), (2, ml_rf g 11), (1, ml_rf g 0), (0, .ref b)]) F dL_law_2472 (by decide) rfl ?_
  refine ml_aload_n (q := 4) F dL_law_2474 rfl rfl ?_
  refine ml_aload_n (q := 6) F dL_law_2475 rfl rfl ?_
  refine ml_iload (q := 1) F dL_law_2476 rfl ?_
  refine ml_iconst (v := 1) F dL_law_2478 (by decide) ?_
  refine ml_iadd F dL_law_2479 ?_
  refine ml_scld (j := i0 + 1) (x := xs (i0 + 1)) F S hi.2.1.1 hi.2.1.2.1 hi.2.1.2.2 rfl dL_law_2480 ?_
  refine ml_i2c F dL_law_2481 ?_
  refine ml_callVQ (r8 := b9) (M8 := M2) (vl2 := (fun r _ => some (.int r))) (av := [.int (lw_ic (xs (i0 + 1)))]) (st := []) (kb := 11) (ci := 11) (T := TX7) (N := 16) F (pc11 g) rfl (fX7_type_c ((lw_ic (xs (i0 + 1)))) M1 _ hst hM) wcX7_type mlL_314 wdX7_type (by omega) (by omega) (by omega) rfl seX7_type imX7_type rfl (Nat.le_of_ble_eq_true rfl) dL_law_2482 ?_
  refine ml_istore (ls2 := [(7, .int b9), (6, .int k9), (5, .int i), (4, ml_rf g 182), (3, ml_rf g 181), (2, ml_rf g 11), (1, ml_rf g 0), (0, .ref b)]) F dL_law_2485 (by decide) rfl ?_
  refine ml_aload_n (q := 5) F dL_law_2487 rfl rfl ?_
  refine ml_callVQ (r8 := k9) (M8 := M3) (vl2 := (fun r _ => some (.int r))) (av := []) (st := []) (kb := 11) (ci := 11) (T := TX7) (N := 16) F (pc11 g) rfl (fX7_thrown_c M2 _ hst hT) wcX7_thrown mlL_155 wdX7_thrown (by omega) (by omega) (by omega) rfl seX7_thrown imX7_thrown rfl (Nat.le_of_ble_eq_true rfl) dL_law_2488 ?_
  refine ml_iload (q := 1) F dL_law_2491 rfl ?_
  refine ml_icmp_eqT (tgt := 2498) F dL_law_2493 (by decide) rfl ?_
  refine ml_iload (q := 1) F dL_law_2498 rfl ?_
  by_cases hk0 : k9 = 0
  · refine ml_if_neF (tgt := 2515) F dL_law_2500 (by decide) hk0 ?_
    refine ml_aload_n (q := 4) F dL_law_2503 rfl rfl ?_
    refine ml_iconst (v := 0) F dL_law_2504 (by decide) ?_
    refine ml_lald F dL_law_2505 ?_
    refine ml_iload (q := 0) F dL_law_2506 rfl ?_
    refine ml_i2l F dL_law_2508 ?_
    refine ml_lcmp0 F dL_law_2509 (by rw [hE hk0]) ?_
    refine ml_if_eqT (tgt := 2515) F dL_law_2510 (by decide) rfl ?_
    refine ml_goto (tgt := 2751) F dL_law_2515 (by decide) ?_
    exact ml_wid (by omega) (by omega) (ml_sub [2, 3, 4, 5, 6, 7] rfl K)
  · refine ml_if_neT (tgt := 2515) F dL_law_2500 (by decide) hk0 ?_
    refine ml_goto (tgt := 2751) F dL_law_2515 (by decide) ?_
    exact ml_wid (by omega) (by omega) (ml_sub [2, 3, 4, 5, 6, 7] rfl K)
set_option maxHeartbeats 4000000 in
set_option maxRecDepth 100000 in
theorem lwc_47 {E : ml_E} {g : ml_G} {lv mc ms k n b L i0 : Nat} {ret : Option FieldType} {tb : List ExceptionTableEntry} {xs : Nat → Int32} {i : Int32} {Q : State → Prop} {M M1 M2 M3 : ml_M} {k9 b9 : Int32} (hst : g.2.2.2.2.2.stackTraces = false) (F : ml_F E g cL_law RL 10 lv mc ms ret tb) (S : ml_S E g b L xs) (hi : lw_ix i i0 L) (hlv : 20 ≤ lv) (hk : k + 2 ≤ mc) (hn2 : n + 12 ≤ ms) (hW : fL_runScript M = some (.inl k9, M1)) (hM : fX7_runScript M1 = some (.inl b9, M2)) (hT : fX7_thrown M2 = some (.inl k9, M3)) (hE : k9 = 0 → M3 181 0 = b9) (K : ml_J E g 10 Q (k + 2) (n + 12) 2751 [(5, .int i), (4, ml_rf g 182), (3, ml_rf g 181), (2, ml_rf g 11), (1, ml_rf g 0), (0, .ref b)] [] M3) : ml_J E g 10 Q k n 2518 [(5, .int i), (4, ml_rf g 182), (3, ml_rf g 181), (2, ml_rf g 11), (1, ml_rf g 0), (0, .ref b)] [] M := by
  refine ml_aload_n (q := 4) F dL_law_2518 rfl rfl ?_
  refine ml_aload_n (q := 2) F dL_law_2519 rfl rfl ?_
  refine ml_callSQ (hh := [(0, 8, 11, 13), (0, 8, 14, 15)]) (r8 := k9) (M8 := M1) (vl2 := fun r _ => some (.int r)) (av := [ml_rf g 0, ml_rf g 181]) (st := []) F (fL_runScript_c M _ hst hW) wcL_runScript mlL_315 wdL_runScript (by omega) (by omega) (by omega) rfl stL_runScript rfl (Nat.le_of_ble_eq_true rfl) dL_law_2520 ?_
  refine ml_istore (ls2 := [(6, .int k9), (5, .int i), (4, ml_rf g 182), (3, ml_rf g 181), (2, ml_rf g 11), (1, ml_rf g 0), (0, .ref b)]) F dL_law_2523 (by decide) rfl ?_
  refine ml_aload_n (q := 4) F dL_law_2525 rfl rfl ?_
  refine ml_callVQ (r8 := b9) (M8 := M2) (vl2 := (fun r _ => some (.int r))) (av := []) (st := []) (kb := 11) (ci := 11) (T := TX7) (N := 16) F (pc11 g) rfl (fX7_runScript_c M1 _ hst hM) wcX7_runScript mlL_318 wdX7_runScript (by omega) (by omega) (by omega) rfl seX7_runScript imX7_runScript rfl (Nat.le_of_ble_eq_true rfl) dL_law_2526 ?_
  refine ml_istore (ls2 := [(7, .int b9), (6, .int k9), (5, .int i), (4, ml_rf g 182), (3, ml_rf g 181), (2, ml_rf g 11), (1, ml_rf g 0), (0, .ref b)]) F dL_law_2529 (by decide) rfl ?_
  refine ml_aload_n (q := 5) F dL_law_2531 rfl rfl ?_
  refine ml_callVQ (r8 := k9) (M8 := M3) (vl2 := (fun r _ => some (.int r))) (av := []) (st := []) (kb := 11) (ci := 11) (T := TX7) (N := 16) F (pc11 g) rfl (fX7_thrown_c M2 _ hst hT) wcX7_thrown mlL_155 wdX7_thrown (by omega) (by omega) (by omega) rfl seX7_thrown imX7_thrown rfl (Nat.le_of_ble_eq_true rfl) dL_law_2532 ?_
  refine ml_iload (q := 1) F dL_law_2535 rfl ?_
  refine ml_icmp_eqT (tgt := 2542) F dL_law_2537 (by decide) rfl ?_
  refine ml_iload (q := 1) F dL_law_2542 rfl ?_
  by_cases hk0 : k9 = 0
  · refine ml_if_neF (tgt := 2559) F dL_law_2544 (by decide) hk0 ?_
    refine ml_aload_n (q := 4) F dL_law_2547 rfl rfl ?_
    refine ml_iconst (v := 0) F dL_law_2548 (by decide) ?_
    refine ml_lald F dL_law_2549 ?_
    refine ml_iload (q := 0) F dL_law_2550 rfl ?_
    refine ml_i2l F dL_law_2552 ?_
    refine ml_lcmp0 F dL_law_2553 (by rw [hE hk0]) ?_
    refine ml_if_eqT (tgt := 2559) F dL_law_2554 (by decide) rfl ?_
    refine ml_goto (tgt := 2751) F dL_law_2559 (by decide) ?_
    exact ml_wid (by omega) (by omega) (ml_sub [2, 3, 4, 5, 6, 7] rfl K)
  · refine ml_if_neT (tgt := 2559) F dL_law_2544 (by decide) hk0 ?_
    refine ml_goto (tgt := 2751) F dL_law_2559 (by decide) ?_
    exact ml_wid (by omega) (by omega) (ml_sub [2, 3, 4, 5, 6, 7] rfl K)
set_option maxHeartbeats 4000000 in
set_option maxRecDepth 100000 in
theorem lwc_48 {E : ml_E} {g : ml_G} {lv mc ms k n b L i0 : Nat} {ret : Option FieldType} {tb : List ExceptionTableEntry} {xs : Nat → Int32} {i : Int32} {Q : State → Prop} {M M1 M2 M3 : ml_M} {k9 b9 : Int32} (hst : g.2.2.2.2.2.stackTraces = false) (F : ml_F E g cL_law RL 10 lv mc ms ret tb) (S : ml_S E g b L xs) (hi : lw_ix i i0 L) (hlv : 20 ≤ lv) (hk : k + 2 ≤ mc) (hn2 : n + 12 ≤ ms) (hW : fL_errorPosition M = some (.inl k9, M1)) (hM : fX7_errorPosition M1 = some (.inl b9, M2)) (hT : fX7_thrown M2 = some (.inl k9, M3)) (hE : k9 = 0 → M3 181 0 = b9) (K : ml_J E g 10 Q (k + 2) (n + 12) 2751 [(5, .int i), (4, ml_rf g 182), (3, ml_rf g 181), (2, ml_rf g 11), (1, ml_rf g 0), (0, .ref b)] [] M3) : ml_J E g 10 Q k n 2562 [(5, .int i), (4, ml_rf g 182), (3, ml_rf g 181), (2, ml_rf g 11), (1, ml_rf g 0), (0, .ref b)] [] M := by
  refine ml_aload_n (q := 4) F dL_law_2562 rfl rfl ?_
  refine ml_aload_n (q := 2) F dL_law_2563 rfl rfl ?_
  refine ml_callSQ (hh := [(0, 8, 11, 77)]) (r8 := k9) (M8 := M1) (vl2 := fun r _ => some (.int r)) (av := [ml_rf g 0, ml_rf g 181]) (st := []) F (fL_errorPosition_c M _ hst hW) wcL_errorPosition mlL_319 wdL_errorPosition (by omega) (by omega) (by omega) rfl stL_errorPosition rfl (Nat.le_of_ble_eq_true rfl) dL_law_2564 ?_
  refine ml_istore (ls2 := [(6, .int k9), (5, .int i), (4, ml_rf g 182), (3, ml_rf g 181), (2, ml_rf g 11), (1, ml_rf g 0), (0, .ref b)]) F dL_law_2567 (by decide) rfl ?_
  refine ml_aload_n (q := 4) F dL_law_2569 rfl rfl ?_
  refine ml_callVQ (r8 := b9) (M8 := M2) (vl2 := (fun r _ => some (.int r))) (av := []) (st := []) (kb := 11) (ci := 11) (T := TX7) (N := 16) F (pc11 g) rfl (fX7_errorPosition_c M1 _ hst hM) wcX7_errorPosition mlL_321 wdX7_errorPosition (by omega) (by omega) (by omega) rfl seX7_errorPosition imX7_errorPosition rfl (Nat.le_of_ble_eq_true rfl) dL_law_2570 ?_
  refine ml_istore (ls2 := [(7, .int b9), (6, .int k9), (5, .int i), (4, ml_rf g 182), (3, ml_rf g 181), (2, ml_rf g 11), (1, ml_rf g 0), (0, .ref b)]) F dL_law_2573 (by decide) rfl ?_
  refine ml_aload_n (q := 5) F dL_law_2575 rfl rfl ?_
  refine ml_callVQ (r8 := k9) (M8 := M3) (vl2 := (fun r _ => some (.int r))) (av := []) (st := []) (kb := 11) (ci := 11) (T := TX7) (N := 16) F (pc11 g) rfl (fX7_thrown_c M2 _ hst hT) wcX7_thrown mlL_155 wdX7_thrown (by omega) (by omega) (by omega) rfl seX7_thrown imX7_thrown rfl (Nat.le_of_ble_eq_true rfl) dL_law_2576 ?_
  refine ml_iload (q := 1) F dL_law_2579 rfl ?_
  refine ml_icmp_eqT (tgt := 2586) F dL_law_2581 (by decide) rfl ?_
  refine ml_iload (q := 1) F dL_law_2586 rfl ?_
  by_cases hk0 : k9 = 0
  · refine ml_if_neF (tgt := 2603) F dL_law_2588 (by decide) hk0 ?_
    refine ml_aload_n (q := 4) F dL_law_2591 rfl rfl ?_
    refine ml_iconst (v := 0) F dL_law_2592 (by decide) ?_
    refine ml_lald F dL_law_2593 ?_
    refine ml_iload (q := 0) F dL_law_2594 rfl ?_
    refine ml_i2l F dL_law_2596 ?_
    refine ml_lcmp0 F dL_law_2597 (by rw [hE hk0]) ?_
    refine ml_if_eqT (tgt := 2603) F dL_law_2598 (by decide) rfl ?_
    refine ml_goto (tgt := 2751) F dL_law_2603 (by decide) ?_
    exact ml_wid (by omega) (by omega) (ml_sub [2, 3, 4, 5, 6, 7] rfl K)
  · refine ml_if_neT (tgt := 2603) F dL_law_2588 (by decide) hk0 ?_
    refine ml_goto (tgt := 2751) F dL_law_2603 (by decide) ?_
    exact ml_wid (by omega) (by omega) (ml_sub [2, 3, 4, 5, 6, 7] rfl K)
set_option maxHeartbeats 4000000 in
set_option maxRecDepth 100000 in
theorem lwc_49 {E : ml_E} {g : ml_G} {lv mc ms k n b L i0 : Nat} {ret : Option FieldType} {tb : List ExceptionTableEntry} {xs : Nat → Int32} {i : Int32} {Q : State → Prop} {M M1 M2 M3 : ml_M} {k9 b9 : Int32} (hst : g.2.2.2.2.2.stackTraces = false) (F : ml_F E g cL_law RL 10 lv mc ms ret tb) (S : ml_S E g b L xs) (hi : lw_ix i i0 L) (hlv : 20 ≤ lv) (hk : k + 2 ≤ mc) (hn2 : n + 12 ≤ ms) (hW : fL_failedCommand M = some (.inl k9, M1)) (hM : fX7_failedCommand M1 = some (.inl b9, M2)) (hT : fX7_thrown M2 = some (.inl k9, M3)) (hE : k9 = 0 → M3 181 0 = b9) (K : ml_J E g 10 Q (k + 2) (n + 12) 2751 [(5, .int i), (4, ml_rf g 182), (3, ml_rf g 181), (2, ml_rf g 11), (1, ml_rf g 0), (0, .ref b)] [] M3) : ml_J E g 10 Q k n 2606 [(5, .int i), (4, ml_rf g 182), (3, ml_rf g 181), (2, ml_rf g 11), (1, ml_rf g 0), (0, .ref b)] [] M := by
  refine ml_aload_n (q := 4) F dL_law_2606 rfl rfl ?_
  refine ml_aload_n (q := 2) F dL_law_2607 rfl rfl ?_
  refine ml_callSQ (hh := [(0, 8, 11, 77)]) (r8 := k9) (M8 := M1) (vl2 := fun r _ => some (.int r)) (av := [ml_rf g 0, ml_rf g 181]) (st := []) F (fL_failedCommand_c M _ hst hW) wcL_failedCommand mlL_322 wdL_failedCommand (by omega) (by omega) (by omega) rfl stL_failedCommand rfl (Nat.le_of_ble_eq_true rfl) dL_law_2608 ?_
  refine ml_istore (ls2 := [(6, .int k9), (5, .int i), (4, ml_rf g 182), (3, ml_rf g 181), (2, ml_rf g 11), (1, ml_rf g 0), (0, .ref b)]) F dL_law_2611 (by decide) rfl ?_
  refine ml_aload_n (q := 4) F dL_law_2613 rfl rfl ?_
  refine ml_callVQ (r8 := b9) (M8 := M2) (vl2 := (fun r _ => some (.int r))) (av := []) (st := []) (kb := 11) (ci := 11) (T := TX7) (N := 16) F (pc11 g) rfl (fX7_failedCommand_c M1 _ hst hM) wcX7_failedCommand mlL_324 wdX7_failedCommand (by omega) (by omega) (by omega) rfl seX7_failedCommand imX7_failedCommand rfl (Nat.le_of_ble_eq_true rfl) dL_law_2614 ?_
  refine ml_istore (ls2 := [(7, .int b9), (6, .int k9), (5, .int i), (4, ml_rf g 182), (3, ml_rf g 181), (2, ml_rf g 11), (1, ml_rf g 0), (0, .ref b)]) F dL_law_2617 (by decide) rfl ?_
  refine ml_aload_n (q := 5) F dL_law_2619 rfl rfl ?_
  refine ml_callVQ (r8 := k9) (M8 := M3) (vl2 := (fun r _ => some (.int r))) (av := []) (st := []) (kb := 11) (ci := 11) (T := TX7) (N := 16) F (pc11 g) rfl (fX7_thrown_c M2 _ hst hT) wcX7_thrown mlL_155 wdX7_thrown (by omega) (by omega) (by omega) rfl seX7_thrown imX7_thrown rfl (Nat.le_of_ble_eq_true rfl) dL_law_2620 ?_
  refine ml_iload (q := 1) F dL_law_2623 rfl ?_
  refine ml_icmp_eqT (tgt := 2630) F dL_law_2625 (by decide) rfl ?_
  refine ml_iload (q := 1) F dL_law_2630 rfl ?_
  by_cases hk0 : k9 = 0
  · refine ml_if_neF (tgt := 2647) F dL_law_2632 (by decide) hk0 ?_
    refine ml_aload_n (q := 4) F dL_law_2635 rfl rfl ?_
    refine ml_iconst (v := 0) F dL_law_2636 (by decide) ?_
    refine ml_lald F dL_law_2637 ?_
    refine ml_iload (q := 0) F dL_law_2638 rfl ?_
    refine ml_i2l F dL_law_2640 ?_
    refine ml_lcmp0 F dL_law_2641 (by rw [hE hk0]) ?_
    refine ml_if_eqT (tgt := 2647) F dL_law_2642 (by decide) rfl ?_
    refine ml_goto (tgt := 2751) F dL_law_2647 (by decide) ?_
    exact ml_wid (by omega) (by omega) (ml_sub [2, 3, 4, 5, 6, 7] rfl K)
  · refine ml_if_neT (tgt := 2647) F dL_law_2632 (by decide) hk0 ?_
    refine ml_goto (tgt := 2751) F dL_law_2647 (by decide) ?_
    exact ml_wid (by omega) (by omega) (ml_sub [2, 3, 4, 5, 6, 7] rfl K)
set_option maxHeartbeats 4000000 in
set_option maxRecDepth 100000 in
theorem lwc_50 {E : ml_E} {g : ml_G} {lv mc ms k n b L i0 : Nat} {ret : Option FieldType} {tb : List ExceptionTableEntry} {xs : Nat → Int32} {i : Int32} {Q : State → Prop} {M M1 M2 M3 : ml_M} {k9 b9 : Int32} (hst : g.2.2.2.2.2.stackTraces = false) (F : ml_F E g cL_law RL 10 lv mc ms ret tb) (S : ml_S E g b L xs) (hi : lw_ix i i0 L) (hlv : 20 ≤ lv) (hk : k + 2 ≤ mc) (hn2 : n + 12 ≤ ms) (hW : fL_undo M = some (.inl k9, M1)) (hM : fX7_undo M1 = some (.inl b9, M2)) (hT : fX7_thrown M2 = some (.inl k9, M3)) (hE : k9 = 0 → M3 181 0 = b9) (K : ml_J E g 10 Q (k + 2) (n + 12) 2751 [(5, .int i), (4, ml_rf g 182), (3, ml_rf g 181), (2, ml_rf g 11), (1, ml_rf g 0), (0, .ref b)] [] M3) : ml_J E g 10 Q k n 2650 [(5, .int i), (4, ml_rf g 182), (3, ml_rf g 181), (2, ml_rf g 11), (1, ml_rf g 0), (0, .ref b)] [] M := by
  refine ml_aload_n (q := 4) F dL_law_2650 rfl rfl ?_
  refine ml_aload_n (q := 2) F dL_law_2651 rfl rfl ?_
  refine ml_callSQ (hh := [(0, 8, 11, 77)]) (r8 := k9) (M8 := M1) (vl2 := fun r _ => some (.int r)) (av := [ml_rf g 0, ml_rf g 181]) (st := []) F (fL_undo_c M _ hst hW) wcL_undo mlL_325 wdL_undo (by omega) (by omega) (by omega) rfl stL_undo rfl (Nat.le_of_ble_eq_true rfl) dL_law_2652 ?_
  refine ml_istore (ls2 := [(6, .int k9), (5, .int i), (4, ml_rf g 182), (3, ml_rf g 181), (2, ml_rf g 11), (1, ml_rf g 0), (0, .ref b)]) F dL_law_2655 (by decide) rfl ?_
  refine ml_aload_n (q := 4) F dL_law_2657 rfl rfl ?_
  refine ml_callVQ (r8 := b9) (M8 := M2) (vl2 := (fun r _ => some (.int r))) (av := []) (st := []) (kb := 11) (ci := 11) (T := TX7) (N := 16) F (pc11 g) rfl (fX7_undo_c M1 _ hst hM) wcX7_undo mlL_327 wdX7_undo (by omega) (by omega) (by omega) rfl seX7_undo imX7_undo rfl (Nat.le_of_ble_eq_true rfl) dL_law_2658 ?_
  refine ml_istore (ls2 := [(7, .int b9), (6, .int k9), (5, .int i), (4, ml_rf g 182), (3, ml_rf g 181), (2, ml_rf g 11), (1, ml_rf g 0), (0, .ref b)]) F dL_law_2661 (by decide) rfl ?_
  refine ml_aload_n (q := 5) F dL_law_2663 rfl rfl ?_
  refine ml_callVQ (r8 := k9) (M8 := M3) (vl2 := (fun r _ => some (.int r))) (av := []) (st := []) (kb := 11) (ci := 11) (T := TX7) (N := 16) F (pc11 g) rfl (fX7_thrown_c M2 _ hst hT) wcX7_thrown mlL_155 wdX7_thrown (by omega) (by omega) (by omega) rfl seX7_thrown imX7_thrown rfl (Nat.le_of_ble_eq_true rfl) dL_law_2664 ?_
  refine ml_iload (q := 1) F dL_law_2667 rfl ?_
  refine ml_icmp_eqT (tgt := 2674) F dL_law_2669 (by decide) rfl ?_
  refine ml_iload (q := 1) F dL_law_2674 rfl ?_
  by_cases hk0 : k9 = 0
  · refine ml_if_neF (tgt := 2691) F dL_law_2676 (by decide) hk0 ?_
    refine ml_aload_n (q := 4) F dL_law_2679 rfl rfl ?_
    refine ml_iconst (v := 0) F dL_law_2680 (by decide) ?_
    refine ml_lald F dL_law_2681 ?_
    refine ml_iload (q := 0) F dL_law_2682 rfl ?_
    refine ml_i2l F dL_law_2684 ?_
    refine ml_lcmp0 F dL_law_2685 (by rw [hE hk0]) ?_
    refine ml_if_eqT (tgt := 2691) F dL_law_2686 (by decide) rfl ?_
    refine ml_goto (tgt := 2751) F dL_law_2691 (by decide) ?_
    exact ml_wid (by omega) (by omega) (ml_sub [2, 3, 4, 5, 6, 7] rfl K)
  · refine ml_if_neT (tgt := 2691) F dL_law_2676 (by decide) hk0 ?_
    refine ml_goto (tgt := 2751) F dL_law_2691 (by decide) ?_
    exact ml_wid (by omega) (by omega) (ml_sub [2, 3, 4, 5, 6, 7] rfl K)
set_option maxHeartbeats 4000000 in
set_option maxRecDepth 100000 in
theorem lwc_51 {E : ml_E} {g : ml_G} {lv mc ms k n b L i0 : Nat} {ret : Option FieldType} {tb : List ExceptionTableEntry} {xs : Nat → Int32} {i : Int32} {Q : State → Prop} {M M1 M2 : ml_M} {r9 : Int32} (hst : g.2.2.2.2.2.stackTraces = false) (F : ml_F E g cL_law RL 10 lv mc ms ret tb) (S : ml_S E g b L xs) (hi : lw_ix i i0 L) (hlv : 20 ≤ lv) (hk : k + 2 ≤ mc) (hn2 : n + 12 ≤ ms) (hX : fX6_save M = some (.inl r9, M1)) (hM : fX7_save M1 = some (.inl r9, M2)) (K : ml_J E g 10 Q (k + 2) (n + 12) 2751 [(5, .int i), (4, ml_rf g 182), (3, ml_rf g 181), (2, ml_rf g 11), (1, ml_rf g 0), (0, .ref b)] [] M2) : ml_J E g 10 Q k n 2694 [(5, .int i), (4, ml_rf g 182), (3, ml_rf g 181), (2, ml_rf g 11), (1, ml_rf g 0), (0, .ref b)] [] M := by
  refine ml_aload_n (q := 4) F dL_law_2694 rfl rfl ?_
  refine ml_callVQ (r8 := r9) (M8 := M1) (vl2 := (fun r _ => some (.int r))) (av := []) (st := []) (kb := 0) (ci := 10) (T := TX6) (N := 9) F (pc0 g) rfl (fX6_save_c M _ hst hX) wcX6_save mlL_328 wdX6_save (by omega) (by omega) (by omega) rfl seX6_save imX6_save rfl (Nat.le_of_ble_eq_true rfl) dL_law_2695 ?_
  refine ml_aload_n (q := 3) F dL_law_2698 rfl rfl ?_
  refine ml_callVQ (r8 := r9) (M8 := M2) (vl2 := (fun r _ => some (.int r))) (av := []) (st := [.int r9]) (kb := 11) (ci := 11) (T := TX7) (N := 16) F (pc11 g) rfl (fX7_save_c M1 _ hst hM) wcX7_save mlL_331 wdX7_save (by omega) (by omega) (by omega) rfl seX7_save imX7_save rfl (Nat.le_of_ble_eq_true rfl) dL_law_2699 ?_
  refine ml_icmp_eqT (tgt := 2751) F dL_law_2702 (by decide) rfl ?_
  exact ml_wid (by omega) (by omega) (ml_sub [0, 1, 2, 3, 4, 5] rfl K)
set_option maxHeartbeats 4000000 in
set_option maxRecDepth 100000 in
theorem lwc_52 {E : ml_E} {g : ml_G} {lv mc ms k n b L i0 : Nat} {ret : Option FieldType} {tb : List ExceptionTableEntry} {xs : Nat → Int32} {i : Int32} {Q : State → Prop} {M M1 M2 M3 : ml_M} {k9 b9 : Int32} (hst : g.2.2.2.2.2.stackTraces = false) (F : ml_F E g cL_law RL 10 lv mc ms ret tb) (S : ml_S E g b L xs) (hi : lw_ix i i0 L) (hlv : 20 ≤ lv) (hk : k + 2 ≤ mc) (hn2 : n + 12 ≤ ms) (hW : fL_restore M = some (.inl k9, M1)) (hM : fX7_restore M1 = some (.inl b9, M2)) (hT : fX7_thrown M2 = some (.inl k9, M3)) (hE : k9 = 0 → M3 181 0 = b9) (K : ml_J E g 10 Q (k + 2) (n + 12) 2751 [(5, .int i), (4, ml_rf g 182), (3, ml_rf g 181), (2, ml_rf g 11), (1, ml_rf g 0), (0, .ref b)] [] M3) : ml_J E g 10 Q k n 2707 [(5, .int i), (4, ml_rf g 182), (3, ml_rf g 181), (2, ml_rf g 11), (1, ml_rf g 0), (0, .ref b)] [] M := by
  refine ml_aload_n (q := 4) F dL_law_2707 rfl rfl ?_
  refine ml_aload_n (q := 2) F dL_law_2708 rfl rfl ?_
  refine ml_callSQ (hh := [(0, 8, 11, 15)]) (r8 := k9) (M8 := M1) (vl2 := fun r _ => some (.int r)) (av := [ml_rf g 0, ml_rf g 181]) (st := []) F (fL_restore_c M _ hst hW) wcL_restore mlL_332 wdL_restore (by omega) (by omega) (by omega) rfl stL_restore rfl (Nat.le_of_ble_eq_true rfl) dL_law_2709 ?_
  refine ml_istore (ls2 := [(6, .int k9), (5, .int i), (4, ml_rf g 182), (3, ml_rf g 181), (2, ml_rf g 11), (1, ml_rf g 0), (0, .ref b)]) F dL_law_2712 (by decide) rfl ?_
  refine ml_aload_n (q := 4) F dL_law_2714 rfl rfl ?_
  refine ml_callVQ (r8 := b9) (M8 := M2) (vl2 := (fun r _ => some (.int r))) (av := []) (st := []) (kb := 11) (ci := 11) (T := TX7) (N := 16) F (pc11 g) rfl (fX7_restore_c M1 _ hst hM) wcX7_restore mlL_334 wdX7_restore (by omega) (by omega) (by omega) rfl seX7_restore imX7_restore rfl (Nat.le_of_ble_eq_true rfl) dL_law_2715 ?_
  refine ml_istore (ls2 := [(7, .int b9), (6, .int k9), (5, .int i), (4, ml_rf g 182), (3, ml_rf g 181), (2, ml_rf g 11), (1, ml_rf g 0), (0, .ref b)]) F dL_law_2718 (by decide) rfl ?_
  refine ml_aload_n (q := 5) F dL_law_2720 rfl rfl ?_
  refine ml_callVQ (r8 := k9) (M8 := M3) (vl2 := (fun r _ => some (.int r))) (av := []) (st := []) (kb := 11) (ci := 11) (T := TX7) (N := 16) F (pc11 g) rfl (fX7_thrown_c M2 _ hst hT) wcX7_thrown mlL_155 wdX7_thrown (by omega) (by omega) (by omega) rfl seX7_thrown imX7_thrown rfl (Nat.le_of_ble_eq_true rfl) dL_law_2721 ?_
  refine ml_iload (q := 1) F dL_law_2724 rfl ?_
  refine ml_icmp_eqT (tgt := 2731) F dL_law_2726 (by decide) rfl ?_
  refine ml_iload (q := 1) F dL_law_2731 rfl ?_
  by_cases hk0 : k9 = 0
  · refine ml_if_neF (tgt := 2748) F dL_law_2733 (by decide) hk0 ?_
    refine ml_aload_n (q := 4) F dL_law_2736 rfl rfl ?_
    refine ml_iconst (v := 0) F dL_law_2737 (by decide) ?_
    refine ml_lald F dL_law_2738 ?_
    refine ml_iload (q := 0) F dL_law_2739 rfl ?_
    refine ml_i2l F dL_law_2741 ?_
    refine ml_lcmp0 F dL_law_2742 (by rw [hE hk0]) ?_
    refine ml_if_eqT (tgt := 2748) F dL_law_2743 (by decide) rfl ?_
    refine ml_goto (tgt := 2751) F dL_law_2748 (by decide) ?_
    exact ml_wid (by omega) (by omega) (ml_sub [2, 3, 4, 5, 6, 7] rfl K)
  · refine ml_if_neT (tgt := 2748) F dL_law_2733 (by decide) hk0 ?_
    refine ml_goto (tgt := 2751) F dL_law_2748 (by decide) ?_
    exact ml_wid (by omega) (by omega) (ml_sub [2, 3, 4, 5, 6, 7] rfl K)
