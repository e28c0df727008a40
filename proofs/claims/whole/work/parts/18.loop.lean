def lw_s0 (x1 x2 x3 : Int32) (M M9 : ml_M) : Prop := ∃ (k9 b9 : Int32) (M1 M2 : ml_M), (fL_addBoat ((lw_ic x1)) (x2) (lw_bz x3) M = some (.inl k9, M1)) ∧ (fX7_addBoat ((lw_ic x1)) (x2) (lw_bz x3) M1 = some (.inl b9, M2)) ∧ (fX7_thrown M2 = some (.inl k9, M9)) ∧ (k9 = 0 → M9 181 0 = b9)
def lw_s1 (x1 x2 x3 : Int32) (M M9 : ml_M) : Prop := ∃ (k9 b9 : Int32) (M1 M2 : ml_M), (fL_setValve (x1) (x2) M = some (.inl k9, M1)) ∧ (fX7_setValve (x1) (x2) M1 = some (.inl b9, M2)) ∧ (fX7_thrown M2 = some (.inl k9, M9)) ∧ (k9 = 0 → M9 181 0 = b9)
def lw_s2 (x1 x2 x3 : Int32) (M M9 : ml_M) : Prop := ∃ (k9 b9 : Int32) (M1 M2 : ml_M), (fL_openGate (x1) M = some (.inl k9, M1)) ∧ (fX7_openGate (x1) M1 = some (.inl b9, M2)) ∧ (fX7_thrown M2 = some (.inl k9, M9)) ∧ (k9 = 0 → M9 181 0 = b9)
def lw_s3 (x1 x2 x3 : Int32) (M M9 : ml_M) : Prop := ∃ (k9 b9 : Int32) (M1 M2 : ml_M), (fL_shutGate (x1) M = some (.inl k9, M1)) ∧ (fX7_shutGate (x1) M1 = some (.inl b9, M2)) ∧ (fX7_thrown M2 = some (.inl k9, M9)) ∧ (k9 = 0 → M9 181 0 = b9)
def lw_s4 (x1 x2 x3 : Int32) (M M9 : ml_M) : Prop := ∃ (k9 b9 : Int32) (M1 M2 : ml_M), (fL_setRain (x1) M = some (.inl k9, M1)) ∧ (fX7_setRain (x1) M1 = some (.inl b9, M2)) ∧ (fX7_thrown M2 = some (.inl k9, M9)) ∧ (k9 = 0 → M9 181 0 = b9)
def lw_s5 (x1 x2 x3 : Int32) (M M9 : ml_M) : Prop := ∃ (k9 b9 : Int32) (M1 M2 : ml_M), (fL_setDrain (x1) M = some (.inl k9, M1)) ∧ (fX7_setDrain (x1) M1 = some (.inl b9, M2)) ∧ (fX7_thrown M2 = some (.inl k9, M9)) ∧ (k9 = 0 → M9 181 0 = b9)
def lw_s6 (x1 x2 x3 : Int32) (M M9 : ml_M) : Prop := ∃ (k9 b9 : Int32) (M1 M2 : ml_M), (fL_advance (x1) M = some (.inl k9, M1)) ∧ (fX7_advance (x1) M1 = some (.inl b9, M2)) ∧ (fX7_thrown M2 = some (.inl k9, M9)) ∧ (k9 = 0 → M9 181 0 = b9)
def lw_s7 (x1 x2 x3 : Int32) (M M9 : ml_M) : Prop := ∃ (k9 b9 : Int32) (M1 M2 : ml_M), (fL_area (x1) M = some (.inl k9, M1)) ∧ (fX7_area (x1) M1 = some (.inl b9, M2)) ∧ (fX7_thrown M2 = some (.inl k9, M9)) ∧ (k9 = 0 → M9 181 0 = b9)
def lw_s8 (x1 x2 x3 : Int32) (M M9 : ml_M) : Prop := ∃ (k9 b9 : Int32) (M1 M2 : ml_M), (fL_volume (x1) M = some (.inl k9, M1)) ∧ (fX7_volume (x1) M1 = some (.inl b9, M2)) ∧ (fX7_thrown M2 = some (.inl k9, M9)) ∧ (k9 = 0 → M9 181 0 = b9)
def lw_s9 (x1 x2 x3 : Int32) (M M9 : ml_M) : Prop := ∃ (k9 b9 : Int32) (M1 M2 : ml_M), (fL_level (x1) M = some (.inl k9, M1)) ∧ (fX7_level (x1) M1 = some (.inl b9, M2)) ∧ (fX7_thrown M2 = some (.inl k9, M9)) ∧ (k9 = 0 → M9 181 0 = b9)
def lw_s10 (x1 x2 x3 : Int32) (M M9 : ml_M) : Prop := ∃ (k9 b9 : Int32) (M1 M2 : ml_M), (fL_exactLevel (x1) M = some (.inl k9, M1)) ∧ (fX7_exactLevel (x1) M1 = some (.inl b9, M2)) ∧ (fX7_thrown M2 = some (.inl k9, M9)) ∧ (k9 = 0 → M9 182 0 = M2 200 0 ∧ M9 182 1 = M2 200 1)
def lw_s11 (x1 x2 x3 : Int32) (M M9 : ml_M) : Prop := ∃ (k9 b9 : Int32) (M1 M2 : ml_M), (fL_isHigher (x1) (x2) M = some (.inl k9, M1)) ∧ (fX7_isHigher (x1) (x2) M1 = some (.inl b9, M2)) ∧ (fX7_thrown M2 = some (.inl k9, M9)) ∧ (k9 = 0 → M9 181 0 = lw_bz b9)
def lw_s12 (x1 x2 x3 : Int32) (M M9 : ml_M) : Prop := ∃ (k9 b9 : Int32) (M1 M2 : ml_M), (fL_equalizingAmount (x1) M = some (.inl k9, M1)) ∧ (fX7_equalizingAmount (x1) M1 = some (.inl b9, M2)) ∧ (fX7_thrown M2 = some (.inl k9, M9)) ∧ (k9 = 0 → M9 181 0 = b9)
def lw_s13 (x1 x2 x3 : Int32) (M M9 : ml_M) : Prop := ∃ (k9 b9 : Int32) (M1 M2 : ml_M), (fL_equalizingAmountByLitres (x1) M = some (.inl k9, M1)) ∧ (fX7_equalizingAmountByLitres (x1) M1 = some (.inl b9, M2)) ∧ (fX7_thrown M2 = some (.inl k9, M9)) ∧ (k9 = 0 → M9 181 0 = b9)
def lw_s14 (x1 x2 x3 : Int32) (M M9 : ml_M) : Prop := ∃ (k9 b9 : Int32) (M1 M2 : ml_M), (fL_opening (x1) M = some (.inl k9, M1)) ∧ (fX7_opening (x1) M1 = some (.inl b9, M2)) ∧ (fX7_thrown M2 = some (.inl k9, M9)) ∧ (k9 = 0 → M9 181 0 = b9)
def lw_s15 (x1 x2 x3 : Int32) (M M9 : ml_M) : Prop := ∃ (k9 b9 : Int32) (M1 M2 : ml_M), (fL_isOpen (x1) M = some (.inl k9, M1)) ∧ (fX7_isOpen (x1) M1 = some (.inl b9, M2)) ∧ (fX7_thrown M2 = some (.inl k9, M9)) ∧ (k9 = 0 → M9 181 0 = lw_bz b9)
def lw_s16 (x1 x2 x3 : Int32) (M M9 : ml_M) : Prop := ∃ (k9 b9 : Int32) (M1 M2 : ml_M), (fL_flow (x1) M = some (.inl k9, M1)) ∧ (fX7_flow (x1) M1 = some (.inl b9, M2)) ∧ (fX7_thrown M2 = some (.inl k9, M9)) ∧ (k9 = 0 → M9 181 0 = b9)
def lw_s17 (x1 x2 x3 : Int32) (M M9 : ml_M) : Prop := ∃ (r9 : Int32) (M1 : ml_M), (fX6_rain M = some (.inl r9, M1)) ∧ (fX7_rain M1 = some (.inl r9, M9))
def lw_s18 (x1 x2 x3 : Int32) (M M9 : ml_M) : Prop := ∃ (r9 : Int32) (M1 : ml_M), (fX6_drain M = some (.inl r9, M1)) ∧ (fX7_drain M1 = some (.inl r9, M9))
def lw_s19 (x1 x2 x3 : Int32) (M M9 : ml_M) : Prop := ∃ (r9 : Int32) (M1 : ml_M), (fX6_totalVolume M = some (.inl r9, M1)) ∧ (fX7_totalVolume M1 = some (.inl r9, M9))
def lw_s20 (x1 x2 x3 : Int32) (M M9 : ml_M) : Prop := ∃ (r9 : Int32) (M1 : ml_M), (fX6_totalVolumeByAccounts M = some (.inl r9, M1)) ∧ (fX7_totalVolumeByAccounts M1 = some (.inl r9, M9))
def lw_s21 (x1 x2 x3 : Int32) (M M9 : ml_M) : Prop := ∃ (r9 : Int32) (M1 : ml_M), (fX6_rainTotal M = some (.inl r9, M1)) ∧ (fX7_rainTotal M1 = some (.inl r9, M9))
def lw_s22 (x1 x2 x3 : Int32) (M M9 : ml_M) : Prop := ∃ (r9 : Int32) (M1 : ml_M), (fX6_drainTotal M = some (.inl r9, M1)) ∧ (fX7_drainTotal M1 = some (.inl r9, M9))
def lw_s23 (x1 x2 x3 : Int32) (M M9 : ml_M) : Prop := ∃ (r9 : Int32) (M1 : ml_M), (fX6_spilledTotal M = some (.inl r9, M1)) ∧ (fX7_spilledTotal M1 = some (.inl r9, M9))
def lw_s24 (x1 x2 x3 : Int32) (M M9 : ml_M) : Prop := ∃ (k9 b9 : Int32) (M1 M2 : ml_M), (fL_basinByLevel (x1) M = some (.inl k9, M1)) ∧ (fX7_basinByLevel (x1) M1 = some (.inl b9, M2)) ∧ (fX7_thrown M2 = some (.inl k9, M9)) ∧ (k9 = 0 → M9 181 0 = b9)
def lw_s25 (x1 x2 x3 : Int32) (M M9 : ml_M) : Prop := ∃ (r9 : Int32) (M1 : ml_M), (fX6_boatCount M = some (.inl r9, M1)) ∧ (fX7_boatCount M1 = some (.inl r9, M9))
def lw_s26 (x1 x2 x3 : Int32) (M M9 : ml_M) : Prop := ∃ (k9 b9 : Int32) (M1 M2 : ml_M), (fL_colour (x1) M = some (.inl k9, M1)) ∧ (fX7_colour (x1) M1 = some (.inl b9, M2)) ∧ (fX7_thrown M2 = some (.inl k9, M9)) ∧ (k9 = 0 → M9 181 0 = b9)
def lw_s27 (x1 x2 x3 : Int32) (M M9 : ml_M) : Prop := ∃ (k9 b9 : Int32) (M1 M2 : ml_M), (fL_draught (x1) M = some (.inl k9, M1)) ∧ (fX7_draught (x1) M1 = some (.inl b9, M2)) ∧ (fX7_thrown M2 = some (.inl k9, M9)) ∧ (k9 = 0 → M9 181 0 = b9)
def lw_s28 (x1 x2 x3 : Int32) (M M9 : ml_M) : Prop := ∃ (k9 b9 : Int32) (M1 M2 : ml_M), (fL_isGoingDown (x1) M = some (.inl k9, M1)) ∧ (fX7_isGoingDown (x1) M1 = some (.inl b9, M2)) ∧ (fX7_thrown M2 = some (.inl k9, M9)) ∧ (k9 = 0 → M9 181 0 = lw_bz b9)
def lw_s29 (x1 x2 x3 : Int32) (M M9 : ml_M) : Prop := ∃ (k9 b9 : Int32) (M1 M2 : ml_M), (fL_basinOf (x1) M = some (.inl k9, M1)) ∧ (fX7_basinOf (x1) M1 = some (.inl b9, M2)) ∧ (fX7_thrown M2 = some (.inl k9, M9)) ∧ (k9 = 0 → M9 181 0 = b9)
def lw_s30 (x1 x2 x3 : Int32) (M M9 : ml_M) : Prop := ∃ (k9 b9 : Int32) (M1 M2 : ml_M), (fL_boatsIn (x1) M = some (.inl k9, M1)) ∧ (fX7_boatsIn (x1) M1 = some (.inl b9, M2)) ∧ (fX7_thrown M2 = some (.inl k9, M9)) ∧ (k9 = 0 → M9 181 0 = b9)
def lw_s31 (x1 x2 x3 : Int32) (M M9 : ml_M) : Prop := ∃ (k9 b9 : Int32) (M1 M2 : ml_M), (fL_boatInOrder (x1) M = some (.inl k9, M1)) ∧ (fX7_boatInOrder (x1) M1 = some (.inl b9, M2)) ∧ (fX7_thrown M2 = some (.inl k9, M9)) ∧ (k9 = 0 → M9 181 0 = b9)
def lw_s32 (x1 x2 x3 : Int32) (M M9 : ml_M) : Prop := ∃ (k9 b9 : Int32) (M1 M2 : ml_M), (fL_floats (x1) (x2) M = some (.inl k9, M1)) ∧ (fX7_floats (x1) (x2) M1 = some (.inl b9, M2)) ∧ (fX7_thrown M2 = some (.inl k9, M9)) ∧ (k9 = 0 → M9 181 0 = lw_bz b9)
def lw_s33 (x1 x2 x3 : Int32) (M M9 : ml_M) : Prop := ∃ (k9 b9 : Int32) (M1 M2 : ml_M), (fL_leftTotal ((lw_ic x1)) M = some (.inl k9, M1)) ∧ (fX7_leftTotal ((lw_ic x1)) M1 = some (.inl b9, M2)) ∧ (fX7_thrown M2 = some (.inl k9, M9)) ∧ (k9 = 0 → M9 181 0 = b9)
def lw_s34 (x1 x2 x3 : Int32) (M M9 : ml_M) : Prop := ∃ (k9 b9 : Int32) (M1 M2 : ml_M), (fL_minutesUntilLeaving (x1) M = some (.inl k9, M1)) ∧ (fX7_minutesUntilLeaving (x1) M1 = some (.inl b9, M2)) ∧ (fX7_thrown M2 = some (.inl k9, M9)) ∧ (k9 = 0 → M9 181 0 = b9)
def lw_s35 (x1 x2 x3 : Int32) (M M9 : ml_M) : Prop := ∃ (k9 b9 : Int32) (M1 M2 : ml_M), (fL_minutesUntilEqual (x1) M = some (.inl k9, M1)) ∧ (fX7_minutesUntilEqual (x1) M1 = some (.inl b9, M2)) ∧ (fX7_thrown M2 = some (.inl k9, M9)) ∧ (k9 = 0 → M9 181 0 = b9)
def lw_s36 (x1 x2 x3 : Int32) (M M9 : ml_M) : Prop := ∃ (k9 b9 : Int32) (M1 M2 : ml_M), (fL_volumeAfter (x1) (x2) M = some (.inl k9, M1)) ∧ (fX7_volumeAfter (x1) (x2) M1 = some (.inl b9, M2)) ∧ (fX7_thrown M2 = some (.inl k9, M9)) ∧ (k9 = 0 → M9 181 0 = b9)
def lw_s37 (x1 x2 x3 : Int32) (M M9 : ml_M) : Prop := ∃ (r9 : Int32) (M1 : ml_M), (fX6_eventCount M = some (.inl r9, M1)) ∧ (fX7_eventCount M1 = some (.inl r9, M9))
def lw_s38 (x1 x2 x3 : Int32) (M M9 : ml_M) : Prop := ∃ (k9 b9 : Int32) (M1 M2 : ml_M), (fL_eventKind (x1) M = some (.inl k9, M1)) ∧ (fX7_eventKind (x1) M1 = some (.inl b9, M2)) ∧ (fX7_thrown M2 = some (.inl k9, M9)) ∧ (k9 = 0 → M9 181 0 = b9)
def lw_s39 (x1 x2 x3 : Int32) (M M9 : ml_M) : Prop := ∃ (k9 b9 : Int32) (M1 M2 : ml_M), (fL_eventNumber (x1) M = some (.inl k9, M1)) ∧ (fX7_eventNumber (x1) M1 = some (.inl b9, M2)) ∧ (fX7_thrown M2 = some (.inl k9, M9)) ∧ (k9 = 0 → M9 181 0 = b9)
def lw_s40 (x1 x2 x3 : Int32) (M M9 : ml_M) : Prop := ∃ (r9 : Int32) (M1 : ml_M), (fX6_time M = some (.inl r9, M1)) ∧ (fX7_time M1 = some (.inl r9, M9))
def lw_s41 (x1 x2 x3 : Int32) (M M9 : ml_M) : Prop := ∃ (r9 r8 : Int32) (M1 : ml_M), (fX6_meanLevel M = some (.inl r9, M1)) ∧ (fX7_meanLevel M1 = some (.inl r8, M9)) ∧ (M1 200 0 = M9 200 0) ∧ (vf_n64 (FP.f2d (FP.fdiv (FP.i2f (M9 200 0)) (FP.i2f 38))))
def lw_s42 (x1 x2 x3 : Int32) (M M9 : ml_M) : Prop := ∃ (r9 : Int32) (M1 : ml_M), (fX6_isConsistent M = some (.inl r9, M1)) ∧ (fX7_isConsistent M1 = some (.inl r9, M9))
def lw_s43 (x1 x2 x3 : Int32) (M M9 : ml_M) : Prop := ∃ (r9 : Int32) (M1 : ml_M), (fX6_renderLevels M = some (.inl r9, M1)) ∧ (fX7_renderLevels M1 = some (.inl r9, M9))
def lw_s44 (x1 x2 x3 : Int32) (M M9 : ml_M) : Prop := ∃ (k9 b9 : Int32) (M1 M2 : ml_M), (fL_renderBoat (x1) M = some (.inl k9, M1)) ∧ (fX7_renderBoat (x1) M1 = some (.inl b9, M2)) ∧ (fX7_thrown M2 = some (.inl k9, M9)) ∧ (k9 = 0 → M9 181 0 = b9)
def lw_s45 (x1 x2 x3 : Int32) (M M9 : ml_M) : Prop := ∃ (k9 b9 : Int32) (M1 M2 : ml_M), (fL_outputAt (x1) M = some (.inl k9, M1)) ∧ (fX7_outputAt (x1) M1 = some (.inl b9, M2)) ∧ (fX7_thrown M2 = some (.inl k9, M9)) ∧ (k9 = 0 → M9 181 0 = b9)
def lw_s46 (x1 x2 x3 : Int32) (M M9 : ml_M) : Prop := ∃ (k9 b9 : Int32) (M1 M2 : ml_M), (fL_type ((lw_ic x1)) M = some (.inl k9, M1)) ∧ (fX7_type ((lw_ic x1)) M1 = some (.inl b9, M2)) ∧ (fX7_thrown M2 = some (.inl k9, M9)) ∧ (k9 = 0 → M9 181 0 = b9)
def lw_s47 (x1 x2 x3 : Int32) (M M9 : ml_M) : Prop := ∃ (k9 b9 : Int32) (M1 M2 : ml_M), (fL_runScript M = some (.inl k9, M1)) ∧ (fX7_runScript M1 = some (.inl b9, M2)) ∧ (fX7_thrown M2 = some (.inl k9, M9)) ∧ (k9 = 0 → M9 181 0 = b9)
def lw_s48 (x1 x2 x3 : Int32) (M M9 : ml_M) : Prop := ∃ (k9 b9 : Int32) (M1 M2 : ml_M), (fL_errorPosition M = some (.inl k9, M1)) ∧ (fX7_errorPosition M1 = some (.inl b9, M2)) ∧ (fX7_thrown M2 = some (.inl k9, M9)) ∧ (k9 = 0 → M9 181 0 = b9)
def lw_s49 (x1 x2 x3 : Int32) (M M9 : ml_M) : Prop := ∃ (k9 b9 : Int32) (M1 M2 : ml_M), (fL_failedCommand M = some (.inl k9, M1)) ∧ (fX7_failedCommand M1 = some (.inl b9, M2)) ∧ (fX7_thrown M2 = some (.inl k9, M9)) ∧ (k9 = 0 → M9 181 0 = b9)
def lw_s50 (x1 x2 x3 : Int32) (M M9 : ml_M) : Prop := ∃ (k9 b9 : Int32) (M1 M2 : ml_M), (fL_undo M = some (.inl k9, M1)) ∧ (fX7_undo M1 = some (.inl b9, M2)) ∧ (fX7_thrown M2 = some (.inl k9, M9)) ∧ (k9 = 0 → M9 181 0 = b9)
def lw_s51 (x1 x2 x3 : Int32) (M M9 : ml_M) : Prop := ∃ (r9 : Int32) (M1 : ml_M), (fX6_save M = some (.inl r9, M1)) ∧ (fX7_save M1 = some (.inl r9, M9))
def lw_s52 (x1 x2 x3 : Int32) (M M9 : ml_M) : Prop := ∃ (k9 b9 : Int32) (M1 M2 : ml_M), (fL_restore M = some (.inl k9, M1)) ∧ (fX7_restore M1 = some (.inl b9, M2)) ∧ (fX7_thrown M2 = some (.inl k9, M9)) ∧ (k9 = 0 → M9 181 0 = b9)
/-- what one step of the law does to the memory, its comparisons held -/
def lw_step (c : Nat) (x1 x2 x3 : Int32) (M M9 : ml_M) : Prop := (c = 0 ∧ lw_s0 x1 x2 x3 M M9) ∨ (c = 1 ∧ lw_s1 x1 x2 x3 M M9) ∨ (c = 2 ∧ lw_s2 x1 x2 x3 M M9) ∨ (c = 3 ∧ lw_s3 x1 x2 x3 M M9) ∨ (c = 4 ∧ lw_s4 x1 x2 x3 M M9) ∨ (c = 5 ∧ lw_s5 x1 x2 x3 M M9) ∨ (c = 6 ∧ lw_s6 x1 x2 x3 M M9) ∨ (c = 7 ∧ lw_s7 x1 x2 x3 M M9) ∨ (c = 8 ∧ lw_s8 x1 x2 x3 M M9) ∨ (c = 9 ∧ lw_s9 x1 x2 x3 M M9) ∨ (c = 10 ∧ lw_s10 x1 x2 x3 M M9) ∨ (c = 11 ∧ lw_s11 x1 x2 x3 M M9) ∨ (c = 12 ∧ lw_s12 x1 x2 x3 M M9) ∨ (c = 13 ∧ lw_s13 x1 x2 x3 M M9) ∨ (c = 14 ∧ lw_s14 x1 x2 x3 M M9) ∨ (c = 15 ∧ lw_s15 x1 x2 x3 M M9) ∨ (c = 16 ∧ lw_s16 x1 x2 x3 M M9) ∨ (c = 17 ∧ lw_s17 x1 x2 x3 M M9) ∨ (c = 18 ∧ lw_s18 x1 x2 x3 M M9) ∨ (c = 19 ∧ lw_s19 x1 x2 x3 M M9) ∨ (c = 20 ∧ lw_s20 x1 x2 x3 M M9) ∨ (c = 21 ∧ lw_s21 x1 x2 x3 M M9) ∨ (c = 22 ∧ lw_s22 x1 x2 x3 M M9) ∨ (c = 23 ∧ lw_s23 x1 x2 x3 M M9) ∨ (c = 24 ∧ lw_s24 x1 x2 x3 M M9) ∨ (c = 25 ∧ lw_s25 x1 x2 x3 M M9) ∨ (c = 26 ∧ lw_s26 x1 x2 x3 M M9) ∨ (c = 27 ∧ lw_s27 x1 x2 x3 M M9) ∨ (c = 28 ∧ lw_s28 x1 x2 x3 M M9) ∨ (c = 29 ∧ lw_s29 x1 x2 x3 M M9) ∨ (c = 30 ∧ lw_s30 x1 x2 x3 M M9) ∨ (c = 31 ∧ lw_s31 x1 x2 x3 M M9) ∨ (c = 32 ∧ lw_s32 x1 x2 x3 M M9) ∨ (c = 33 ∧ lw_s33 x1 x2 x3 M M9) ∨ (c = 34 ∧ lw_s34 x1 x2 x3 M M9) ∨ (c = 35 ∧ lw_s35 x1 x2 x3 M M9) ∨ (c = 36 ∧ lw_s36 x1 x2 x3 M M9) ∨ (c = 37 ∧ lw_s37 x1 x2 x3 M M9) ∨ (c = 38 ∧ lw_s38 x1 x2 x3 M M9) ∨ (c = 39 ∧ lw_s39 x1 x2 x3 M M9) ∨ (c = 40 ∧ lw_s40 x1 x2 x3 M M9) ∨ (c = 41 ∧ lw_s41 x1 x2 x3 M M9) ∨ (c = 42 ∧ lw_s42 x1 x2 x3 M M9) ∨ (c = 43 ∧ lw_s43 x1 x2 x3 M M9) ∨ (c = 44 ∧ lw_s44 x1 x2 x3 M M9) ∨ (c = 45 ∧ lw_s45 x1 x2 x3 M M9) ∨ (c = 46 ∧ lw_s46 x1 x2 x3 M M9) ∨ (c = 47 ∧ lw_s47 x1 x2 x3 M M9) ∨ (c = 48 ∧ lw_s48 x1 x2 x3 M M9) ∨ (c = 49 ∧ lw_s49 x1 x2 x3 M M9) ∨ (c = 50 ∧ lw_s50 x1 x2 x3 M M9) ∨ (c = 51 ∧ lw_s51 x1 x2 x3 M M9) ∨ (c = 52 ∧ lw_s52 x1 x2 x3 M M9) ∨ (53 ≤ c ∧ M9 = M)
theorem lw_in0 {x1 x2 x3 : Int32} {M M9 : ml_M} (h : lw_s0 x1 x2 x3 M M9) : lw_step 0 x1 x2 x3 M M9 := Or.inl ⟨rfl, h⟩
theorem lw_in1 {x1 x2 x3 : Int32} {M M9 : ml_M} (h : lw_s1 x1 x2 x3 M M9) : lw_step 1 x1 x2 x3 M M9 := Or.inr (Or.inl ⟨rfl, h⟩)
theorem lw_in2 {x1 x2 x3 : Int32} {M M9 : ml_M} (h : lw_s2 x1 x2 x3 M M9) : lw_step 2 x1 x2 x3 M M9 := Or.inr (Or.inr (Or.inl ⟨rfl, h⟩))
theorem lw_in3 {x1 x2 x3 : Int32} {M M9 : ml_M} (h : lw_s3 x1 x2 x3 M M9) : lw_step 3 x1 x2 x3 M M9 := Or.inr (Or.inr (Or.inr (Or.inl ⟨rfl, h⟩)))
theorem lw_in4 {x1 x2 x3 : Int32} {M M9 : ml_M} (h : lw_s4 x1 x2 x3 M M9) : lw_step 4 x1 x2 x3 M M9 := Or.inr (Or.inr (Or.inr (Or.inr (Or.inl ⟨rfl, h⟩))))
theorem lw_in5 {x1 x2 x3 : Int32} {M M9 : ml_M} (h : lw_s5 x1 x2 x3 M M9) : lw_step 5 x1 x2 x3 M M9 := Or.inr (Or.inr (Or.inr (Or.inr (Or.inr (Or.inl ⟨rfl, h⟩)))))
theorem lw_in6 {x1 x2 x3 : Int32} {M M9 : ml_M} (h : lw_s6 x1 x2 x3 M M9) : lw_step 6 x1 x2 x3 M M9 := Or.inr (Or.inr (Or.inr (Or.inr (Or.inr (Or.inr (Or.inl ⟨rfl, h⟩))))))
theorem lw_in7 {x1 x2 x3 : Int32} {M M9 : ml_M} (h : lw_s7 x1 x2 x3 M M9) : lw_step 7 x1 x2 x3 M M9 := Or.inr (Or.inr (Or.inr (Or.inr (Or.inr (Or.inr (Or.inr (Or.inl ⟨rfl, h⟩)))))))
theorem lw_in8 {x1 x2 x3 : Int32} {M M9 : ml_M} (h : lw_s8 x1 x2 x3 M M9) : lw_step 8 x1 x2 x3 M M9 := Or.inr (Or.inr (Or.inr (Or.inr (Or.inr (Or.inr (Or.inr (Or.inr (Or.inl ⟨rfl, h⟩))))))))
theorem lw_in9 {x1 x2 x3 : Int32} {M M9 : ml_M} (h : lw_s9 x1 x2 x3 M M9) : lw_step 9 x1 x2 x3 M M9 := Or.inr (Or.inr (Or.inr (Or.inr (Or.inr (Or.inr (Or.inr (Or.inr (Or.inr (Or.inl ⟨rfl, h⟩)))))))))
theorem lw_in10 {x1 x2 x3 : Int32} {M M9 : ml_M} (h : lw_s10 x1 x2 x3 M M9) : lw_step 10 x1 x2 x3 M M9 := Or.inr (Or.inr (Or.inr (Or.inr (Or.inr (Or.inr (Or.inr (Or.inr (Or.inr (Or.inr (Or.inl ⟨rfl, h⟩))))))))))
theorem lw_in11 {x1 x2 x3 : Int32} {M M9 : ml_M} (h : lw_s11 x1 x2 x3 M M9) : lw_step 11 x1 x2 x3 M M9 := Or.inr (Or.inr (Or.inr (Or.inr (Or.inr (Or.inr (Or.inr (Or.inr (Or.inr (Or.inr (Or.inr (Or.inl ⟨rfl, h⟩)))))))))))
theorem lw_in12 {x1 x2 x3 : Int32} {M M9 : ml_M} (h : lw_s12 x1 x2 x3 M M9) : lw_step 12 x1 x2 x3 M M9 := Or.inr (Or.inr (Or.inr (Or.inr (Or.inr (Or.inr (Or.inr (Or.inr (Or.inr (Or.inr (Or.inr (Or.inr (Or.inl ⟨rfl, h⟩))))))))))))
theorem lw_in13 {x1 x2 x3 : Int32} {M M9 : ml_M} (h : lw_s13 x1 x2 x3 M M9) : lw_step 13 x1 x2 x3 M M9 := Or.inr (Or.inr (Or.inr (Or.inr (Or.inr (Or.inr (Or.inr (Or.inr (Or.inr (Or.inr (Or.inr (Or.inr (Or.inr (Or.inl ⟨rfl, h⟩)))))))))))))
theorem lw_in14 {x1 x2 x3 : Int32} {M M9 : ml_M} (h : lw_s14 x1 x2 x3 M M9) : lw_step 14 x1 x2 x3 M M9 := Or.inr (Or.inr (Or.inr (Or.inr (Or.inr (Or.inr (Or.inr (Or.inr (Or.inr (Or.inr (Or.inr (Or.inr (Or.inr (Or.inr (Or.inl ⟨rfl, h⟩))))))))))))))
theorem lw_in15 {x1 x2 x3 : Int32} {M M9 : ml_M} (h : lw_s15 x1 x2 x3 M M9) : lw_step 15 x1 x2 x3 M M9 := Or.inr (Or.inr (Or.inr (Or.inr (Or.inr (Or.inr (Or.inr (Or.inr (Or.inr (Or.inr (Or.inr (Or.inr (Or.inr (Or.inr (Or.inr (Or.inl ⟨rfl, h⟩)))))))))))))))
theorem lw_in16 {x1 x2 x3 : Int32} {M M9 : ml_M} (h : lw_s16 x1 x2 x3 M M9) : lw_step 16 x1 x2 x3 M M9 := Or.inr (Or.inr (Or.inr (Or.inr (Or.inr (Or.inr (Or.inr (Or.inr (Or.inr (Or.inr (Or.inr (Or.inr (Or.inr (Or.inr (Or.inr (Or.inr (Or.inl ⟨rfl, h⟩))))))))))))))))
theorem lw_in17 {x1 x2 x3 : Int32} {M M9 : ml_M} (h : lw_s17 x1 x2 x3 M M9) : lw_step 17 x1 x2 x3 M M9 := Or.inr (Or.inr (Or.inr (Or.inr (Or.inr (Or.inr (Or.inr (Or.inr (Or.inr (Or.inr (Or.inr (Or.inr (Or.inr (Or.inr (Or.inr (Or.inr (Or.inr (Or.inl ⟨rfl, h⟩)))))))))))))))))
theorem lw_in18 {x1 x2 x3 : Int32} {M M9 : ml_M} (h : lw_s18 x1 x2 x3 M M9) : lw_step 18 x1 x2 x3 M M9 := Or.inr (Or.inr (Or.inr (Or.inr (Or.inr (Or.inr (Or.inr (Or.inr (Or.inr (Or.inr (Or.inr (Or.inr (Or.inr (Or.inr (Or.inr (Or.inr (Or.inr (Or.inr (Or.inl ⟨rfl, h⟩))))))))))))))))))
theorem lw_in19 {x1 x2 x3 : Int32} {M M9 : ml_M} (h : lw_s19 x1 x2 x3 M M9) : lw_step 19 x1 x2 x3 M M9 := Or.inr (Or.inr (Or.inr (Or.inr (Or.inr (Or.inr (Or.inr (Or.inr (Or.inr (Or.inr (Or.inr (Or.inr (Or.inr (Or.inr (Or.inr (Or.inr (Or.inr (Or.inr (Or.inr (Or.inl ⟨rfl, h⟩)))))))))))))))))))
theorem lw_in20 {x1 x2 x3 : Int32} {M M9 : ml_M} (h : lw_s20 x1 x2 x3 M M9) : lw_step 20 x1 x2 x3 M M9 := Or.inr (Or.inr (Or.inr (Or.inr (Or.inr (Or.inr (Or.inr (Or.inr (Or.inr (Or.inr (Or.inr (Or.inr (Or.inr (Or.inr (Or.inr (Or.inr (Or.inr (Or.inr (Or.inr (Or.inr (Or.inl ⟨rfl, h⟩))))))))))))))))))))
theorem lw_in21 {x1 x2 x3 : Int32} {M M9 : ml_M} (h : lw_s21 x1 x2 x3 M M9) : lw_step 21 x1 x2 x3 M M9 := Or.inr (Or.inr (Or.inr (Or.inr (Or.inr (Or.inr (Or.inr (Or.inr (Or.inr (Or.inr (Or.inr (Or.inr (Or.inr (Or.inr (Or.inr (Or.inr (Or.inr (Or.inr (Or.inr (Or.inr (Or.inr (Or.inl ⟨rfl, h⟩)))))))))))))))))))))
theorem lw_in22 {x1 x2 x3 : Int32} {M M9 : ml_M} (h : lw_s22 x1 x2 x3 M M9) : lw_step 22 x1 x2 x3 M M9 := Or.inr (Or.inr (Or.inr (Or.inr (Or.inr (Or.inr (Or.inr (Or.inr (Or.inr (Or.inr (Or.inr (Or.inr (Or.inr (Or.inr (Or.inr (Or.inr (Or.inr (Or.inr (Or.inr (Or.inr (Or.inr (Or.inr (Or.inl ⟨rfl, h⟩))))))))))))))))))))))
theorem lw_in23 {x1 x2 x3 : Int32} {M M9 : ml_M} (h : lw_s23 x1 x2 x3 M M9) : lw_step 23 x1 x2 x3 M M9 := Or.inr (Or.inr (Or.inr (Or.inr (Or.inr (Or.inr (Or.inr (Or.inr (Or.inr (Or.inr (Or.inr (Or.inr (Or.inr (Or.inr (Or.inr (Or.inr (Or.inr (Or.inr (Or.inr (Or.inr (Or.inr (Or.inr (Or.inr (Or.inl ⟨rfl, h⟩)))))))))))))))))))))))
theorem lw_in24 {x1 x2 x3 : Int32} {M M9 : ml_M} (h : lw_s24 x1 x2 x3 M M9) : lw_step 24 x1 x2 x3 M M9 := Or.inr (Or.inr (Or.inr (Or.inr (Or.inr (Or.inr (Or.inr (Or.inr (Or.inr (Or.inr (Or.inr (Or.inr (Or.inr (Or.inr (Or.inr (Or.inr (Or.inr (Or.inr (Or.inr (Or.inr (Or.inr (Or.inr (Or.inr (Or.inr (Or.inl ⟨rfl, h⟩))))))))))))))))))))))))
theorem lw_in25 {x1 x2 x3 : Int32} {M M9 : ml_M} (h : lw_s25 x1 x2 x3 M M9) : lw_step 25 x1 x2 x3 M M9 := Or.inr (Or.inr (Or.inr (Or.inr (Or.inr (Or.inr (Or.inr (Or.inr (Or.inr (Or.inr (Or.inr (Or.inr (Or.inr (Or.inr (Or.inr (Or.inr (Or.inr (Or.inr (Or.inr (Or.inr (Or.inr (Or.inr (Or.inr (Or.inr (Or.inr (Or.inl ⟨rfl, h⟩)))))))))))))))))))))))))
theorem lw_in26 {x1 x2 x3 : Int32} {M M9 : ml_M} (h : lw_s26 x1 x2 x3 M M9) : lw_step 26 x1 x2 x3 M M9 := Or.inr (Or.inr (Or.inr (Or.inr (Or.inr (Or.inr (Or.inr (Or.inr (Or.inr (Or.inr (Or.inr (Or.inr (Or.inr (Or.inr (Or.inr (Or.inr (Or.inr (Or.inr (Or.inr (Or.inr (Or.inr (Or.inr (Or.inr (Or.inr (Or.inr (Or.inr (Or.inl ⟨rfl, h⟩))))))))))))))))))))))))))
theorem lw_in27 {x1 x2 x3 : Int32} {M M9 : ml_M} (h : lw_s27 x1 x2 x3 M M9) : lw_step 27 x1 x2 x3 M M9 := Or.inr (Or.inr (Or.inr (Or.inr (Or.inr (Or.inr (Or.inr (Or.inr (Or.inr (Or.inr (Or.inr (Or.inr (Or.inr (Or.inr (Or.inr (Or.inr (Or.inr (Or.inr (Or.inr (Or.inr (Or.inr (Or.inr (Or.inr (Or.inr (Or.inr (Or.inr (Or.inr (Or.inl ⟨rfl, h⟩)))))))))))))))))))))))))))
theorem lw_in28 {x1 x2 x3 : Int32} {M M9 : ml_M} (h : lw_s28 x1 x2 x3 M M9) : lw_step 28 x1 x2 x3 M M9 := Or.inr (Or.inr (Or.inr (Or.inr (Or.inr (Or.inr (Or.inr (Or.inr (Or.inr (Or.inr (Or.inr (Or.inr (Or.inr (Or.inr (Or.inr (Or.inr (Or.inr (Or.inr (Or.inr (Or.inr (Or.inr (Or.inr (Or.inr (Or.inr (Or.inr (Or.inr (Or.inr (Or.inr (Or.inl ⟨rfl, h⟩))))))))))))))))))))))))))))
theorem lw_in29 {x1 x2 x3 : Int32} {M M9 : ml_M} (h : lw_s29 x1 x2 x3 M M9) : lw_step 29 x1 x2 x3 M M9 := Or.inr (Or.inr (Or.inr (Or.inr (Or.inr (Or.inr (Or.inr (Or.inr (Or.inr (Or.inr (Or.inr (Or.inr (Or.inr (Or.inr (Or.inr (Or.inr (Or.inr (Or.inr (Or.inr (Or.inr (Or.inr (Or.inr (Or.inr (Or.inr (Or.inr (Or.inr (Or.inr (Or.inr (Or.inr (Or.inl ⟨rfl, h⟩)))))))))))))))))))))))))))))
theorem lw_in30 {x1 x2 x3 : Int32} {M M9 : ml_M} (h : lw_s30 x1 x2 x3 M M9) : lw_step 30 x1 x2 x3 M M9 := Or.inr (Or.inr (Or.inr (Or.inr (Or.inr (Or.inr (Or.inr (Or.inr (Or.inr (Or.inr (Or.inr (Or.inr (Or.inr (Or.inr (Or.inr (Or.inr (Or.inr (Or.inr (Or.inr (Or.inr (Or.inr (Or.inr (Or.inr (Or.inr (Or.inr (Or.inr (Or.inr (Or.inr (Or.inr (Or.inr (Or.inl ⟨rfl, h⟩))))))))))))))))))))))))))))))
theorem lw_in31 {x1 x2 x3 : Int32} {M M9 : ml_M} (h : lw_s31 x1 x2 x3 M M9) : lw_step 31 x1 x2 x3 M M9 := Or.inr (Or.inr (Or.inr (Or.inr (Or.inr (Or.inr (Or.inr (Or.inr (Or.inr (Or.inr (Or.inr (Or.inr (Or.inr (Or.inr (Or.inr (Or.inr (Or.inr (Or.inr (Or.inr (Or.inr (Or.inr (Or.inr (Or.inr (Or.inr (Or.inr (Or.inr (Or.inr (Or.inr (Or.inr (Or.inr (Or.inr (Or.inl ⟨rfl, h⟩)))))))))))))))))))))))))))))))
theorem lw_in32 {x1 x2 x3 : Int32} {M M9 : ml_M} (h : lw_s32 x1 x2 x3 M M9) : lw_step 32 x1 x2 x3 M M9 := Or.inr (Or.inr (Or.inr (Or.inr (Or.inr (Or.inr (Or.inr (Or.inr (Or.inr (Or.inr (Or.inr (Or.inr (Or.inr (Or.inr (Or.inr (Or.inr (Or.inr (Or.inr (Or.inr (Or.inr (Or.inr (Or.inr (Or.inr (Or.inr (Or.inr (Or.inr (Or.inr (Or.inr (Or.inr (Or.inr (Or.inr (Or.inr (Or.inl ⟨rfl, h⟩))))))))))))))))))))))))))))))))
theorem lw_in33 {x1 x2 x3 : Int32} {M M9 : ml_M} (h : lw_s33 x1 x2 x3 M M9) : lw_step 33 x1 x2 x3 M M9 := Or.inr (Or.inr (Or.inr (Or.inr (Or.inr (Or.inr (Or.inr (Or.inr (Or.inr (Or.inr (Or.inr (Or.inr (Or.inr (Or.inr (Or.inr (Or.inr (Or.inr (Or.inr (Or.inr (Or.inr (Or.inr (Or.inr (Or.inr (Or.inr (Or.inr (Or.inr (Or.inr (Or.inr (Or.inr (Or.inr (Or.inr (Or.inr (Or.inr (Or.inl ⟨rfl, h⟩)))))))))))))))))))))))))))))))))
theorem lw_in34 {x1 x2 x3 : Int32} {M M9 : ml_M} (h : lw_s34 x1 x2 x3 M M9) : lw_step 34 x1 x2 x3 M M9 := Or.inr (Or.inr (Or.inr (Or.inr (Or.inr (Or.inr (Or.inr (Or.inr (Or.inr (Or.inr (Or.inr (Or.inr (Or.inr (Or.inr (Or.inr (Or.inr (Or.inr (Or.inr (Or.inr (Or.inr (Or.inr (Or.inr (Or.inr (Or.inr (Or.inr (Or.inr (Or.inr (Or.inr (Or.inr (Or.inr (Or.inr (Or.inr (Or.inr (Or.inr (Or.inl ⟨rfl, h⟩))))))))))))))))))))))))))))))))))
theorem lw_in35 {x1 x2 x3 : Int32} {M M9 : ml_M} (h : lw_s35 x1 x2 x3 M M9) : lw_step 35 x1 x2 x3 M M9 := Or.inr (Or.inr (Or.inr (Or.inr (Or.inr (Or.inr (Or.inr (Or.inr (Or.inr (Or.inr (Or.inr (Or.inr (Or.inr (Or.inr (Or.inr (Or.inr (Or.inr (Or.inr (Or.inr (Or.inr (Or.inr (Or.inr (Or.inr (Or.inr (Or.inr (Or.inr (Or.inr (Or.inr (Or.inr (Or.inr (Or.inr (Or.inr (Or.inr (Or.inr (Or.inr (Or.inl ⟨rfl, h⟩)))))))))))))))))))))))))))))))))))
theorem lw_in36 {x1 x2 x3 : Int32} {M M9 : ml_M} (h : lw_s36 x1 x2 x3 M M9) : lw_step 36 x1 x2 x3 M M9 := Or.inr (Or.inr (Or.inr (Or.inr (Or.inr (Or.inr (Or.inr (Or.inr (Or.inr (Or.inr (Or.inr (Or.inr (Or.inr (Or.inr (Or.inr (Or.inr (Or.inr (Or.inr (Or.inr (Or.inr (Or.inr (Or.inr (Or.inr (Or.inr (Or.inr (Or.inr (Or.inr (Or.inr (Or.inr (Or.inr (Or.inr (Or.inr (Or.inr (Or.inr (Or.inr (Or.inr (Or.inl ⟨rfl, h⟩))))))))))))))))))))))))))))))))))))
theorem lw_in37 {x1 x2 x3 : Int32} {M M9 : ml_M} (h : lw_s37 x1 x2 x3 M M9) : lw_step 37 x1 x2 x3 M M9 := Or.inr (Or.inr (Or.inr (Or.inr (Or.inr (Or.inr (Or.inr (Or.inr (Or.inr (Or.inr (Or.inr (Or.inr (Or.inr (Or.inr (Or.inr (Or.inr (Or.inr (Or.inr (Or.inr (Or.inr (Or.inr (Or.inr (Or.inr (Or.inr (Or.inr (Or.inr (Or.inr (Or.inr (Or.inr (Or.inr (Or.inr (Or.inr (Or.inr (Or.inr (Or.inr (Or.inr (Or.inr (Or.inl ⟨rfl, h⟩)))))))))))))))))))))))))))))))))))))
theorem lw_in38 {x1 x2 x3 : Int32} {M M9 : ml_M} (h : lw_s38 x1 x2 x3 M M9) : lw_step 38 x1 x2 x3 M M9 := Or.inr (Or.inr (Or.inr (Or.inr (Or.inr (Or.inr (Or.inr (Or.inr (Or.inr (Or.inr (Or.inr (Or.inr (Or.inr (Or.inr (Or.inr (Or.inr (Or.inr (Or.inr (Or.inr (Or.inr (Or.inr (Or.inr (Or.inr (Or.inr (Or.inr (Or.inr (Or.inr (Or.inr (Or.inr (Or.inr (Or.inr (Or.inr (Or.inr (Or.inr (Or.inr (Or.inr (Or.inr (Or.inr (Or.inl ⟨rfl, h⟩))))))))))))))))))))))))))))))))))))))
theorem lw_in39 {x1 x2 x3 : Int32} {M M9 : ml_M} (h : lw_s39 x1 x2 x3 M M9) : lw_step 39 x1 x2 x3 M M9 := Or.inr (Or.inr (Or.inr (Or.inr (Or.inr (Or.inr (Or.inr (Or.inr (Or.inr (Or.inr (Or.inr (Or.inr (Or.inr (Or.inr (Or.inr (Or.inr (Or.inr (Or.inr (Or.inr (Or.inr (Or.inr (Or.inr (Or.inr (Or.inr (Or.inr (Or.inr (Or.inr (Or.inr (Or.inr (Or.inr (Or.inr (Or.inr (Or.inr (Or.inr (Or.inr (Or.inr (Or.inr (Or.inr (Or.inr (Or.inl ⟨rfl, h⟩)))))))))))))))))))))))))))))))))))))))
theorem lw_in40 {x1 x2 x3 : Int32} {M M9 : ml_M} (h : lw_s40 x1 x2 x3 M M9) : lw_step 40 x1 x2 x3 M M9 := Or.inr (Or.inr (Or.inr (Or.inr (Or.inr (Or.inr (Or.inr (Or.inr (Or.inr (Or.inr (Or.inr (Or.inr (Or.inr (Or.inr (Or.inr (Or.inr (Or.inr (Or.inr (Or.inr (Or.inr (Or.inr (Or.inr (Or.inr (Or.inr (Or.inr (Or.inr (Or.inr (Or.inr (Or.inr (Or.inr (Or.inr (Or.inr (Or.inr (Or.inr (Or.inr (Or.inr (Or.inr (Or.inr (Or.inr (Or.inr (Or.inl ⟨rfl, h⟩))))))))))))))))))))))))))))))))))))))))
theorem lw_in41 {x1 x2 x3 : Int32} {M M9 : ml_M} (h : lw_s41 x1 x2 x3 M M9) : lw_step 41 x1 x2 x3 M M9 := Or.inr (Or.inr (Or.inr (Or.inr (Or.inr (Or.inr (Or.inr (Or.inr (Or.inr (Or.inr (Or.inr (Or.inr (Or.inr (Or.inr (Or.inr (Or.inr (Or.inr (Or.inr (Or.inr (Or.inr (Or.inr (Or.inr (Or.inr (Or.inr (Or.inr (Or.inr (Or.inr (Or.inr (Or.inr (Or.inr (Or.inr (Or.inr (Or.inr (Or.inr (Or.inr (Or.inr (Or.inr (Or.inr (Or.inr (Or.inr (Or.inr (Or.inl ⟨rfl, h⟩)))))))))))))))))))))))))))))))))))))))))
theorem lw_in42 {x1 x2 x3 : Int32} {M M9 : ml_M} (h : lw_s42 x1 x2 x3 M M9) : lw_step 42 x1 x2 x3 M M9 := Or.inr (Or.inr (Or.inr (Or.inr (Or.inr (Or.inr (Or.inr (Or.inr (Or.inr (Or.inr (Or.inr (Or.inr (Or.inr (Or.inr (Or.inr (Or.inr (Or.inr (Or.inr (Or.inr (Or.inr (Or.inr (Or.inr (Or.inr (Or.inr (Or.inr (Or.inr (Or.inr (Or.inr (Or.inr (Or.inr (Or.inr (Or.inr (Or.inr (Or.inr (Or.inr (Or.inr (Or.inr (Or.inr (Or.inr (Or.inr (Or.inr (Or.inr (Or.inl ⟨rfl, h⟩))))))))))))))))))))))))))))))))))))))))))
theorem lw_in43 {x1 x2 x3 : Int32} {M M9 : ml_M} (h : lw_s43 x1 x2 x3 M M9) : lw_step 43 x1 x2 x3 M M9 := Or.inr (Or.inr (Or.inr (Or.inr (Or.inr (Or.inr (Or.inr (Or.inr (Or.inr (Or.inr (Or.inr (Or.inr (Or.inr (Or.inr (Or.inr (Or.inr (Or.inr (Or.inr (Or.inr (Or.inr (Or.inr (Or.inr (Or.inr (Or.inr (Or.inr (Or.inr (Or.inr (Or.inr (Or.inr (Or.inr (Or.inr (Or.inr (Or.inr (Or.inr (Or.inr (Or.inr (Or.inr (Or.inr (Or.inr (Or.inr (Or.inr (Or.inr (Or.inr (Or.inl ⟨rfl, h⟩)))))))))))))))))))))))))))))))))))))))))))
theorem lw_in44 {x1 x2 x3 : Int32} {M M9 : ml_M} (h : lw_s44 x1 x2 x3 M M9) : lw_step 44 x1 x2 x3 M M9 := Or.inr (Or.inr (Or.inr (Or.inr (Or.inr (Or.inr (Or.inr (Or.inr (Or.inr (Or.inr (Or.inr (Or.inr (Or.inr (Or.inr (Or.inr (Or.inr (Or.inr (Or.inr (Or.inr (Or.inr (Or.inr (Or.inr (Or.inr (Or.inr (Or.inr (Or.inr (Or.inr (Or.inr (Or.inr (Or.inr (Or.inr (Or.inr (Or.inr (Or.inr (Or.inr (Or.inr (Or.inr (Or.inr (Or.inr (Or.inr (Or.inr (Or.inr (Or.inr (Or.inr (Or.inl ⟨rfl, h⟩))))))))))))))))))))))))))))))))))))))))))))
theorem lw_in45 {x1 x2 x3 : Int32} {M M9 : ml_M} (h : lw_s45 x1 x2 x3 M M9) : lw_step 45 x1 x2 x3 M M9 := Or.inr (Or.inr (Or.inr (Or.inr (Or.inr (Or.inr (Or.inr (Or.inr (Or.inr (Or.inr (Or.inr (Or.inr (Or.inr (Or.inr (Or.inr (Or.inr (Or.inr (Or.inr (Or.inr (Or.inr (Or.inr (Or.inr (Or.inr (Or.inr (Or.inr (Or.inr (Or.inr (Or.inr (Or.inr (Or.inr (Or.inr (Or.inr (Or.inr (Or.inr (Or.inr (Or.inr (Or.inr (Or.inr (Or.inr (Or.inr (Or.inr (Or.inr (Or.inr (Or.inr (Or.inr (Or.inl ⟨rfl, h⟩)))))))))))))))))))))))))))))))))))))))))))))
theorem lw_in46 {x1 x2 x3 : Int32} {M M9 : ml_M} (h : lw_s46 x1 x2 x3 M M9) : lw_step 46 x1 x2 x3 M M9 := Or.inr (Or.inr (Or.inr (Or.inr (Or.inr (Or.inr (Or.inr (Or.inr (Or.inr (Or.inr (Or.inr (Or.inr (Or.inr (Or.inr (Or.inr (Or.inr (Or.inr (Or.inr (Or.inr (Or.inr (Or.inr (Or.inr (Or.inr (Or.inr (Or.inr (Or.inr (Or.inr (Or.inr (Or.inr (Or.inr (Or.inr (Or.inr (Or.inr (Or.inr (Or.inr (Or.inr (Or.inr (Or.inr (Or.inr (Or.inr (Or.inr (Or.inr (Or.inr (Or.inr (Or.inr (Or.inr (Or.inl ⟨rfl, h⟩))))))))))))))))))))))))))))))))))))))))))))))
theorem lw_in47 {x1 x2 x3 : Int32} {M M9 : ml_M} (h : lw_s47 x1 x2 x3 M M9) : lw_step 47 x1 x2 x3 M M9 := Or.inr (Or.inr (Or.inr (Or.inr (Or.inr (Or.inr (Or.inr (Or.inr (Or.inr (Or.inr (Or.inr (Or.inr (Or.inr (Or.inr (Or.inr (Or.inr (Or.inr (Or.inr (Or.inr (Or.inr (Or.inr (Or.inr (Or.inr (Or.inr (Or.inr (Or.inr (Or.inr (Or.inr (Or.inr (Or.inr (Or.inr (Or.inr (Or.inr (Or.inr (Or.inr (Or.inr (Or.inr (Or.inr (Or.inr (Or.inr (Or.inr (Or.inr (Or.inr (Or.inr (Or.inr (Or.inr (Or.inr (Or.inl ⟨rfl, h⟩)))))))))))))))))))))))))))))))))))))))))))))))
theorem lw_in48 {x1 x2 x3 : Int32} {M M9 : ml_M} (h : lw_s48 x1 x2 x3 M M9) : lw_step 48 x1 x2 x3 M M9 := Or.inr (Or.inr (Or.inr (Or.inr (Or.inr (Or.inr (Or.inr (Or.inr (Or.inr (Or.inr (Or.inr (Or.inr (Or.inr (Or.inr (Or.inr (Or.inr (Or.inr (Or.inr (Or.inr (Or.inr (Or.inr (Or.inr (Or.inr (Or.inr (Or.inr (Or.inr (Or.inr (Or.inr (Or.inr (Or.inr (Or.inr (Or.inr (Or.inr (Or.inr (Or.inr (Or.inr (Or.inr (Or.inr (Or.inr (Or.inr (Or.inr (Or.inr (Or.inr (Or.inr (Or.inr (Or.inr (Or.inr (Or.inr (Or.inl ⟨rfl, h⟩))))))))))))))))))))))))))))))))))))))))))))))))
theorem lw_in49 {x1 x2 x3 : Int32} {M M9 : ml_M} (h : lw_s49 x1 x2 x3 M M9) : lw_step 49 x1 x2 x3 M M9 := Or.inr (Or.inr (Or.inr (Or.inr (Or.inr (Or.inr (Or.inr (Or.inr (Or.inr (Or.inr (Or.inr (Or.inr (Or.inr (Or.inr (Or.inr (Or.inr (Or.inr (Or.inr (Or.inr (Or.inr (Or.inr (Or.inr (Or.inr (Or.inr (Or.inr (Or.inr (Or.inr (Or.inr (Or.inr (Or.inr (Or.inr (Or.inr (Or.inr (Or.inr (Or.inr (Or.inr (Or.inr (Or.inr (Or.inr (Or.inr (Or.inr (Or.inr (Or.inr (Or.inr (Or.inr (Or.inr (Or.inr (Or.inr (Or.inr (Or.inl ⟨rfl, h⟩)))))))))))))))))))))))))))))))))))))))))))))))))
theorem lw_in50 {x1 x2 x3 : Int32} {M M9 : ml_M} (h : lw_s50 x1 x2 x3 M M9) : lw_step 50 x1 x2 x3 M M9 := Or.inr (Or.inr (Or.inr (Or.inr (Or.inr (Or.inr (Or.inr (Or.inr (Or.inr (Or.inr (Or.inr (Or.inr (Or.inr (Or.inr (Or.inr (Or.inr (Or.inr (Or.inr (Or.inr (Or.inr (Or.inr (Or.inr (Or.inr (Or.inr (Or.inr (Or.inr (Or.inr (Or.inr (Or.inr (Or.inr (Or.inr (Or.inr (Or.inr (Or.inr (Or.inr (Or.inr (Or.inr (Or.inr (Or.inr (Or.inr (Or.inr (Or.inr (Or.inr (Or.inr (Or.inr (Or.inr (Or.inr (Or.inr (Or.inr (Or.inr (Or.inl ⟨rfl, h⟩))))))))))))))))))))))))))))))))))))))))))))))))))
theorem lw_in51 {x1 x2 x3 : Int32} {M M9 : ml_M} (h : lw_s51 x1 x2 x3 M M9) : lw_step 51 x1 x2 x3 M M9 := Or.inr (Or.inr (Or.inr (Or.inr (Or.inr (Or.inr (Or.inr (Or.inr (Or.inr (Or.inr (Or.inr (Or.inr (Or.inr (Or.inr (Or.inr (Or.inr (Or.inr (Or.inr (Or.inr (Or.inr (Or.inr (Or.inr (Or.inr (Or.inr (Or.inr (Or.inr (Or.inr (Or.inr (Or.inr (Or.inr (Or.inr (Or.inr (Or.inr (Or.inr (Or.inr (Or.inr (Or.inr (Or.inr (Or.inr (Or.inr (Or.inr (Or.inr (Or.inr (Or.inr (Or.inr (Or.inr (Or.inr (Or.inr (Or.inr (Or.inr (Or.inr (Or.inl ⟨rfl, h⟩)))))))))))))))))))))))))))))))))))))))))))))))))))
theorem lw_in52 {x1 x2 x3 : Int32} {M M9 : ml_M} (h : lw_s52 x1 x2 x3 M M9) : lw_step 52 x1 x2 x3 M M9 := Or.inr (Or.inr (Or.inr (Or.inr (Or.inr (Or.inr (Or.inr (Or.inr (Or.inr (Or.inr (Or.inr (Or.inr (Or.inr (Or.inr (Or.inr (Or.inr (Or.inr (Or.inr (Or.inr (Or.inr (Or.inr (Or.inr (Or.inr (Or.inr (Or.inr (Or.inr (Or.inr (Or.inr (Or.inr (Or.inr (Or.inr (Or.inr (Or.inr (Or.inr (Or.inr (Or.inr (Or.inr (Or.inr (Or.inr (Or.inr (Or.inr (Or.inr (Or.inr (Or.inr (Or.inr (Or.inr (Or.inr (Or.inr (Or.inr (Or.inr (Or.inr (Or.inr (Or.inl ⟨rfl, h⟩))))))))))))))))))))))))))))))))))))))))))))))))))))
theorem lw_in53 {c : Nat} {x1 x2 x3 : Int32} {M : ml_M} (h : 53 ≤ c) : lw_step c x1 x2 x3 M M := Or.inr (Or.inr (Or.inr (Or.inr (Or.inr (Or.inr (Or.inr (Or.inr (Or.inr (Or.inr (Or.inr (Or.inr (Or.inr (Or.inr (Or.inr (Or.inr (Or.inr (Or.inr (Or.inr (Or.inr (Or.inr (Or.inr (Or.inr (Or.inr (Or.inr (Or.inr (Or.inr (Or.inr (Or.inr (Or.inr (Or.inr (Or.inr (Or.inr (Or.inr (Or.inr (Or.inr (Or.inr (Or.inr (Or.inr (Or.inr (Or.inr (Or.inr (Or.inr (Or.inr (Or.inr (Or.inr (Or.inr (Or.inr (Or.inr (Or.inr (Or.inr (Or.inr (Or.inr (⟨h, rfl⟩)))))))))))))))))))))))))))))))))))))))))))))))))))))
set_option maxHeartbeats 4000000 in
set_option maxRecDepth 100000 in
theorem lw_disp {E : ml_E} {g : ml_G} {lv mc ms k n b L i0 : Nat} {ret : Option FieldType} {tb : List ExceptionTableEntry} {xs : Nat → Int32} {i : Int32} {Q : State → Prop} {M M9 : ml_M} {c : Nat} (hst : g.2.2.2.2.2.stackTraces = false) (F : ml_F E g cL_law RL 10 lv mc ms ret tb) (S : ml_S E g b L xs) (hi : lw_ix i i0 L) (hlv : 20 ≤ lv) (hk : k + 2 ≤ mc) (hn2 : n + 12 ≤ ms) (hx : xs i0 &&& 63 = nI c) (hc : c < 64) (hs : lw_step c (xs (i0 + 1)) (xs (i0 + 2)) (xs (i0 + 3)) M M9) (K : ml_J E g 10 Q (k + 2) (n + 12) 2751 [(5, .int i), (4, ml_rf g 182), (3, ml_rf g 181), (2, ml_rf g 11), (1, ml_rf g 0), (0, .ref b)] [] M9) : ml_J E g 10 Q k n 37 [(5, .int i), (4, ml_rf g 182), (3, ml_rf g 181), (2, ml_rf g 11), (1, ml_rf g 0), (0, .ref b)] [] M := by
  refine ml_aload_n (q := 5) F dL_law_37 rfl rfl ?_
  refine ml_iload (q := 0) F dL_law_38 rfl ?_
  refine ml_scld (j := i0) (x := xs i0) F S hi.1.1 hi.1.2.1 hi.1.2.2 rfl dL_law_40 ?_
  refine ml_bipush (v := 63) F dL_law_41 (by decide) ?_
  refine ml_iand F dL_law_43 ?_
  rw [hx]
  unfold lw_step at hs
  rcases hs with ⟨rfl, k9, b9, M1, M2, hW, hM, hT, hE⟩ | hs
  · exact ml_tableIn (off := 228) (tgt := 272) F dL_law_44 (by decide) (by decide) (by decide) (by decide) (lwc_0 hst F S hi hlv hk hn2 hW hM hT hE K)
  rcases hs with ⟨rfl, k9, b9, M1, M2, hW, hM, hT, hE⟩ | hs
  · exact ml_tableIn (off := 326) (tgt := 370) F dL_law_44 (by decide) (by decide) (by decide) (by decide) (lwc_1 hst F S hi hlv hk hn2 hW hM hT hE K)
  rcases hs with ⟨rfl, k9, b9, M1, M2, hW, hM, hT, hE⟩ | hs
  · exact ml_tableIn (off := 394) (tgt := 438) F dL_law_44 (by decide) (by decide) (by decide) (by decide) (lwc_2 hst F S hi hlv hk hn2 hW hM hT hE K)
  rcases hs with ⟨rfl, k9, b9, M1, M2, hW, hM, hT, hE⟩ | hs
  · exact ml_tableIn (off := 450) (tgt := 494) F dL_law_44 (by decide) (by decide) (by decide) (by decide) (lwc_3 hst F S hi hlv hk hn2 hW hM hT hE K)
  rcases hs with ⟨rfl, k9, b9, M1, M2, hW, hM, hT, hE⟩ | hs
  · exact ml_tableIn (off := 506) (tgt := 550) F dL_law_44 (by decide) (by decide) (by decide) (by decide) (lwc_4 hst F S hi hlv hk hn2 hW hM hT hE K)
  rcases hs with ⟨rfl, k9, b9, M1, M2, hW, hM, hT, hE⟩ | hs
  · exact ml_tableIn (off := 562) (tgt := 606) F dL_law_44 (by decide) (by decide) (by decide) (by decide) (lwc_5 hst F S hi hlv hk hn2 hW hM hT hE K)
  rcases hs with ⟨rfl, k9, b9, M1, M2, hW, hM, hT, hE⟩ | hs
  · exact ml_tableIn (off := 618) (tgt := 662) F dL_law_44 (by decide) (by decide) (by decide) (by decide) (lwc_6 hst F S hi hlv hk hn2 hW hM hT hE K)
  rcases hs with ⟨rfl, k9, b9, M1, M2, hW, hM, hT, hE⟩ | hs
  · exact ml_tableIn (off := 674) (tgt := 718) F dL_law_44 (by decide) (by decide) (by decide) (by decide) (lwc_7 hst F S hi hlv hk hn2 hW hM hT hE K)
  rcases hs with ⟨rfl, k9, b9, M1, M2, hW, hM, hT, hE⟩ | hs
  · exact ml_tableIn (off := 730) (tgt := 774) F dL_law_44 (by decide) (by decide) (by decide) (by decide) (lwc_8 hst F S hi hlv hk hn2 hW hM hT hE K)
  rcases hs with ⟨rfl, k9, b9, M1, M2, hW, hM, hT, hE⟩ | hs
  · exact ml_tableIn (off := 786) (tgt := 830) F dL_law_44 (by decide) (by decide) (by decide) (by decide) (lwc_9 hst F S hi hlv hk hn2 hW hM hT hE K)
  rcases hs with ⟨rfl, k9, b9, M1, M2, hW, hM, hT, hE⟩ | hs
  · exact ml_tableIn (off := 842) (tgt := 886) F dL_law_44 (by decide) (by decide) (by decide) (by decide) (lwc_10 hst F S hi hlv hk hn2 hW hM hT hE K)
  rcases hs with ⟨rfl, k9, b9, M1, M2, hW, hM, hT, hE⟩ | hs
  · exact ml_tableIn (off := 919) (tgt := 963) F dL_law_44 (by decide) (by decide) (by decide) (by decide) (lwc_11 hst F S hi hlv hk hn2 hW hM hT hE K)
  rcases hs with ⟨rfl, k9, b9, M1, M2, hW, hM, hT, hE⟩ | hs
  · exact ml_tableIn (off := 994) (tgt := 1038) F dL_law_44 (by decide) (by decide) (by decide) (by decide) (lwc_12 hst F S hi hlv hk hn2 hW hM hT hE K)
  rcases hs with ⟨rfl, k9, b9, M1, M2, hW, hM, hT, hE⟩ | hs
  · exact ml_tableIn (off := 1050) (tgt := 1094) F dL_law_44 (by decide) (by decide) (by decide) (by decide) (lwc_13 hst F S hi hlv hk hn2 hW hM hT hE K)
  rcases hs with ⟨rfl, k9, b9, M1, M2, hW, hM, hT, hE⟩ | hs
  · exact ml_tableIn (off := 1106) (tgt := 1150) F dL_law_44 (by decide) (by decide) (by decide) (by decide) (lwc_14 hst F S hi hlv hk hn2 hW hM hT hE K)
  rcases hs with ⟨rfl, k9, b9, M1, M2, hW, hM, hT, hE⟩ | hs
  · exact ml_tableIn (off := 1162) (tgt := 1206) F dL_law_44 (by decide) (by decide) (by decide) (by decide) (lwc_15 hst F S hi hlv hk hn2 hW hM hT hE K)
  rcases hs with ⟨rfl, k9, b9, M1, M2, hW, hM, hT, hE⟩ | hs
  · exact ml_tableIn (off := 1225) (tgt := 1269) F dL_law_44 (by decide) (by decide) (by decide) (by decide) (lwc_16 hst F S hi hlv hk hn2 hW hM hT hE K)
  rcases hs with ⟨rfl, r9, M1, hX, hM⟩ | hs
  · exact ml_tableIn (off := 1281) (tgt := 1325) F dL_law_44 (by decide) (by decide) (by decide) (by decide) (lwc_17 hst F S hi hlv hk hn2 hX hM K)
  rcases hs with ⟨rfl, r9, M1, hX, hM⟩ | hs
  · exact ml_tableIn (off := 1294) (tgt := 1338) F dL_law_44 (by decide) (by decide) (by decide) (by decide) (lwc_18 hst F S hi hlv hk hn2 hX hM K)
  rcases hs with ⟨rfl, r9, M1, hX, hM⟩ | hs
  · exact ml_tableIn (off := 1307) (tgt := 1351) F dL_law_44 (by decide) (by decide) (by decide) (by decide) (lwc_19 hst F S hi hlv hk hn2 hX hM K)
  rcases hs with ⟨rfl, r9, M1, hX, hM⟩ | hs
  · exact ml_tableIn (off := 1320) (tgt := 1364) F dL_law_44 (by decide) (by decide) (by decide) (by decide) (lwc_20 hst F S hi hlv hk hn2 hX hM K)
  rcases hs with ⟨rfl, r9, M1, hX, hM⟩ | hs
  · exact ml_tableIn (off := 1333) (tgt := 1377) F dL_law_44 (by decide) (by decide) (by decide) (by decide) (lwc_21 hst F S hi hlv hk hn2 hX hM K)
  rcases hs with ⟨rfl, r9, M1, hX, hM⟩ | hs
  · exact ml_tableIn (off := 1346) (tgt := 1390) F dL_law_44 (by decide) (by decide) (by decide) (by decide) (lwc_22 hst F S hi hlv hk hn2 hX hM K)
  rcases hs with ⟨rfl, r9, M1, hX, hM⟩ | hs
  · exact ml_tableIn (off := 1359) (tgt := 1403) F dL_law_44 (by decide) (by decide) (by decide) (by decide) (lwc_23 hst F S hi hlv hk hn2 hX hM K)
  rcases hs with ⟨rfl, k9, b9, M1, M2, hW, hM, hT, hE⟩ | hs
  · exact ml_tableIn (off := 1372) (tgt := 1416) F dL_law_44 (by decide) (by decide) (by decide) (by decide) (lwc_24 hst F S hi hlv hk hn2 hW hM hT hE K)
  rcases hs with ⟨rfl, r9, M1, hX, hM⟩ | hs
  · exact ml_tableIn (off := 1428) (tgt := 1472) F dL_law_44 (by decide) (by decide) (by decide) (by decide) (lwc_25 hst F S hi hlv hk hn2 hX hM K)
  rcases hs with ⟨rfl, k9, b9, M1, M2, hW, hM, hT, hE⟩ | hs
  · exact ml_tableIn (off := 1441) (tgt := 1485) F dL_law_44 (by decide) (by decide) (by decide) (by decide) (lwc_26 hst F S hi hlv hk hn2 hW hM hT hE K)
  rcases hs with ⟨rfl, k9, b9, M1, M2, hW, hM, hT, hE⟩ | hs
  · exact ml_tableIn (off := 1497) (tgt := 1541) F dL_law_44 (by decide) (by decide) (by decide) (by decide) (lwc_27 hst F S hi hlv hk hn2 hW hM hT hE K)
  rcases hs with ⟨rfl, k9, b9, M1, M2, hW, hM, hT, hE⟩ | hs
  · exact ml_tableIn (off := 1553) (tgt := 1597) F dL_law_44 (by decide) (by decide) (by decide) (by decide) (lwc_28 hst F S hi hlv hk hn2 hW hM hT hE K)
  rcases hs with ⟨rfl, k9, b9, M1, M2, hW, hM, hT, hE⟩ | hs
  · exact ml_tableIn (off := 1616) (tgt := 1660) F dL_law_44 (by decide) (by decide) (by decide) (by decide) (lwc_29 hst F S hi hlv hk hn2 hW hM hT hE K)
  rcases hs with ⟨rfl, k9, b9, M1, M2, hW, hM, hT, hE⟩ | hs
  · exact ml_tableIn (off := 1672) (tgt := 1716) F dL_law_44 (by decide) (by decide) (by decide) (by decide) (lwc_30 hst F S hi hlv hk hn2 hW hM hT hE K)
  rcases hs with ⟨rfl, k9, b9, M1, M2, hW, hM, hT, hE⟩ | hs
  · exact ml_tableIn (off := 1728) (tgt := 1772) F dL_law_44 (by decide) (by decide) (by decide) (by decide) (lwc_31 hst F S hi hlv hk hn2 hW hM hT hE K)
  rcases hs with ⟨rfl, k9, b9, M1, M2, hW, hM, hT, hE⟩ | hs
  · exact ml_tableIn (off := 1784) (tgt := 1828) F dL_law_44 (by decide) (by decide) (by decide) (by decide) (lwc_32 hst F S hi hlv hk hn2 hW hM hT hE K)
  rcases hs with ⟨rfl, k9, b9, M1, M2, hW, hM, hT, hE⟩ | hs
  · exact ml_tableIn (off := 1859) (tgt := 1903) F dL_law_44 (by decide) (by decide) (by decide) (by decide) (lwc_33 hst F S hi hlv hk hn2 hW hM hT hE K)
  rcases hs with ⟨rfl, k9, b9, M1, M2, hW, hM, hT, hE⟩ | hs
  · exact ml_tableIn (off := 1917) (tgt := 1961) F dL_law_44 (by decide) (by decide) (by decide) (by decide) (lwc_34 hst F S hi hlv hk hn2 hW hM hT hE K)
  rcases hs with ⟨rfl, k9, b9, M1, M2, hW, hM, hT, hE⟩ | hs
  · exact ml_tableIn (off := 1973) (tgt := 2017) F dL_law_44 (by decide) (by decide) (by decide) (by decide) (lwc_35 hst F S hi hlv hk hn2 hW hM hT hE K)
  rcases hs with ⟨rfl, k9, b9, M1, M2, hW, hM, hT, hE⟩ | hs
  · exact ml_tableIn (off := 2029) (tgt := 2073) F dL_law_44 (by decide) (by decide) (by decide) (by decide) (lwc_36 hst F S hi hlv hk hn2 hW hM hT hE K)
  rcases hs with ⟨rfl, r9, M1, hX, hM⟩ | hs
  · exact ml_tableIn (off := 2097) (tgt := 2141) F dL_law_44 (by decide) (by decide) (by decide) (by decide) (lwc_37 hst F S hi hlv hk hn2 hX hM K)
  rcases hs with ⟨rfl, k9, b9, M1, M2, hW, hM, hT, hE⟩ | hs
  · exact ml_tableIn (off := 2110) (tgt := 2154) F dL_law_44 (by decide) (by decide) (by decide) (by decide) (lwc_38 hst F S hi hlv hk hn2 hW hM hT hE K)
  rcases hs with ⟨rfl, k9, b9, M1, M2, hW, hM, hT, hE⟩ | hs
  · exact ml_tableIn (off := 2166) (tgt := 2210) F dL_law_44 (by decide) (by decide) (by decide) (by decide) (lwc_39 hst F S hi hlv hk hn2 hW hM hT hE K)
  rcases hs with ⟨rfl, r9, M1, hX, hM⟩ | hs
  · exact ml_tableIn (off := 2222) (tgt := 2266) F dL_law_44 (by decide) (by decide) (by decide) (by decide) (lwc_40 hst F S hi hlv hk hn2 hX hM K)
  rcases hs with ⟨rfl, r9, r8, M1, hX, hM, hE, hN⟩ | hs
  · exact ml_tableIn (off := 2235) (tgt := 2279) F dL_law_44 (by decide) (by decide) (by decide) (by decide) (lwc_41 hst F S hi hlv hk hn2 hX hM hE hN K)
  rcases hs with ⟨rfl, r9, M1, hX, hM⟩ | hs
  · exact ml_tableIn (off := 2278) (tgt := 2322) F dL_law_44 (by decide) (by decide) (by decide) (by decide) (lwc_42 hst F S hi hlv hk hn2 hX hM K)
  rcases hs with ⟨rfl, r9, M1, hX, hM⟩ | hs
  · exact ml_tableIn (off := 2291) (tgt := 2335) F dL_law_44 (by decide) (by decide) (by decide) (by decide) (lwc_43 hst F S hi hlv hk hn2 hX hM K)
  rcases hs with ⟨rfl, k9, b9, M1, M2, hW, hM, hT, hE⟩ | hs
  · exact ml_tableIn (off := 2304) (tgt := 2348) F dL_law_44 (by decide) (by decide) (by decide) (by decide) (lwc_44 hst F S hi hlv hk hn2 hW hM hT hE K)
  rcases hs with ⟨rfl, k9, b9, M1, M2, hW, hM, hT, hE⟩ | hs
  · exact ml_tableIn (off := 2360) (tgt := 2404) F dL_law_44 (by decide) (by decide) (by decide) (by decide) (lwc_45 hst F S hi hlv hk hn2 hW hM hT hE K)
  rcases hs with ⟨rfl, k9, b9, M1, M2, hW, hM, hT, hE⟩ | hs
  · exact ml_tableIn (off := 2416) (tgt := 2460) F dL_law_44 (by decide) (by decide) (by decide) (by decide) (lwc_46 hst F S hi hlv hk hn2 hW hM hT hE K)
  rcases hs with ⟨rfl, k9, b9, M1, M2, hW, hM, hT, hE⟩ | hs
  · exact ml_tableIn (off := 2474) (tgt := 2518) F dL_law_44 (by decide) (by decide) (by decide) (by decide) (lwc_47 hst F S hi hlv hk hn2 hW hM hT hE K)
  rcases hs with ⟨rfl, k9, b9, M1, M2, hW, hM, hT, hE⟩ | hs
  · exact ml_tableIn (off := 2518) (tgt := 2562) F dL_law_44 (by decide) (by decide) (by decide) (by decide) (lwc_48 hst F S hi hlv hk hn2 hW hM hT hE K)
  rcases hs with ⟨rfl, k9, b9, M1, M2, hW, hM, hT, hE⟩ | hs
  · exact ml_tableIn (off := 2562) (tgt := 2606) F dL_law_44 (by decide) (by decide) (by decide) (by decide) (lwc_49 hst F S hi hlv hk hn2 hW hM hT hE K)
  rcases hs with ⟨rfl, k9, b9, M1, M2, hW, hM, hT, hE⟩ | hs
  · exact ml_tableIn (off := 2606) (tgt := 2650) F dL_law_44 (by decide) (by decide) (by decide) (by decide) (lwc_50 hst F S hi hlv hk hn2 hW hM hT hE K)
  rcases hs with ⟨rfl, r9, M1, hX, hM⟩ | hs
  · exact ml_tableIn (off := 2650) (tgt := 2694) F dL_law_44 (by decide) (by decide) (by decide) (by decide) (lwc_51 hst F S hi hlv hk hn2 hX hM K)
  rcases hs with ⟨rfl, k9, b9, M1, M2, hW, hM, hT, hE⟩ | hs
  · exact ml_tableIn (off := 2663) (tgt := 2707) F dL_law_44 (by decide) (by decide) (by decide) (by decide) (lwc_52 hst F S hi hlv hk hn2 hW hM hT hE K)
  obtain ⟨hc9, rfl⟩ := hs
  refine ml_tableOut (tgt := 2751) F dL_law_44 (Or.inr (by rw [nI_toInt (by omega)]; omega)) (by decide) ?_
  exact ml_wid (by omega) (by omega) K
theorem lw_cmp {i0 L : Nat} (hi : i0 < 4000) (hL : L ≤ 2048) : nI L - 4 < nI i0 ↔ L < i0 + 4 := by
  rcases Nat.lt_or_ge L 4 with h | h
  · rcases (show L = 0 ∨ L = 1 ∨ L = 2 ∨ L = 3 by omega) with rfl | rfl | rfl | rfl
    · exact ⟨fun _ => by omega, fun _ => by rw [Int32.lt_iff_toInt_lt, nI_toInt (by omega)]; have : (nI 0 - 4).toInt = -4 := by decide
                                            omega⟩
    · exact ⟨fun _ => by omega, fun _ => by rw [Int32.lt_iff_toInt_lt, nI_toInt (by omega)]; have : (nI 1 - 4).toInt = -3 := by decide
                                            omega⟩
    · exact ⟨fun _ => by omega, fun _ => by rw [Int32.lt_iff_toInt_lt, nI_toInt (by omega)]; have : (nI 2 - 4).toInt = -2 := by decide
                                            omega⟩
    · exact ⟨fun _ => by omega, fun _ => by rw [Int32.lt_iff_toInt_lt, nI_toInt (by omega)]; have : (nI 3 - 4).toInt = -1 := by decide
                                            omega⟩
  · obtain ⟨z, rfl⟩ : ∃ z, L = z + 4 := ⟨L - 4, by omega⟩
    have e : nI (z + 4) - 4 = nI z := by
      rw [← nI_add]
      exact Int32.add_sub_cancel _ _
    rw [e, nI_ltI (by omega) (by omega)]
    omega
theorem lw_ix_of {i0 L : Nat} (h : i0 + 4 ≤ L) (hL : L ≤ 2048) : lw_ix (nI i0) i0 L := by
  have e1 : nI i0 + 1 = nI (i0 + 1) := nI_add i0 1
  have e2 : nI i0 + 2 = nI (i0 + 2) := nI_add i0 2
  have e3 : nI i0 + 3 = nI (i0 + 3) := nI_add i0 3
  unfold lw_ix
  rw [e1, e2, e3]
  exact ⟨⟨nI_pos (by omega), nI_clamp (by omega), by omega⟩, ⟨nI_pos (by omega), nI_clamp (by omega), by omega⟩, ⟨nI_pos (by omega), nI_clamp (by omega), by omega⟩, ⟨nI_pos (by omega), nI_clamp (by omega), by omega⟩⟩
theorem lw_and63 (x : Int32) : ∃ c : Nat, c < 64 ∧ x &&& 63 = nI c := by
  refine ⟨(x &&& 63).toNatClampNeg, ?_, ?_⟩
  all_goals
    have h0 : (x &&& 63).toBitVec = x.toBitVec &&& 63#32 := rfl
    have h2 : (x &&& 63).toBitVec.toNat < 64 := by
      rw [h0, BitVec.toNat_and]
      exact Nat.and_lt_two_pow (n := 6) _ (by decide)
    have h3 : (x &&& 63).toInt = ((x &&& 63).toBitVec.toNat : Int) := by
      show (x &&& 63).toBitVec.toInt = _
      rw [BitVec.toInt_eq_toNat_cond]
      split
      · rfl
      · omega
  · show (x &&& 63).toInt.toNat < 64
    omega
  · apply Int32.toInt_inj.mp
    rw [nI_toInt (by show (x &&& 63).toInt.toNat < _; omega)]
    show _ = (((x &&& 63).toInt.toNat : Nat) : Int)
    omega
set_option maxHeartbeats 4000000 in
set_option maxRecDepth 100000 in
/-- the loop: Inv goes on at each step -/
theorem lw_loop {Inv : Nat → ml_M → Prop} (step : ∀ (m c : Nat) (x1 x2 x3 : Int32) (M : ml_M), m ≤ 600 → c < 64 → Inv m M → ∃ M9, lw_step c x1 x2 x3 M M9 ∧ Inv (m + 1) M9) {E : ml_E} {g : ml_G} {lv mc ms b L : Nat} {ret : Option FieldType} {tb : List ExceptionTableEntry} {xs : Nat → Int32} {Q : State → Prop} (hst : g.2.2.2.2.2.stackTraces = false) (F : ml_F E g cL_law RL 10 lv mc ms ret tb) (S : ml_S E g b L xs) (hL : L ≤ 2048) (hlv : 20 ≤ lv) (fin : ∀ (k n : Nat) (M : ml_M) (ls : List (Nat × Value)), k ≤ mc → n ≤ ms → ml_J E g 10 Q k n 2758 ls [.int 1] M) :
    ∀ (r i0 m k n : Nat) (M : ml_M), L < i0 + 4 * r + 4 → i0 ≤ L → k + 2 * r ≤ mc → n + 12 * r ≤ ms → i0 = 4 * m → Inv m M → ml_J E g 10 Q k n 28 [(5, .int (nI i0)), (4, ml_rf g 182), (3, ml_rf g 181), (2, ml_rf g 11), (1, ml_rf g 0), (0, .ref b)] [] M := by
  intro r
  induction r with
  | zero =>
    intro i0 m k n M h1 h2 hk hn2 hm hI
    refine ml_iload (q := 0) F dL_law_28 rfl ?_
    refine ml_aload_n (q := 5) F dL_law_30 rfl rfl ?_
    refine ml_slen F S dL_law_31 ?_
    refine ml_iconst (v := 4) F dL_law_32 (by decide) ?_
    refine ml_isub F dL_law_33 ?_
    refine ml_icmp_gtT (tgt := 2757) F dL_law_34 (by decide) ((lw_cmp (by omega) hL).mpr (by omega)) ?_
    refine ml_iconst (v := 1) F dL_law_2757 (by decide) ?_
    exact fin _ _ _ _ (by omega) (by omega)
  | succ r ih =>
    intro i0 m k n M h1 h2 hk hn2 hm hI
    refine ml_iload (q := 0) F dL_law_28 rfl ?_
    refine ml_aload_n (q := 5) F dL_law_30 rfl rfl ?_
    refine ml_slen F S dL_law_31 ?_
    refine ml_iconst (v := 4) F dL_law_32 (by decide) ?_
    refine ml_isub F dL_law_33 ?_
    by_cases hq : L < i0 + 4
    · refine ml_icmp_gtT (tgt := 2757) F dL_law_34 (by decide) ((lw_cmp (by omega) hL).mpr hq) ?_
      refine ml_iconst (v := 1) F dL_law_2757 (by decide) ?_
      exact fin _ _ _ _ (by omega) (by omega)
    · refine ml_icmp_gtF (tgt := 2757) F dL_law_34 (by decide) (fun h9 => hq ((lw_cmp (by omega) hL).mp h9)) ?_
      obtain ⟨c, hc, hx⟩ := lw_and63 (xs i0)
      obtain ⟨M9, hs, hI9⟩ := step m c (xs (i0 + 1)) (xs (i0 + 2)) (xs (i0 + 3)) M (by omega) hc hI
      refine lw_disp hst F S (lw_ix_of (by omega) hL) hlv (by omega) (by omega) hx hc hs ?_
      refine ml_iinc (q := 0) (v := nI (i0 + 4)) (ls2 := [(5, .int (nI (i0 + 4))), (4, ml_rf g 182), (3, ml_rf g 181), (2, ml_rf g 11), (1, ml_rf g 0), (0, .ref b)]) F dL_law_2751 rfl (nI_add i0 4) (by decide) rfl ?_
      refine ml_goto (tgt := 28) F dL_law_2754 (by decide) ?_
      exact ih (i0 + 4) (m + 1) (k + 2) (n + 12) M9 (by omega) (by omega) (by omega) (by omega) (by omega) hI9
