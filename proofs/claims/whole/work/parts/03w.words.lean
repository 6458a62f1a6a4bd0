/-! the words that are used, by their places -/
theorem zW_all {ws : List Cond} (ps : List Nat) (hp : ws = ps.filterMap (fun i => lw_tbl[i]?)) (h : ws.all goodWord = true) : ∀ w ∈ ws, w ∈ zW := by
  intro w hw
  refine List.mem_filter.mpr ⟨?_, List.all_eq_true.mp h w hw⟩
  rw [hp] at hw
  obtain ⟨i, -, hi⟩ := List.mem_filterMap.mp hw
  exact List.mem_of_getElem? hi
theorem inX0 : ∀ w ∈ u_ws RX0 TX0 10, w ∈ zW := zW_all [401, 403, 405, 407, 409, 411, 413, 415, 417, 419] (by decide +kernel) (by decide +kernel)
theorem inX1 : ∀ w ∈ u_ws RX1 TX1 5, w ∈ zW := zW_all [219, 221, 223, 225, 227] (by decide +kernel) (by decide +kernel)
theorem inX2 : ∀ w ∈ u_ws RX2 TX2 3, w ∈ zW := zW_all [498, 500, 502] (by decide +kernel) (by decide +kernel)
theorem inX3 : ∀ w ∈ u_ws RX3 TX3 4, w ∈ zW := zW_all [363, 365, 367, 369] (by decide +kernel) (by decide +kernel)
theorem inX4 : ∀ w ∈ u_ws RX4 TX4 3, w ∈ zW := zW_all [342, 344, 346] (by decide +kernel) (by decide +kernel)
theorem inX5 : ∀ w ∈ u_ws RX5 TX5 16, w ∈ zW := zW_all [284, 286, 288, 290, 292, 294, 296, 298, 300, 302, 304, 306, 308, 310, 312, 314] (by decide +kernel) (by decide +kernel)
theorem inX6 : ∀ w ∈ u_ws RX6 TX6 2, w ∈ zW := zW_all [167, 169] (by decide +kernel) (by decide +kernel)
theorem inX7 : ∀ w ∈ u_ws RX7 TX7 5, w ∈ zW := zW_all [147, 149, 151, 153, 155] (by decide +kernel) (by decide +kernel)
theorem inX8 : ∀ w ∈ u_ws RX8 TX8 2, w ∈ zW := zW_all [183, 185] (by decide +kernel) (by decide +kernel)
theorem inX9 : ∀ w ∈ u_ws RX9 TX9 13, w ∈ zW := zW_all [458, 460, 462, 464, 466, 468, 470, 472, 474, 476, 478, 480, 482] (by decide +kernel) (by decide +kernel)
theorem inX10 : ∀ w ∈ u_ws RX10 TX10 9, w ∈ zW := zW_all [631, 633, 635, 637, 639, 641, 643, 645, 647] (by decide +kernel) (by decide +kernel)
theorem inX11 : ∀ w ∈ u_ws RX11 TX11 22, w ∈ zW := zW_all [1250, 1252, 1254, 1256, 1258, 1260, 1262, 1264, 1266, 1268, 1270, 1272, 1274, 1276, 1278, 1280, 1282, 1284, 1286, 1288, 1290, 1292] (by decide +kernel) (by decide +kernel)
set_option maxRecDepth 20000 in
theorem wd_0 : Cond.selects RX8 yX8_separate yX8_separate ∈ zW := zW_in (i := 0) rfl rfl
set_option maxRecDepth 20000 in
theorem wd_1 : Cond.selects RX8 yX8_addSign yX8_addSign ∈ zW := zW_in (i := 1) rfl rfl
set_option maxRecDepth 20000 in
theorem wd_2 : Cond.selects RX5 yX5_describeDevice yX5_describeDevice ∈ zW := zW_in (i := 2) rfl rfl
set_option maxRecDepth 20000 in
theorem wd_3 : Cond.selects RX5 yX5_describeFlight yX5_describeFlight ∈ zW := zW_in (i := 3) rfl rfl
set_option maxRecDepth 20000 in
theorem wd_4 : Cond.selects RX6 yX6_readDevices yX6_readDevices ∈ zW := zW_in (i := 4) rfl rfl
set_option maxRecDepth 20000 in
theorem wd_5 : Cond.selects RX6 yX6_sortOfToken yX6_sortOfToken ∈ zW := zW_in (i := 5) rfl rfl
set_option maxRecDepth 20000 in
theorem wd_6 : Cond.selects RX6 yX6_readDevice yX6_readDevice ∈ zW := zW_in (i := 6) rfl rfl
set_option maxRecDepth 20000 in
theorem wd_7 : Cond.selects RX6 yX6_readFreePosition yX6_readFreePosition ∈ zW := zW_in (i := 7) rfl rfl
set_option maxRecDepth 20000 in
theorem wd_8 : Cond.selects RX6 yX6_readDiverter yX6_readDiverter ∈ zW := zW_in (i := 8) rfl rfl
set_option maxRecDepth 20000 in
theorem wd_9 : Cond.selects RX6 yX6_readLevelTimes yX6_readLevelTimes ∈ zW := zW_in (i := 9) rfl rfl
set_option maxRecDepth 20000 in
theorem wd_10 : Cond.selects RX6 yX6_readWorkingTime yX6_readWorkingTime ∈ zW := zW_in (i := 10) rfl rfl
set_option maxRecDepth 20000 in
theorem wd_11 : Cond.selects RX6 yX6_readExit yX6_readExit ∈ zW := zW_in (i := 11) rfl rfl
set_option maxRecDepth 20000 in
theorem wd_12 : Cond.selects RX6 yX6_readFlights yX6_readFlights ∈ zW := zW_in (i := 12) rfl rfl
set_option maxRecDepth 20000 in
theorem wd_13 : Cond.selects RX6 yX6_readFlight yX6_readFlight ∈ zW := zW_in (i := 13) rfl rfl
set_option maxRecDepth 20000 in
theorem wd_14 : Cond.selects RX6 yX6_readWindow yX6_readWindow ∈ zW := zW_in (i := 14) rfl rfl
set_option maxRecDepth 20000 in
theorem wd_15 : Cond.selects RX6 yX6_readPassLimit yX6_readPassLimit ∈ zW := zW_in (i := 15) rfl rfl
set_option maxRecDepth 20000 in
theorem wd_16 : Cond.selects RX9 yX9_workStation yX9_workStation ∈ zW := zW_in (i := 16) rfl rfl
set_option maxRecDepth 20000 in
theorem wd_17 : Cond.selects RX9 yX9_sendToExit yX9_sendToExit ∈ zW := zW_in (i := 17) rfl rfl
set_option maxRecDepth 20000 in
theorem wd_18 : Cond.selects RX9 yX9_workScreen yX9_workScreen ∈ zW := zW_in (i := 18) rfl rfl
set_option maxRecDepth 20000 in
theorem wd_19 : Cond.selects RX9 yX9_workStore yX9_workStore ∈ zW := zW_in (i := 19) rfl rfl
set_option maxRecDepth 20000 in
theorem wd_20 : Cond.selects RX9 yX9_scan yX9_scan ∈ zW := zW_in (i := 20) rfl rfl
set_option maxRecDepth 20000 in
theorem wd_21 : Cond.selects RX9 yX9_findRecordFor yX9_findRecordFor ∈ zW := zW_in (i := 21) rfl rfl
set_option maxRecDepth 20000 in
theorem wd_22 : Cond.selects RX9 yX9_loneNear yX9_loneNear ∈ zW := zW_in (i := 22) rfl rfl
set_option maxRecDepth 20000 in
theorem wd_23 : Cond.selects RX9 yX9_isLone yX9_isLone ∈ zW := zW_in (i := 23) rfl rfl
set_option maxRecDepth 20000 in
theorem wd_24 : Cond.selects RX9 yX9_readLabels yX9_readLabels ∈ zW := zW_in (i := 24) rfl rfl
set_option maxRecDepth 20000 in
theorem wd_25 : Cond.selects RX9 yX9_codeSeen yX9_codeSeen ∈ zW := zW_in (i := 25) rfl rfl
set_option maxRecDepth 20000 in
theorem wd_26 : Cond.selects RX9 yX9_findBagFor yX9_findBagFor ∈ zW := zW_in (i := 26) rfl rfl
set_option maxRecDepth 20000 in
theorem wd_27 : Cond.selects RX9 yX9_divert yX9_divert ∈ zW := zW_in (i := 27) rfl rfl
set_option maxRecDepth 20000 in
theorem wd_28 : Cond.selects RX9 yX9_deliver yX9_deliver ∈ zW := zW_in (i := 28) rfl rfl
set_option maxRecDepth 20000 in
theorem wd_29 : Cond.selects RX9 yX9_enter yX9_enter ∈ zW := zW_in (i := 29) rfl rfl
set_option maxRecDepth 20000 in
theorem wd_30 : Cond.selects RX10 yX10_sizeAt yX10_sizeAt ∈ zW := zW_in (i := 30) rfl rfl
set_option maxRecDepth 20000 in
theorem wd_31 : Cond.selects RX10 yX10_addTrialBag yX10_addTrialBag ∈ zW := zW_in (i := 31) rfl rfl
set_option maxRecDepth 20000 in
theorem wd_32 : Cond.selects RX10 yX10_arrivesInTime yX10_arrivesInTime ∈ zW := zW_in (i := 32) rfl rfl
set_option maxRecDepth 20000 in
theorem wd_33 : Cond.selects RX11 yX11_begins yX11_begins ∈ zW := zW_in (i := 33) rfl rfl
set_option maxRecDepth 20000 in
theorem wd_34 : Cond.selects RX11 yX11_puts yX11_puts ∈ zW := zW_in (i := 34) rfl rfl
set_option maxRecDepth 20000 in
theorem wd_35 : Cond.selects RX11 yX11_reads yX11_reads ∈ zW := zW_in (i := 35) rfl rfl
set_option maxRecDepth 20000 in
theorem wd_36 : Cond.selects RX11 yX11_next yX11_next ∈ zW := zW_in (i := 36) rfl rfl
set_option maxRecDepth 20000 in
theorem wd_37 : Cond.selects RX11 yX11_isAt yX11_isAt ∈ zW := zW_in (i := 37) rfl rfl
set_option maxRecDepth 20000 in
theorem wd_38 : Cond.selects RX11 yX11_numberBehind yX11_numberBehind ∈ zW := zW_in (i := 38) rfl rfl
set_option maxRecDepth 20000 in
theorem wd_39 : Cond.selects RX11 yX11_isWord yX11_isWord ∈ zW := zW_in (i := 39) rfl rfl
set_option maxRecDepth 20000 in
theorem wd_40 : Cond.selects RX11 yX11_takes yX11_takes ∈ zW := zW_in (i := 40) rfl rfl
set_option maxRecDepth 20000 in
theorem wd_41 : Cond.selects RX11 yX11_number yX11_number ∈ zW := zW_in (i := 41) rfl rfl
set_option maxRecDepth 20000 in
theorem wd_42 : Cond.selects RX11 yX11_sortHere yX11_sortHere ∈ zW := zW_in (i := 42) rfl rfl
set_option maxRecDepth 20000 in
theorem wd_43 : Cond.selects RX11 yX11_readDevice yX11_readDevice ∈ zW := zW_in (i := 43) rfl rfl
set_option maxRecDepth 20000 in
theorem wd_44 : Cond.selects RX11 yX11_freePosition yX11_freePosition ∈ zW := zW_in (i := 44) rfl rfl
set_option maxRecDepth 20000 in
theorem wd_45 : Cond.selects RX11 yX11_uses yX11_uses ∈ zW := zW_in (i := 45) rfl rfl
set_option maxRecDepth 20000 in
theorem wd_46 : Cond.selects RX11 yX11_readFlight yX11_readFlight ∈ zW := zW_in (i := 46) rfl rfl
set_option maxRecDepth 20000 in
theorem wd_47 : Cond.selects RX11 yX11_isNewFlight yX11_isNewFlight ∈ zW := zW_in (i := 47) rfl rfl
set_option maxRecDepth 20000 in
theorem wd_48 : Cond.selects RX11 yX11_isDevice yX11_isDevice ∈ zW := zW_in (i := 48) rfl rfl
set_option maxRecDepth 20000 in
theorem wd_49 : Cond.selects RX11 yX11_many yX11_many ∈ zW := zW_in (i := 49) rfl rfl
set_option maxRecDepth 20000 in
theorem wd_50 : Cond.selects RX11 yX11_keeps yX11_keeps ∈ zW := zW_in (i := 50) rfl rfl
set_option maxRecDepth 20000 in
theorem wd_51 : Cond.selects RX11 yX11_arrives yX11_arrives ∈ zW := zW_in (i := 51) rfl rfl
set_option maxRecDepth 20000 in
theorem wd_52 : Cond.selects RX11 yX11_goes yX11_goes ∈ zW := zW_in (i := 52) rfl rfl
set_option maxRecDepth 20000 in
theorem wd_53 : Cond.selects RX11 yX11_ticks yX11_ticks ∈ zW := zW_in (i := 53) rfl rfl
set_option maxRecDepth 20000 in
theorem wd_54 : Cond.selects RX11 yX11_moves yX11_moves ∈ zW := zW_in (i := 54) rfl rfl
set_option maxRecDepth 20000 in
theorem wd_55 : Cond.selects RX11 yX11_turns yX11_turns ∈ zW := zW_in (i := 55) rfl rfl
set_option maxRecDepth 20000 in
theorem wd_56 : Cond.selects RX11 yX11_stationWorks yX11_stationWorks ∈ zW := zW_in (i := 56) rfl rfl
set_option maxRecDepth 20000 in
theorem wd_57 : Cond.selects RX11 yX11_firstIn yX11_firstIn ∈ zW := zW_in (i := 57) rfl rfl
set_option maxRecDepth 20000 in
theorem wd_58 : Cond.selects RX11 yX11_ofBag yX11_ofBag ∈ zW := zW_in (i := 58) rfl rfl
set_option maxRecDepth 20000 in
theorem wd_59 : Cond.selects RX11 yX11_ofDevice yX11_ofDevice ∈ zW := zW_in (i := 59) rfl rfl
set_option maxRecDepth 20000 in
theorem wd_60 : Cond.selects RX11 yX11_properOf yX11_properOf ∈ zW := zW_in (i := 60) rfl rfl
set_option maxRecDepth 20000 in
theorem wd_61 : Cond.selects RX11 yX11_isGood yX11_isGood ∈ zW := zW_in (i := 61) rfl rfl
set_option maxRecDepth 20000 in
theorem wd_62 : Cond.selects RX11 yX11_flightBy yX11_flightBy ∈ zW := zW_in (i := 62) rfl rfl
set_option maxRecDepth 20000 in
theorem wd_63 : Cond.selects RX11 yX11_ofFlight yX11_ofFlight ∈ zW := zW_in (i := 63) rfl rfl
set_option maxRecDepth 20000 in
theorem wd_64 : Cond.selects RX11 yX11_flightIs yX11_flightIs ∈ zW := zW_in (i := 64) rfl rfl
set_option maxRecDepth 20000 in
theorem wd_65 : Cond.selects RX11 yX11_counts yX11_counts ∈ zW := zW_in (i := 65) rfl rfl
set_option maxRecDepth 20000 in
theorem wd_66 : Cond.selects RX11 yX11_screenWorks yX11_screenWorks ∈ zW := zW_in (i := 66) rfl rfl
set_option maxRecDepth 20000 in
theorem wd_67 : Cond.selects RX11 yX11_storeWorks yX11_storeWorks ∈ zW := zW_in (i := 67) rfl rfl
set_option maxRecDepth 20000 in
theorem wd_68 : Cond.selects RX11 yX11_treats yX11_treats ∈ zW := zW_in (i := 68) rfl rfl
set_option maxRecDepth 20000 in
theorem wd_69 : Cond.selects RX11 yX11_inletWorks yX11_inletWorks ∈ zW := zW_in (i := 69) rfl rfl
set_option maxRecDepth 20000 in
theorem wd_70 : Cond.selects RX11 yX11_isClear yX11_isClear ∈ zW := zW_in (i := 70) rfl rfl
set_option maxRecDepth 20000 in
theorem wd_71 : Cond.selects RX11 yX11_entersRing yX11_entersRing ∈ zW := zW_in (i := 71) rfl rfl
set_option maxRecDepth 20000 in
theorem wd_72 : Cond.selects RX11 yX11_newRecord yX11_newRecord ∈ zW := zW_in (i := 72) rfl rfl
set_option maxRecDepth 20000 in
theorem wd_73 : Cond.selects RX11 yX11_exitWorks yX11_exitWorks ∈ zW := zW_in (i := 73) rfl rfl
set_option maxRecDepth 20000 in
theorem wd_74 : Cond.selects RX11 yX11_scannerWorks yX11_scannerWorks ∈ zW := zW_in (i := 74) rfl rfl
set_option maxRecDepth 20000 in
theorem wd_75 : Cond.selects RX11 yX11_nearest yX11_nearest ∈ zW := zW_in (i := 75) rfl rfl
set_option maxRecDepth 20000 in
theorem wd_76 : Cond.selects RX11 yX11_moveRecord yX11_moveRecord ∈ zW := zW_in (i := 76) rfl rfl
set_option maxRecDepth 20000 in
theorem wd_77 : Cond.selects RX11 yX11_dropRecord yX11_dropRecord ∈ zW := zW_in (i := 77) rfl rfl
set_option maxRecDepth 20000 in
theorem wd_78 : Cond.selects RX11 yX11_readOf yX11_readOf ∈ zW := zW_in (i := 78) rfl rfl
set_option maxRecDepth 20000 in
theorem wd_79 : Cond.selects RX11 yX11_isSeen yX11_isSeen ∈ zW := zW_in (i := 79) rfl rfl
set_option maxRecDepth 20000 in
theorem wd_80 : Cond.selects RX11 yX11_outletWorks yX11_outletWorks ∈ zW := zW_in (i := 80) rfl rfl
set_option maxRecDepth 20000 in
theorem wd_81 : Cond.selects RX11 yX11_destinationAt yX11_destinationAt ∈ zW := zW_in (i := 81) rfl rfl
set_option maxRecDepth 20000 in
theorem wd_82 : Cond.selects RX11 yX11_manyIn yX11_manyIn ∈ zW := zW_in (i := 82) rfl rfl
set_option maxRecDepth 20000 in
theorem wd_83 : Cond.selects RX11 yX11_takesIn yX11_takesIn ∈ zW := zW_in (i := 83) rfl rfl
set_option maxRecDepth 20000 in
theorem wd_84 : Cond.selects RX11 yX11_isPosition yX11_isPosition ∈ zW := zW_in (i := 84) rfl rfl
set_option maxRecDepth 20000 in
theorem wd_85 : Cond.selects RX11 yX11_isFlight yX11_isFlight ∈ zW := zW_in (i := 85) rfl rfl
set_option maxRecDepth 20000 in
theorem wd_86 : Cond.selects RX11 yX11_hasRecord yX11_hasRecord ∈ zW := zW_in (i := 86) rfl rfl
set_option maxRecDepth 20000 in
theorem wd_87 : Cond.selects RX11 yX11_isBag yX11_isBag ∈ zW := zW_in (i := 87) rfl rfl
set_option maxRecDepth 20000 in
theorem wd_88 : Cond.selects RX11 yX11_isIn yX11_isIn ∈ zW := zW_in (i := 88) rfl rfl
set_option maxRecDepth 20000 in
theorem wd_89 : Cond.selects RX11 yX11_sizeOf yX11_sizeOf ∈ zW := zW_in (i := 89) rfl rfl
set_option maxRecDepth 20000 in
theorem wd_90 : Cond.selects RX11 yX11_isFor yX11_isFor ∈ zW := zW_in (i := 90) rfl rfl
set_option maxRecDepth 20000 in
theorem wd_91 : Cond.selects RX11 yX11_laysAside yX11_laysAside ∈ zW := zW_in (i := 91) rfl rfl
set_option maxRecDepth 20000 in
theorem wd_92 : Cond.selects RX11 yX11_ticksFor yX11_ticksFor ∈ zW := zW_in (i := 92) rfl rfl
set_option maxRecDepth 20000 in
theorem wd_93 : Cond.selects RX11 yX11_comesBack yX11_comesBack ∈ zW := zW_in (i := 93) rfl rfl
set_option maxRecDepth 20000 in
theorem wd_94 : Cond.selects RX11 yX11_additional yX11_additional ∈ zW := zW_in (i := 94) rfl rfl
set_option maxRecDepth 20000 in
theorem wd_95 : Cond.selects RX11 yX11_isInTime yX11_isInTime ∈ zW := zW_in (i := 95) rfl rfl
set_option maxRecDepth 20000 in
theorem wd_96 : Cond.selects RX11 yX11_saysMap yX11_saysMap ∈ zW := zW_in (i := 96) rfl rfl
set_option maxRecDepth 20000 in
theorem wd_97 : Cond.selects RX11 yX11_says yX11_says ∈ zW := zW_in (i := 97) rfl rfl
set_option maxRecDepth 20000 in
theorem wd_98 : Cond.selects RX11 yX11_said yX11_said ∈ zW := zW_in (i := 98) rfl rfl
set_option maxRecDepth 20000 in
theorem wd_99 : Cond.selects RX11 yX11_saysSetup yX11_saysSetup ∈ zW := zW_in (i := 99) rfl rfl
set_option maxRecDepth 20000 in
theorem wd_100 : Cond.selects RX11 yX11_saysWord yX11_saysWord ∈ zW := zW_in (i := 100) rfl rfl
set_option maxRecDepth 20000 in
theorem wd_101 : Cond.selects RX11 yX11_saysNumber yX11_saysNumber ∈ zW := zW_in (i := 101) rfl rfl
set_option maxRecDepth 20000 in
theorem wd_102 : Cond.selects RX11 yX11_saysDevice yX11_saysDevice ∈ zW := zW_in (i := 102) rfl rfl
set_option maxRecDepth 20000 in
theorem wd_103 : Cond.selects RX11 yX11_saysBoth yX11_saysBoth ∈ zW := zW_in (i := 103) rfl rfl
set_option maxRecDepth 20000 in
theorem wd_105 : Cond.initialized RX10 ∈ zW := zW_in (i := 105) rfl rfl
set_option maxRecDepth 20000 in
theorem wd_106 : Cond.initialized RX7 ∈ zW := zW_in (i := 106) rfl rfl
set_option maxRecDepth 20000 in
theorem wd_107 : Cond.initialized RX6 ∈ zW := zW_in (i := 107) rfl rfl
set_option maxRecDepth 20000 in
theorem wd_108 : Cond.initialized RX8 ∈ zW := zW_in (i := 108) rfl rfl
set_option maxRecDepth 20000 in
theorem wd_109 : Cond.initialized RX5 ∈ zW := zW_in (i := 109) rfl rfl
set_option maxRecDepth 20000 in
theorem wd_110 : Cond.initialized RX1 ∈ zW := zW_in (i := 110) rfl rfl
set_option maxRecDepth 20000 in
theorem wd_111 : Cond.initialized RJ7 ∈ zW := zW_in (i := 111) rfl rfl
set_option maxRecDepth 20000 in
theorem wd_112 : Cond.initialized RX9 ∈ zW := zW_in (i := 112) rfl rfl
set_option maxRecDepth 20000 in
theorem wd_113 : Cond.initialized RX4 ∈ zW := zW_in (i := 113) rfl rfl
set_option maxRecDepth 20000 in
theorem wd_114 : Cond.initialized RJ9 ∈ zW := zW_in (i := 114) rfl rfl
set_option maxRecDepth 20000 in
theorem wd_115 : Cond.initialized RX3 ∈ zW := zW_in (i := 115) rfl rfl
set_option maxRecDepth 20000 in
theorem wd_116 : Cond.initialized RX0 ∈ zW := zW_in (i := 116) rfl rfl
set_option maxRecDepth 20000 in
theorem wd_117 : Cond.initialized RX2 ∈ zW := zW_in (i := 117) rfl rfl
set_option maxRecDepth 20000 in
theorem wd_118 : Cond.initialized RJ0 ∈ zW := zW_in (i := 118) rfl rfl
set_option maxRecDepth 20000 in
theorem wd_119 : Cond.initialized RJ1 ∈ zW := zW_in (i := 119) rfl rfl
set_option maxRecDepth 20000 in
theorem wd_120 : Cond.initialized RJ3 ∈ zW := zW_in (i := 120) rfl rfl
set_option maxRecDepth 20000 in
theorem wd_122 : Cond.initialized RX11 ∈ zW := zW_in (i := 122) rfl rfl
set_option maxRecDepth 20000 in
theorem wd_123 : Cond.initialized "java/lang/System" ∈ zW := zW_in (i := 123) rfl rfl
set_option maxRecDepth 20000 in
theorem wd_138 : Cond.fieldLink RX7 9 "BaggageHandling$Tape" "bytes" "[B" ∈ zW := zW_in (i := 138) rfl rfl
set_option maxRecDepth 20000 in
theorem wd_139 : Cond.fieldLink RX10 69 "BaggageHandling$Tape" "length" "I" ∈ zW := zW_in (i := 139) rfl rfl
set_option maxRecDepth 20000 in
theorem wd_140 : Cond.fieldLink RX7 15 "BaggageHandling$Tape" "length" "I" ∈ zW := zW_in (i := 140) rfl rfl
set_option maxRecDepth 20000 in
theorem wd_141 : Cond.fieldLink RX7 19 "BaggageHandling$Tape" "start" "I" ∈ zW := zW_in (i := 141) rfl rfl
set_option maxRecDepth 20000 in
theorem wd_142 : Cond.fieldLink RX10 80 "BaggageHandling$Tape" "start" "I" ∈ zW := zW_in (i := 142) rfl rfl
set_option maxRecDepth 20000 in
theorem wd_143 : Cond.fieldLink RX6 76 "BaggageHandling$Tape" "end" "I" ∈ zW := zW_in (i := 143) rfl rfl
set_option maxRecDepth 20000 in
theorem wd_144 : Cond.fieldLink RX7 22 "BaggageHandling$Tape" "end" "I" ∈ zW := zW_in (i := 144) rfl rfl
set_option maxRecDepth 20000 in
theorem wd_145 : Cond.fieldLink RX7 25 "BaggageHandling$Tape" "value" "I" ∈ zW := zW_in (i := 145) rfl rfl
set_option maxRecDepth 20000 in
theorem wd_146 : Cond.fieldLink RX6 115 "BaggageHandling$Tape" "value" "I" ∈ zW := zW_in (i := 146) rfl rfl
set_option maxRecDepth 20000 in
theorem wd_165 : Cond.fieldLink RX6 9 "BaggageHandling$SetupReader" "tape" "LBaggageHandling$Tape;" ∈ zW := zW_in (i := 165) rfl rfl
set_option maxRecDepth 20000 in
theorem wd_166 : Cond.fieldLink RX6 15 "BaggageHandling$SetupReader" "setup" "LBaggageHandling$Setup;" ∈ zW := zW_in (i := 166) rfl rfl
set_option maxRecDepth 20000 in
theorem wd_178 : Cond.fieldLink RX8 9 "BaggageHandling$Text" "bytes" "[B" ∈ zW := zW_in (i := 178) rfl rfl
set_option maxRecDepth 20000 in
theorem wd_179 : Cond.fieldLink RX10 273 "BaggageHandling$Text" "bytes" "[B" ∈ zW := zW_in (i := 179) rfl rfl
set_option maxRecDepth 20000 in
theorem wd_180 : Cond.fieldLink RX8 15 "BaggageHandling$Text" "length" "I" ∈ zW := zW_in (i := 180) rfl rfl
set_option maxRecDepth 20000 in
theorem wd_181 : Cond.fieldLink RX5 79 "BaggageHandling$Text" "length" "I" ∈ zW := zW_in (i := 181) rfl rfl
set_option maxRecDepth 20000 in
theorem wd_182 : Cond.fieldLink RX10 272 "BaggageHandling$Text" "length" "I" ∈ zW := zW_in (i := 182) rfl rfl
set_option maxRecDepth 20000 in
theorem wd_200 : Cond.fieldLink RX1 24 "BaggageHandling$Flights" "count" "I" ∈ zW := zW_in (i := 200) rfl rfl
set_option maxRecDepth 20000 in
theorem wd_201 : Cond.fieldLink RX5 64 "BaggageHandling$Flights" "count" "I" ∈ zW := zW_in (i := 201) rfl rfl
set_option maxRecDepth 20000 in
theorem wd_202 : Cond.fieldLink RX10 107 "BaggageHandling$Flights" "count" "I" ∈ zW := zW_in (i := 202) rfl rfl
set_option maxRecDepth 20000 in
theorem wd_203 : Cond.fieldLink RX6 156 "BaggageHandling$Flights" "count" "I" ∈ zW := zW_in (i := 203) rfl rfl
set_option maxRecDepth 20000 in
theorem wd_204 : Cond.fieldLink RX1 9 "BaggageHandling$Flights" "numbers" "[I" ∈ zW := zW_in (i := 204) rfl rfl
set_option maxRecDepth 20000 in
theorem wd_205 : Cond.fieldLink RX5 133 "BaggageHandling$Flights" "numbers" "[I" ∈ zW := zW_in (i := 205) rfl rfl
set_option maxRecDepth 20000 in
theorem wd_206 : Cond.fieldLink RX10 115 "BaggageHandling$Flights" "numbers" "[I" ∈ zW := zW_in (i := 206) rfl rfl
set_option maxRecDepth 20000 in
theorem wd_207 : Cond.fieldLink RX1 15 "BaggageHandling$Flights" "chutes" "[I" ∈ zW := zW_in (i := 207) rfl rfl
set_option maxRecDepth 20000 in
theorem wd_208 : Cond.fieldLink RX5 136 "BaggageHandling$Flights" "chutes" "[I" ∈ zW := zW_in (i := 208) rfl rfl
set_option maxRecDepth 20000 in
theorem wd_209 : Cond.fieldLink RX9 292 "BaggageHandling$Flights" "chutes" "[I" ∈ zW := zW_in (i := 209) rfl rfl
set_option maxRecDepth 20000 in
theorem wd_210 : Cond.fieldLink RX10 295 "BaggageHandling$Flights" "chutes" "[I" ∈ zW := zW_in (i := 210) rfl rfl
set_option maxRecDepth 20000 in
theorem wd_211 : Cond.fieldLink RX1 18 "BaggageHandling$Flights" "openings" "[I" ∈ zW := zW_in (i := 211) rfl rfl
set_option maxRecDepth 20000 in
theorem wd_212 : Cond.fieldLink RX5 141 "BaggageHandling$Flights" "openings" "[I" ∈ zW := zW_in (i := 212) rfl rfl
set_option maxRecDepth 20000 in
theorem wd_213 : Cond.fieldLink RX10 121 "BaggageHandling$Flights" "openings" "[I" ∈ zW := zW_in (i := 213) rfl rfl
set_option maxRecDepth 20000 in
theorem wd_214 : Cond.fieldLink RX9 219 "BaggageHandling$Flights" "openings" "[I" ∈ zW := zW_in (i := 214) rfl rfl
set_option maxRecDepth 20000 in
theorem wd_215 : Cond.fieldLink RX1 21 "BaggageHandling$Flights" "closings" "[I" ∈ zW := zW_in (i := 215) rfl rfl
set_option maxRecDepth 20000 in
theorem wd_216 : Cond.fieldLink RX5 146 "BaggageHandling$Flights" "closings" "[I" ∈ zW := zW_in (i := 216) rfl rfl
set_option maxRecDepth 20000 in
theorem wd_217 : Cond.fieldLink RX10 124 "BaggageHandling$Flights" "closings" "[I" ∈ zW := zW_in (i := 217) rfl rfl
set_option maxRecDepth 20000 in
theorem wd_218 : Cond.fieldLink RX9 222 "BaggageHandling$Flights" "closings" "[I" ∈ zW := zW_in (i := 218) rfl rfl
set_option maxRecDepth 20000 in
theorem wd_234 : Cond.instanceMethod yX5_clear ∈ zW := zW_in (i := 234) rfl rfl
set_option maxRecDepth 20000 in
theorem wd_235 : Cond.selects RX5 yX5_clear yX5_clear ∈ zW := zW_in (i := 235) rfl rfl
set_option maxRecDepth 20000 in
theorem wd_236 : Cond.code yX5_clear cX5_clear 1 none ∈ zW := zW_in (i := 236) rfl rfl
set_option maxRecDepth 20000 in
theorem wd_237 : Cond.methodLink RX5 67 yJ7_fill_53178 ∈ zW := zW_in (i := 237) rfl rfl
set_option maxRecDepth 20000 in
theorem wd_238 : Cond.static yJ7_fill_53178 ∈ zW := zW_in (i := 238) rfl rfl
set_option maxRecDepth 20000 in
theorem wd_239 : Cond.code yJ7_fill_53178 cJ7_fill_53178 4 none ∈ zW := zW_in (i := 239) rfl rfl
set_option maxRecDepth 20000 in
theorem wd_240 : Cond.fieldLink RX5 54 "BaggageHandling$Setup" "positions" "I" ∈ zW := zW_in (i := 240) rfl rfl
set_option maxRecDepth 20000 in
theorem wd_241 : Cond.fieldLink RX6 36 "BaggageHandling$Setup" "positions" "I" ∈ zW := zW_in (i := 241) rfl rfl
set_option maxRecDepth 20000 in
theorem wd_242 : Cond.fieldLink RX9 100 "BaggageHandling$Setup" "positions" "I" ∈ zW := zW_in (i := 242) rfl rfl
set_option maxRecDepth 20000 in
theorem wd_243 : Cond.fieldLink RX10 89 "BaggageHandling$Setup" "positions" "I" ∈ zW := zW_in (i := 243) rfl rfl
set_option maxRecDepth 20000 in
theorem wd_244 : Cond.fieldLink RX5 58 "BaggageHandling$Setup" "window" "I" ∈ zW := zW_in (i := 244) rfl rfl
set_option maxRecDepth 20000 in
theorem wd_245 : Cond.fieldLink RX6 186 "BaggageHandling$Setup" "window" "I" ∈ zW := zW_in (i := 245) rfl rfl
set_option maxRecDepth 20000 in
theorem wd_246 : Cond.fieldLink RX9 252 "BaggageHandling$Setup" "window" "I" ∈ zW := zW_in (i := 246) rfl rfl
set_option maxRecDepth 20000 in
theorem wd_247 : Cond.fieldLink RX5 61 "BaggageHandling$Setup" "passLimit" "I" ∈ zW := zW_in (i := 247) rfl rfl
set_option maxRecDepth 20000 in
theorem wd_248 : Cond.fieldLink RX6 190 "BaggageHandling$Setup" "passLimit" "I" ∈ zW := zW_in (i := 248) rfl rfl
set_option maxRecDepth 20000 in
theorem wd_249 : Cond.fieldLink RX9 298 "BaggageHandling$Setup" "passLimit" "I" ∈ zW := zW_in (i := 249) rfl rfl
set_option maxRecDepth 20000 in
theorem wd_250 : Cond.fieldLink RX5 12 "BaggageHandling$Setup" "flights" "LBaggageHandling$Flights;" ∈ zW := zW_in (i := 250) rfl rfl
set_option maxRecDepth 20000 in
theorem wd_251 : Cond.fieldLink RX10 103 "BaggageHandling$Setup" "flights" "LBaggageHandling$Flights;" ∈ zW := zW_in (i := 251) rfl rfl
set_option maxRecDepth 20000 in
theorem wd_252 : Cond.fieldLink RX6 152 "BaggageHandling$Setup" "flights" "LBaggageHandling$Flights;" ∈ zW := zW_in (i := 252) rfl rfl
set_option maxRecDepth 20000 in
theorem wd_253 : Cond.fieldLink RX9 210 "BaggageHandling$Setup" "flights" "LBaggageHandling$Flights;" ∈ zW := zW_in (i := 253) rfl rfl
set_option maxRecDepth 20000 in
theorem wd_254 : Cond.fieldLink RX5 18 "BaggageHandling$Setup" "sorts" "[I" ∈ zW := zW_in (i := 254) rfl rfl
set_option maxRecDepth 20000 in
theorem wd_255 : Cond.fieldLink RX6 121 "BaggageHandling$Setup" "sorts" "[I" ∈ zW := zW_in (i := 255) rfl rfl
set_option maxRecDepth 20000 in
theorem wd_256 : Cond.fieldLink RX10 96 "BaggageHandling$Setup" "sorts" "[I" ∈ zW := zW_in (i := 256) rfl rfl
set_option maxRecDepth 20000 in
theorem wd_257 : Cond.fieldLink RX9 165 "BaggageHandling$Setup" "sorts" "[I" ∈ zW := zW_in (i := 257) rfl rfl
set_option maxRecDepth 20000 in
theorem wd_258 : Cond.fieldLink RX5 22 "BaggageHandling$Setup" "numbers" "[I" ∈ zW := zW_in (i := 258) rfl rfl
set_option maxRecDepth 20000 in
theorem wd_259 : Cond.fieldLink RX9 113 "BaggageHandling$Setup" "numbers" "[I" ∈ zW := zW_in (i := 259) rfl rfl
set_option maxRecDepth 20000 in
theorem wd_260 : Cond.fieldLink RX5 25 "BaggageHandling$Setup" "rooms" "[I" ∈ zW := zW_in (i := 260) rfl rfl
set_option maxRecDepth 20000 in
theorem wd_261 : Cond.fieldLink RX6 126 "BaggageHandling$Setup" "rooms" "[I" ∈ zW := zW_in (i := 261) rfl rfl
set_option maxRecDepth 20000 in
theorem wd_262 : Cond.fieldLink RX9 280 "BaggageHandling$Setup" "rooms" "[I" ∈ zW := zW_in (i := 262) rfl rfl
set_option maxRecDepth 20000 in
theorem wd_263 : Cond.fieldLink RX5 28 "BaggageHandling$Setup" "switchings" "[I" ∈ zW := zW_in (i := 263) rfl rfl
set_option maxRecDepth 20000 in
theorem wd_264 : Cond.fieldLink RX6 131 "BaggageHandling$Setup" "switchings" "[I" ∈ zW := zW_in (i := 264) rfl rfl
set_option maxRecDepth 20000 in
theorem wd_265 : Cond.fieldLink RX9 283 "BaggageHandling$Setup" "switchings" "[I" ∈ zW := zW_in (i := 265) rfl rfl
set_option maxRecDepth 20000 in
theorem wd_266 : Cond.fieldLink RX5 31 "BaggageHandling$Setup" "exits" "[I" ∈ zW := zW_in (i := 266) rfl rfl
set_option maxRecDepth 20000 in
theorem wd_267 : Cond.fieldLink RX6 147 "BaggageHandling$Setup" "exits" "[I" ∈ zW := zW_in (i := 267) rfl rfl
set_option maxRecDepth 20000 in
theorem wd_268 : Cond.fieldLink RX9 231 "BaggageHandling$Setup" "exits" "[I" ∈ zW := zW_in (i := 268) rfl rfl
set_option maxRecDepth 20000 in
theorem wd_269 : Cond.fieldLink RX5 36 "BaggageHandling$Setup" "times" "[[I" ∈ zW := zW_in (i := 269) rfl rfl
set_option maxRecDepth 20000 in
theorem wd_270 : Cond.fieldLink RX6 140 "BaggageHandling$Setup" "times" "[[I" ∈ zW := zW_in (i := 270) rfl rfl
set_option maxRecDepth 20000 in
theorem wd_271 : Cond.fieldLink RX9 183 "BaggageHandling$Setup" "times" "[[I" ∈ zW := zW_in (i := 271) rfl rfl
set_option maxRecDepth 20000 in
theorem wd_272 : Cond.fieldLink RX5 39 "BaggageHandling$Setup" "counts" "[I" ∈ zW := zW_in (i := 272) rfl rfl
set_option maxRecDepth 20000 in
theorem wd_273 : Cond.fieldLink RX6 69 "BaggageHandling$Setup" "counts" "[I" ∈ zW := zW_in (i := 273) rfl rfl
set_option maxRecDepth 20000 in
theorem wd_274 : Cond.fieldLink RX10 100 "BaggageHandling$Setup" "counts" "[I" ∈ zW := zW_in (i := 274) rfl rfl
set_option maxRecDepth 20000 in
theorem wd_275 : Cond.fieldLink RX9 142 "BaggageHandling$Setup" "counts" "[I" ∈ zW := zW_in (i := 275) rfl rfl
set_option maxRecDepth 20000 in
theorem wd_276 : Cond.fieldLink RX5 42 "BaggageHandling$Setup" "places" "[[I" ∈ zW := zW_in (i := 276) rfl rfl
set_option maxRecDepth 20000 in
theorem wd_277 : Cond.fieldLink RX9 143 "BaggageHandling$Setup" "places" "[[I" ∈ zW := zW_in (i := 277) rfl rfl
set_option maxRecDepth 20000 in
theorem wd_278 : Cond.fieldLink RX5 45 "BaggageHandling$Setup" "order" "[I" ∈ zW := zW_in (i := 278) rfl rfl
set_option maxRecDepth 20000 in
theorem wd_279 : Cond.fieldLink RX5 73 "BaggageHandling$Setup" "orderLength" "I" ∈ zW := zW_in (i := 279) rfl rfl
set_option maxRecDepth 20000 in
theorem wd_280 : Cond.fieldLink RX5 48 "BaggageHandling$Setup" "busy" "[I" ∈ zW := zW_in (i := 280) rfl rfl
set_option maxRecDepth 20000 in
theorem wd_281 : Cond.fieldLink RX9 159 "BaggageHandling$Setup" "busy" "[I" ∈ zW := zW_in (i := 281) rfl rfl
set_option maxRecDepth 20000 in
theorem wd_282 : Cond.fieldLink RX5 76 "BaggageHandling$Setup" "busyLength" "I" ∈ zW := zW_in (i := 282) rfl rfl
set_option maxRecDepth 20000 in
theorem wd_283 : Cond.fieldLink RX9 156 "BaggageHandling$Setup" "busyLength" "I" ∈ zW := zW_in (i := 283) rfl rfl
set_option maxRecDepth 20000 in
theorem wd_332 : Cond.methodLink RX4 27 yJ7_fill_53178 ∈ zW := zW_in (i := 332) rfl rfl
set_option maxRecDepth 20000 in
theorem wd_333 : Cond.fieldLink RX4 15 "BaggageHandling$Records" "labels" "[I" ∈ zW := zW_in (i := 333) rfl rfl
set_option maxRecDepth 20000 in
theorem wd_334 : Cond.fieldLink RX9 195 "BaggageHandling$Records" "labels" "[I" ∈ zW := zW_in (i := 334) rfl rfl
set_option maxRecDepth 20000 in
theorem wd_335 : Cond.fieldLink RX10 199 "BaggageHandling$Records" "labels" "[I" ∈ zW := zW_in (i := 335) rfl rfl
set_option maxRecDepth 20000 in
theorem wd_336 : Cond.fieldLink RX4 21 "BaggageHandling$Records" "passes" "[I" ∈ zW := zW_in (i := 336) rfl rfl
set_option maxRecDepth 20000 in
theorem wd_337 : Cond.fieldLink RX9 198 "BaggageHandling$Records" "passes" "[I" ∈ zW := zW_in (i := 337) rfl rfl
set_option maxRecDepth 20000 in
theorem wd_338 : Cond.fieldLink RX10 208 "BaggageHandling$Records" "passes" "[I" ∈ zW := zW_in (i := 338) rfl rfl
set_option maxRecDepth 20000 in
theorem wd_339 : Cond.fieldLink RX4 24 "BaggageHandling$Records" "cleared" "[I" ∈ zW := zW_in (i := 339) rfl rfl
set_option maxRecDepth 20000 in
theorem wd_340 : Cond.fieldLink RX9 207 "BaggageHandling$Records" "cleared" "[I" ∈ zW := zW_in (i := 340) rfl rfl
set_option maxRecDepth 20000 in
theorem wd_341 : Cond.fieldLink RX10 205 "BaggageHandling$Records" "cleared" "[I" ∈ zW := zW_in (i := 341) rfl rfl
set_option maxRecDepth 20000 in
theorem wd_355 : Cond.fieldLink RX3 9 "BaggageHandling$Queues" "firsts" "[I" ∈ zW := zW_in (i := 355) rfl rfl
set_option maxRecDepth 20000 in
theorem wd_356 : Cond.fieldLink RX9 180 "BaggageHandling$Queues" "firsts" "[I" ∈ zW := zW_in (i := 356) rfl rfl
set_option maxRecDepth 20000 in
theorem wd_357 : Cond.fieldLink RX3 15 "BaggageHandling$Queues" "lasts" "[I" ∈ zW := zW_in (i := 357) rfl rfl
set_option maxRecDepth 20000 in
theorem wd_358 : Cond.fieldLink RX3 18 "BaggageHandling$Queues" "sizes" "[I" ∈ zW := zW_in (i := 358) rfl rfl
set_option maxRecDepth 20000 in
theorem wd_359 : Cond.fieldLink RX10 183 "BaggageHandling$Queues" "sizes" "[I" ∈ zW := zW_in (i := 359) rfl rfl
set_option maxRecDepth 20000 in
theorem wd_360 : Cond.fieldLink RX9 277 "BaggageHandling$Queues" "sizes" "[I" ∈ zW := zW_in (i := 360) rfl rfl
set_option maxRecDepth 20000 in
theorem wd_361 : Cond.fieldLink RX3 21 "BaggageHandling$Queues" "nexts" "[I" ∈ zW := zW_in (i := 361) rfl rfl
set_option maxRecDepth 20000 in
theorem wd_362 : Cond.fieldLink RX9 225 "BaggageHandling$Queues" "nexts" "[I" ∈ zW := zW_in (i := 362) rfl rfl
set_option maxRecDepth 20000 in
theorem wd_378 : Cond.fieldLink RX0 39 "BaggageHandling$Bags" "count" "I" ∈ zW := zW_in (i := 378) rfl rfl
set_option maxRecDepth 20000 in
theorem wd_379 : Cond.fieldLink RX9 71 "BaggageHandling$Bags" "count" "I" ∈ zW := zW_in (i := 379) rfl rfl
set_option maxRecDepth 20000 in
theorem wd_380 : Cond.fieldLink RX10 142 "BaggageHandling$Bags" "count" "I" ∈ zW := zW_in (i := 380) rfl rfl
set_option maxRecDepth 20000 in
theorem wd_381 : Cond.fieldLink RX0 9 "BaggageHandling$Bags" "firstLabels" "[I" ∈ zW := zW_in (i := 381) rfl rfl
set_option maxRecDepth 20000 in
theorem wd_382 : Cond.fieldLink RX9 265 "BaggageHandling$Bags" "firstLabels" "[I" ∈ zW := zW_in (i := 382) rfl rfl
set_option maxRecDepth 20000 in
theorem wd_383 : Cond.fieldLink RX0 15 "BaggageHandling$Bags" "firstHeads" "[I" ∈ zW := zW_in (i := 383) rfl rfl
set_option maxRecDepth 20000 in
theorem wd_384 : Cond.fieldLink RX9 262 "BaggageHandling$Bags" "firstHeads" "[I" ∈ zW := zW_in (i := 384) rfl rfl
set_option maxRecDepth 20000 in
theorem wd_385 : Cond.fieldLink RX0 18 "BaggageHandling$Bags" "secondLabels" "[I" ∈ zW := zW_in (i := 385) rfl rfl
set_option maxRecDepth 20000 in
theorem wd_386 : Cond.fieldLink RX9 271 "BaggageHandling$Bags" "secondLabels" "[I" ∈ zW := zW_in (i := 386) rfl rfl
set_option maxRecDepth 20000 in
theorem wd_387 : Cond.fieldLink RX0 21 "BaggageHandling$Bags" "secondHeads" "[I" ∈ zW := zW_in (i := 387) rfl rfl
set_option maxRecDepth 20000 in
theorem wd_388 : Cond.fieldLink RX9 268 "BaggageHandling$Bags" "secondHeads" "[I" ∈ zW := zW_in (i := 388) rfl rfl
set_option maxRecDepth 20000 in
theorem wd_389 : Cond.fieldLink RX0 24 "BaggageHandling$Bags" "threats" "[I" ∈ zW := zW_in (i := 389) rfl rfl
set_option maxRecDepth 20000 in
theorem wd_390 : Cond.fieldLink RX9 204 "BaggageHandling$Bags" "threats" "[I" ∈ zW := zW_in (i := 390) rfl rfl
set_option maxRecDepth 20000 in
theorem wd_391 : Cond.fieldLink RX0 27 "BaggageHandling$Bags" "states" "[I" ∈ zW := zW_in (i := 391) rfl rfl
set_option maxRecDepth 20000 in
theorem wd_392 : Cond.fieldLink RX10 215 "BaggageHandling$Bags" "states" "[I" ∈ zW := zW_in (i := 392) rfl rfl
set_option maxRecDepth 20000 in
theorem wd_393 : Cond.fieldLink RX0 30 "BaggageHandling$Bags" "places" "[I" ∈ zW := zW_in (i := 393) rfl rfl
set_option maxRecDepth 20000 in
theorem wd_394 : Cond.fieldLink RX10 218 "BaggageHandling$Bags" "places" "[I" ∈ zW := zW_in (i := 394) rfl rfl
set_option maxRecDepth 20000 in
theorem wd_395 : Cond.fieldLink RX0 33 "BaggageHandling$Bags" "deliveryTicks" "[I" ∈ zW := zW_in (i := 395) rfl rfl
set_option maxRecDepth 20000 in
theorem wd_396 : Cond.fieldLink RX9 289 "BaggageHandling$Bags" "deliveryTicks" "[I" ∈ zW := zW_in (i := 396) rfl rfl
set_option maxRecDepth 20000 in
theorem wd_397 : Cond.fieldLink RX10 227 "BaggageHandling$Bags" "deliveryTicks" "[I" ∈ zW := zW_in (i := 397) rfl rfl
set_option maxRecDepth 20000 in
theorem wd_398 : Cond.fieldLink RX0 36 "BaggageHandling$Bags" "deliveryFlights" "[I" ∈ zW := zW_in (i := 398) rfl rfl
set_option maxRecDepth 20000 in
theorem wd_399 : Cond.fieldLink RX9 295 "BaggageHandling$Bags" "deliveryFlights" "[I" ∈ zW := zW_in (i := 399) rfl rfl
set_option maxRecDepth 20000 in
theorem wd_400 : Cond.fieldLink RX10 254 "BaggageHandling$Bags" "deliveryFlights" "[I" ∈ zW := zW_in (i := 400) rfl rfl
set_option maxRecDepth 20000 in
theorem wd_423 : Cond.instanceMethod yX9_begin ∈ zW := zW_in (i := 423) rfl rfl
set_option maxRecDepth 20000 in
theorem wd_424 : Cond.selects RX9 yX9_begin yX9_begin ∈ zW := zW_in (i := 424) rfl rfl
set_option maxRecDepth 20000 in
theorem wd_425 : Cond.code yX9_begin cX9_begin 2 none ∈ zW := zW_in (i := 425) rfl rfl
set_option maxRecDepth 20000 in
theorem wd_426 : Cond.methodLink RX9 74 yX4_removeAll ∈ zW := zW_in (i := 426) rfl rfl
set_option maxRecDepth 20000 in
theorem wd_427 : Cond.instanceMethod yX4_removeAll ∈ zW := zW_in (i := 427) rfl rfl
set_option maxRecDepth 20000 in
theorem wd_428 : Cond.selects RX4 yX4_removeAll yX4_removeAll ∈ zW := zW_in (i := 428) rfl rfl
set_option maxRecDepth 20000 in
theorem wd_429 : Cond.code yX4_removeAll cX4_removeAll 1 none ∈ zW := zW_in (i := 429) rfl rfl
set_option maxRecDepth 20000 in
theorem wd_430 : Cond.methodLink RX9 77 yX3_removeAll ∈ zW := zW_in (i := 430) rfl rfl
set_option maxRecDepth 20000 in
theorem wd_431 : Cond.instanceMethod yX3_removeAll ∈ zW := zW_in (i := 431) rfl rfl
set_option maxRecDepth 20000 in
theorem wd_432 : Cond.selects RX3 yX3_removeAll yX3_removeAll ∈ zW := zW_in (i := 432) rfl rfl
set_option maxRecDepth 20000 in
theorem wd_433 : Cond.code yX3_removeAll cX3_removeAll 1 none ∈ zW := zW_in (i := 433) rfl rfl
set_option maxRecDepth 20000 in
theorem wd_434 : Cond.methodLink RX3 30 yJ7_fill_53178 ∈ zW := zW_in (i := 434) rfl rfl
set_option maxRecDepth 20000 in
theorem wd_435 : Cond.methodLink RX9 78 yJ7_fill_53178 ∈ zW := zW_in (i := 435) rfl rfl
set_option maxRecDepth 20000 in
theorem wd_436 : Cond.fieldLink RX9 57 "BaggageHandling$World" "setup" "LBaggageHandling$Setup;" ∈ zW := zW_in (i := 436) rfl rfl
set_option maxRecDepth 20000 in
theorem wd_437 : Cond.fieldLink RX9 61 "BaggageHandling$World" "now" "I" ∈ zW := zW_in (i := 437) rfl rfl
set_option maxRecDepth 20000 in
theorem wd_438 : Cond.fieldLink RX10 118 "BaggageHandling$World" "now" "I" ∈ zW := zW_in (i := 438) rfl rfl
set_option maxRecDepth 20000 in
theorem wd_439 : Cond.fieldLink RX9 65 "BaggageHandling$World" "turned" "I" ∈ zW := zW_in (i := 439) rfl rfl
set_option maxRecDepth 20000 in
theorem wd_440 : Cond.fieldLink RX9 68 "BaggageHandling$World" "heads" "I" ∈ zW := zW_in (i := 440) rfl rfl
set_option maxRecDepth 20000 in
theorem wd_441 : Cond.fieldLink RX10 176 "BaggageHandling$World" "heads" "I" ∈ zW := zW_in (i := 441) rfl rfl
set_option maxRecDepth 20000 in
theorem wd_442 : Cond.fieldLink RX9 9 "BaggageHandling$World" "counts" "[I" ∈ zW := zW_in (i := 442) rfl rfl
set_option maxRecDepth 20000 in
theorem wd_443 : Cond.fieldLink RX10 249 "BaggageHandling$World" "counts" "[I" ∈ zW := zW_in (i := 443) rfl rfl
set_option maxRecDepth 20000 in
theorem wd_444 : Cond.fieldLink RX9 15 "BaggageHandling$World" "riders" "[I" ∈ zW := zW_in (i := 444) rfl rfl
set_option maxRecDepth 20000 in
theorem wd_445 : Cond.fieldLink RX10 166 "BaggageHandling$World" "riders" "[I" ∈ zW := zW_in (i := 445) rfl rfl
set_option maxRecDepth 20000 in
theorem wd_446 : Cond.fieldLink RX9 23 "BaggageHandling$World" "belt" "LBaggageHandling$Records;" ∈ zW := zW_in (i := 446) rfl rfl
set_option maxRecDepth 20000 in
theorem wd_447 : Cond.fieldLink RX10 195 "BaggageHandling$World" "belt" "LBaggageHandling$Records;" ∈ zW := zW_in (i := 447) rfl rfl
set_option maxRecDepth 20000 in
theorem wd_448 : Cond.fieldLink RX9 27 "BaggageHandling$World" "held" "LBaggageHandling$Records;" ∈ zW := zW_in (i := 448) rfl rfl
set_option maxRecDepth 20000 in
theorem wd_449 : Cond.fieldLink RX9 33 "BaggageHandling$World" "queues" "LBaggageHandling$Queues;" ∈ zW := zW_in (i := 449) rfl rfl
set_option maxRecDepth 20000 in
theorem wd_450 : Cond.fieldLink RX10 179 "BaggageHandling$World" "queues" "LBaggageHandling$Queues;" ∈ zW := zW_in (i := 450) rfl rfl
set_option maxRecDepth 20000 in
theorem wd_451 : Cond.fieldLink RX9 40 "BaggageHandling$World" "bags" "LBaggageHandling$Bags;" ∈ zW := zW_in (i := 451) rfl rfl
set_option maxRecDepth 20000 in
theorem wd_452 : Cond.fieldLink RX10 138 "BaggageHandling$World" "bags" "LBaggageHandling$Bags;" ∈ zW := zW_in (i := 452) rfl rfl
set_option maxRecDepth 20000 in
theorem wd_453 : Cond.fieldLink RX9 44 "BaggageHandling$World" "readyTicks" "[I" ∈ zW := zW_in (i := 453) rfl rfl
set_option maxRecDepth 20000 in
theorem wd_454 : Cond.fieldLink RX10 242 "BaggageHandling$World" "readyTicks" "[I" ∈ zW := zW_in (i := 454) rfl rfl
set_option maxRecDepth 20000 in
theorem wd_455 : Cond.fieldLink RX9 47 "BaggageHandling$World" "workCounters" "[I" ∈ zW := zW_in (i := 455) rfl rfl
set_option maxRecDepth 20000 in
theorem wd_456 : Cond.fieldLink RX9 50 "BaggageHandling$World" "levels" "[I" ∈ zW := zW_in (i := 456) rfl rfl
set_option maxRecDepth 20000 in
theorem wd_457 : Cond.fieldLink RX10 236 "BaggageHandling$World" "levels" "[I" ∈ zW := zW_in (i := 457) rfl rfl
set_option maxRecDepth 20000 in
theorem wd_494 : Cond.fieldLink RX2 11 "BaggageHandling$History" "saved" "[LBaggageHandling$World;" ∈ zW := zW_in (i := 494) rfl rfl
set_option maxRecDepth 20000 in
theorem wd_495 : Cond.fieldLink RX2 20 "BaggageHandling$History" "next" "I" ∈ zW := zW_in (i := 495) rfl rfl
set_option maxRecDepth 20000 in
theorem wd_496 : Cond.fieldLink RX2 24 "BaggageHandling$History" "count" "I" ∈ zW := zW_in (i := 496) rfl rfl
set_option maxRecDepth 20000 in
theorem wd_497 : Cond.fieldLink RX10 191 "BaggageHandling$History" "count" "I" ∈ zW := zW_in (i := 497) rfl rfl
set_option maxRecDepth 20000 in
theorem wd_505 : Cond.methodLink RX10 65 yX5_describe ∈ zW := zW_in (i := 505) rfl rfl
set_option maxRecDepth 20000 in
theorem wd_506 : Cond.instanceMethod yX5_describe ∈ zW := zW_in (i := 506) rfl rfl
set_option maxRecDepth 20000 in
theorem wd_507 : Cond.selects RX5 yX5_describe yX5_describe ∈ zW := zW_in (i := 507) rfl rfl
set_option maxRecDepth 20000 in
theorem wd_508 : Cond.code yX5_describe cX5_describe 3 none ∈ zW := zW_in (i := 508) rfl rfl
set_option maxRecDepth 20000 in
theorem wd_510 : Cond.methodLink RX5 86 yX8_addNamed ∈ zW := zW_in (i := 510) rfl rfl
set_option maxRecDepth 20000 in
theorem wd_511 : Cond.instanceMethod yX8_addNamed ∈ zW := zW_in (i := 511) rfl rfl
set_option maxRecDepth 20000 in
theorem wd_512 : Cond.selects RX8 yX8_addNamed yX8_addNamed ∈ zW := zW_in (i := 512) rfl rfl
set_option maxRecDepth 20000 in
theorem wd_513 : Cond.code yX8_addNamed cX8_addNamed 3 none ∈ zW := zW_in (i := 513) rfl rfl
set_option maxRecDepth 20000 in
theorem wd_514 : Cond.methodLink RX8 35 yX8_addName ∈ zW := zW_in (i := 514) rfl rfl
set_option maxRecDepth 20000 in
theorem wd_515 : Cond.instanceMethod yX8_addName ∈ zW := zW_in (i := 515) rfl rfl
set_option maxRecDepth 20000 in
theorem wd_516 : Cond.selects RX8 yX8_addName yX8_addName ∈ zW := zW_in (i := 516) rfl rfl
set_option maxRecDepth 20000 in
theorem wd_517 : Cond.code yX8_addName cX8_addName 3 none ∈ zW := zW_in (i := 517) rfl rfl
set_option maxRecDepth 20000 in
theorem wd_518 : Cond.methodLink RX8 23 yX8_separate ∈ zW := zW_in (i := 518) rfl rfl
set_option maxRecDepth 20000 in
theorem wd_520 : Cond.instanceMethod yX8_separate ∈ zW := zW_in (i := 520) rfl rfl
set_option maxRecDepth 20000 in
theorem wd_521 : Cond.code yX8_separate cX8_separate 1 none ∈ zW := zW_in (i := 521) rfl rfl
set_option maxRecDepth 20000 in
theorem wd_522 : Cond.methodLink RX8 19 yX8_addSign ∈ zW := zW_in (i := 522) rfl rfl
set_option maxRecDepth 20000 in
theorem wd_524 : Cond.instanceMethod yX8_addSign ∈ zW := zW_in (i := 524) rfl rfl
set_option maxRecDepth 20000 in
theorem wd_525 : Cond.code yX8_addSign cX8_addSign 2 none ∈ zW := zW_in (i := 525) rfl rfl
set_option maxRecDepth 20000 in
theorem wd_526 : Cond.methodLink RX8 26 yJ0_length_8abf5 ∈ zW := zW_in (i := 526) rfl rfl
set_option maxRecDepth 20000 in
theorem wd_527 : Cond.instanceMethod yJ0_length_8abf5 ∈ zW := zW_in (i := 527) rfl rfl
set_option maxRecDepth 20000 in
theorem wd_528 : Cond.selects RJ0 yJ0_length_8abf5 yJ0_length_8abf5 ∈ zW := zW_in (i := 528) rfl rfl
set_option maxRecDepth 20000 in
theorem wd_529 : Cond.code yJ0_length_8abf5 cJ0_length_8abf5 1 (some .int) ∈ zW := zW_in (i := 529) rfl rfl
set_option maxRecDepth 20000 in
theorem wd_530 : Cond.methodLink RJ0 335 yJ0_coder_7d493 ∈ zW := zW_in (i := 530) rfl rfl
set_option maxRecDepth 20000 in
theorem wd_531 : Cond.instanceMethod yJ0_coder_7d493 ∈ zW := zW_in (i := 531) rfl rfl
set_option maxRecDepth 20000 in
theorem wd_532 : Cond.selects RJ0 yJ0_coder_7d493 yJ0_coder_7d493 ∈ zW := zW_in (i := 532) rfl rfl
set_option maxRecDepth 20000 in
theorem wd_533 : Cond.code yJ0_coder_7d493 cJ0_coder_7d493 1 (some .byte) ∈ zW := zW_in (i := 533) rfl rfl
set_option maxRecDepth 20000 in
theorem wd_534 : Cond.fieldLink RJ0 38 "java/lang/String" "COMPACT_STRINGS" "Z" ∈ zW := zW_in (i := 534) rfl rfl
set_option maxRecDepth 20000 in
theorem wd_536 : Cond.methodLink RX8 31 yJ0_charAt_5068e ∈ zW := zW_in (i := 536) rfl rfl
set_option maxRecDepth 20000 in
theorem wd_537 : Cond.instanceMethod yJ0_charAt_5068e ∈ zW := zW_in (i := 537) rfl rfl
set_option maxRecDepth 20000 in
theorem wd_538 : Cond.selects RJ0 yJ0_charAt_5068e yJ0_charAt_5068e ∈ zW := zW_in (i := 538) rfl rfl
set_option maxRecDepth 20000 in
theorem wd_539 : Cond.code yJ0_charAt_5068e cJ0_charAt_5068e 2 (some .char) ∈ zW := zW_in (i := 539) rfl rfl
set_option maxRecDepth 20000 in
theorem wd_540 : Cond.methodLink RJ0 492 yJ0_isLatin1_aae02 ∈ zW := zW_in (i := 540) rfl rfl
set_option maxRecDepth 20000 in
theorem wd_541 : Cond.instanceMethod yJ0_isLatin1_aae02 ∈ zW := zW_in (i := 541) rfl rfl
set_option maxRecDepth 20000 in
theorem wd_542 : Cond.selects RJ0 yJ0_isLatin1_aae02 yJ0_isLatin1_aae02 ∈ zW := zW_in (i := 542) rfl rfl
set_option maxRecDepth 20000 in
theorem wd_543 : Cond.code yJ0_isLatin1_aae02 cJ0_isLatin1_aae02 1 (some .boolean) ∈ zW := zW_in (i := 543) rfl rfl
set_option maxRecDepth 20000 in
theorem wd_544 : Cond.methodLink RJ0 495 yJ1_charAt_3b067 ∈ zW := zW_in (i := 544) rfl rfl
set_option maxRecDepth 20000 in
theorem wd_545 : Cond.static yJ1_charAt_3b067 ∈ zW := zW_in (i := 545) rfl rfl
set_option maxRecDepth 20000 in
theorem wd_546 : Cond.code yJ1_charAt_3b067 cJ1_charAt_3b067 2 (some .char) ∈ zW := zW_in (i := 546) rfl rfl
set_option maxRecDepth 20000 in
theorem wd_547 : Cond.methodLink RJ1 9 yJ0_checkIndex_df160 ∈ zW := zW_in (i := 547) rfl rfl
set_option maxRecDepth 20000 in
theorem wd_548 : Cond.static yJ0_checkIndex_df160 ∈ zW := zW_in (i := 548) rfl rfl
set_option maxRecDepth 20000 in
theorem wd_549 : Cond.code yJ0_checkIndex_df160 cJ0_checkIndex_df160 2 none ∈ zW := zW_in (i := 549) rfl rfl
set_option maxRecDepth 20000 in
theorem wd_550 : Cond.fieldLink RJ0 1053 "jdk/internal/util/Preconditions" "SIOOBE_FORMATTER" "Ljava/util/function/BiFunction;" ∈ zW := zW_in (i := 550) rfl rfl
set_option maxRecDepth 20000 in
theorem wd_552 : Cond.methodLink RJ0 1059 yJ3_checkIndex_8e157 ∈ zW := zW_in (i := 552) rfl rfl
set_option maxRecDepth 20000 in
theorem wd_553 : Cond.static yJ3_checkIndex_8e157 ∈ zW := zW_in (i := 553) rfl rfl
set_option maxRecDepth 20000 in
theorem wd_554 : Cond.code yJ3_checkIndex_8e157 cJ3_checkIndex_8e157 3 (some .int) ∈ zW := zW_in (i := 554) rfl rfl
set_option maxRecDepth 20000 in
theorem wd_574 : Cond.methodLink RX8 39 yX8_addValue ∈ zW := zW_in (i := 574) rfl rfl
set_option maxRecDepth 20000 in
theorem wd_575 : Cond.instanceMethod yX8_addValue ∈ zW := zW_in (i := 575) rfl rfl
set_option maxRecDepth 20000 in
theorem wd_576 : Cond.selects RX8 yX8_addValue yX8_addValue ∈ zW := zW_in (i := 576) rfl rfl
set_option maxRecDepth 20000 in
theorem wd_577 : Cond.code yX8_addValue cX8_addValue 3 none ∈ zW := zW_in (i := 577) rfl rfl
set_option maxRecDepth 20000 in
theorem wd_578 : Cond.methodLink RX5 90 yX8_endClause ∈ zW := zW_in (i := 578) rfl rfl
set_option maxRecDepth 20000 in
theorem wd_579 : Cond.instanceMethod yX8_endClause ∈ zW := zW_in (i := 579) rfl rfl
set_option maxRecDepth 20000 in
theorem wd_580 : Cond.selects RX8 yX8_endClause yX8_endClause ∈ zW := zW_in (i := 580) rfl rfl
set_option maxRecDepth 20000 in
theorem wd_581 : Cond.code yX8_endClause cX8_endClause 1 none ∈ zW := zW_in (i := 581) rfl rfl
set_option maxRecDepth 20000 in
theorem wd_582 : Cond.methodLink RX5 93 yX5_describeDevice ∈ zW := zW_in (i := 582) rfl rfl
set_option maxRecDepth 20000 in
theorem wd_584 : Cond.instanceMethod yX5_describeDevice ∈ zW := zW_in (i := 584) rfl rfl
set_option maxRecDepth 20000 in
theorem wd_585 : Cond.code yX5_describeDevice cX5_describeDevice 5 none ∈ zW := zW_in (i := 585) rfl rfl
set_option maxRecDepth 20000 in
theorem wd_587 : Cond.static yX10_wordOf ∈ zW := zW_in (i := 587) rfl rfl
set_option maxRecDepth 20000 in
theorem wd_588 : Cond.code yX10_wordOf cX10_wordOf 1 (some (.object "java/lang/String")) ∈ zW := zW_in (i := 588) rfl rfl
set_option maxRecDepth 20000 in
theorem wd_596 : Cond.static yX10_isOutlet ∈ zW := zW_in (i := 596) rfl rfl
set_option maxRecDepth 20000 in
theorem wd_597 : Cond.code yX10_isOutlet cX10_isOutlet 1 (some .boolean) ∈ zW := zW_in (i := 597) rfl rfl
set_option maxRecDepth 20000 in
theorem wd_598 : Cond.methodLink RX10 134 yX10_isWithin ∈ zW := zW_in (i := 598) rfl rfl
set_option maxRecDepth 20000 in
theorem wd_599 : Cond.static yX10_isWithin ∈ zW := zW_in (i := 599) rfl rfl
set_option maxRecDepth 20000 in
theorem wd_600 : Cond.code yX10_isWithin cX10_isWithin 3 (some .boolean) ∈ zW := zW_in (i := 600) rfl rfl
set_option maxRecDepth 20000 in
theorem wd_604 : Cond.methodLink RX5 116 yX8_addName ∈ zW := zW_in (i := 604) rfl rfl
set_option maxRecDepth 20000 in
theorem wd_605 : Cond.methodLink RX5 120 yX8_addValue ∈ zW := zW_in (i := 605) rfl rfl
set_option maxRecDepth 20000 in
theorem wd_608 : Cond.static yX10_hasExit ∈ zW := zW_in (i := 608) rfl rfl
set_option maxRecDepth 20000 in
theorem wd_609 : Cond.code yX10_hasExit cX10_hasExit 1 (some .boolean) ∈ zW := zW_in (i := 609) rfl rfl
set_option maxRecDepth 20000 in
theorem wd_610 : Cond.methodLink RX10 239 yX10_isOutlet ∈ zW := zW_in (i := 610) rfl rfl
set_option maxRecDepth 20000 in
theorem wd_612 : Cond.methodLink RX5 97 yX5_describeFlight ∈ zW := zW_in (i := 612) rfl rfl
set_option maxRecDepth 20000 in
theorem wd_614 : Cond.instanceMethod yX5_describeFlight ∈ zW := zW_in (i := 614) rfl rfl
set_option maxRecDepth 20000 in
theorem wd_615 : Cond.code yX5_describeFlight cX5_describeFlight 3 none ∈ zW := zW_in (i := 615) rfl rfl
set_option maxRecDepth 20000 in
theorem wd_622 : Cond.fieldLink RX10 10 "BaggageHandling" "tape" "LBaggageHandling$Tape;" ∈ zW := zW_in (i := 622) rfl rfl
set_option maxRecDepth 20000 in
theorem wd_623 : Cond.fieldLink RX10 21 "BaggageHandling" "reader" "LBaggageHandling$SetupReader;" ∈ zW := zW_in (i := 623) rfl rfl
set_option maxRecDepth 20000 in
theorem wd_624 : Cond.fieldLink RX10 28 "BaggageHandling" "text" "LBaggageHandling$Text;" ∈ zW := zW_in (i := 624) rfl rfl
set_option maxRecDepth 20000 in
theorem wd_625 : Cond.fieldLink RX10 47 "BaggageHandling" "world" "LBaggageHandling$World;" ∈ zW := zW_in (i := 625) rfl rfl
set_option maxRecDepth 20000 in
theorem wd_626 : Cond.fieldLink RX10 51 "BaggageHandling" "ahead" "LBaggageHandling$World;" ∈ zW := zW_in (i := 626) rfl rfl
set_option maxRecDepth 20000 in
theorem wd_627 : Cond.fieldLink RX10 57 "BaggageHandling" "history" "LBaggageHandling$History;" ∈ zW := zW_in (i := 627) rfl rfl
set_option maxRecDepth 20000 in
theorem wd_628 : Cond.fieldLink RX10 35 "BaggageHandling" "setup" "LBaggageHandling$Setup;" ∈ zW := zW_in (i := 628) rfl rfl
set_option maxRecDepth 20000 in
theorem wd_629 : Cond.fieldLink RX10 39 "BaggageHandling" "spare" "LBaggageHandling$Setup;" ∈ zW := zW_in (i := 629) rfl rfl
set_option maxRecDepth 20000 in
theorem wd_630 : Cond.fieldLink RX10 61 "BaggageHandling" "errorAt" "I" ∈ zW := zW_in (i := 630) rfl rfl
set_option maxRecDepth 20000 in
theorem wd_654 : Cond.methodLink RX10 72 yX7_addWord ∈ zW := zW_in (i := 654) rfl rfl
set_option maxRecDepth 20000 in
theorem wd_655 : Cond.instanceMethod yX7_addWord ∈ zW := zW_in (i := 655) rfl rfl
set_option maxRecDepth 20000 in
theorem wd_656 : Cond.selects RX7 yX7_addWord yX7_addWord ∈ zW := zW_in (i := 656) rfl rfl
set_option maxRecDepth 20000 in
theorem wd_657 : Cond.code yX7_addWord cX7_addWord 3 none ∈ zW := zW_in (i := 657) rfl rfl
set_option maxRecDepth 20000 in
theorem wd_666 : Cond.methodLink RX10 76 yX6_readInto ∈ zW := zW_in (i := 666) rfl rfl
set_option maxRecDepth 20000 in
theorem wd_667 : Cond.instanceMethod yX6_readInto ∈ zW := zW_in (i := 667) rfl rfl
set_option maxRecDepth 20000 in
theorem wd_668 : Cond.selects RX6 yX6_readInto yX6_readInto ∈ zW := zW_in (i := 668) rfl rfl
set_option maxRecDepth 20000 in
theorem wd_669 : Cond.code yX6_readInto cX6_readInto 3 (some .boolean) ∈ zW := zW_in (i := 669) rfl rfl
set_option maxRecDepth 20000 in
theorem wd_670 : Cond.methodLink RX6 19 yX5_clear ∈ zW := zW_in (i := 670) rfl rfl
set_option maxRecDepth 20000 in
theorem wd_671 : Cond.methodLink RX6 24 yX7_findToken ∈ zW := zW_in (i := 671) rfl rfl
set_option maxRecDepth 20000 in
theorem wd_672 : Cond.instanceMethod yX7_findToken ∈ zW := zW_in (i := 672) rfl rfl
set_option maxRecDepth 20000 in
theorem wd_673 : Cond.selects RX7 yX7_findToken yX7_findToken ∈ zW := zW_in (i := 673) rfl rfl
set_option maxRecDepth 20000 in
theorem wd_674 : Cond.code yX7_findToken cX7_findToken 5 none ∈ zW := zW_in (i := 674) rfl rfl
set_option maxRecDepth 20000 in
theorem wd_676 : Cond.methodLink RX6 32 yX7_takeNamed ∈ zW := zW_in (i := 676) rfl rfl
set_option maxRecDepth 20000 in
theorem wd_677 : Cond.instanceMethod yX7_takeNamed ∈ zW := zW_in (i := 677) rfl rfl
set_option maxRecDepth 20000 in
theorem wd_678 : Cond.selects RX7 yX7_takeNamed yX7_takeNamed ∈ zW := zW_in (i := 678) rfl rfl
set_option maxRecDepth 20000 in
theorem wd_679 : Cond.code yX7_takeNamed cX7_takeNamed 4 (some .int) ∈ zW := zW_in (i := 679) rfl rfl
set_option maxRecDepth 20000 in
theorem wd_680 : Cond.methodLink RX7 37 yX7_isAtWord ∈ zW := zW_in (i := 680) rfl rfl
set_option maxRecDepth 20000 in
theorem wd_681 : Cond.instanceMethod yX7_isAtWord ∈ zW := zW_in (i := 681) rfl rfl
set_option maxRecDepth 20000 in
theorem wd_682 : Cond.selects RX7 yX7_isAtWord yX7_isAtWord ∈ zW := zW_in (i := 682) rfl rfl
set_option maxRecDepth 20000 in
theorem wd_683 : Cond.code yX7_isAtWord cX7_isAtWord 3 (some .boolean) ∈ zW := zW_in (i := 683) rfl rfl
set_option maxRecDepth 20000 in
theorem wd_684 : Cond.methodLink RX7 28 yJ0_length_8abf5 ∈ zW := zW_in (i := 684) rfl rfl
set_option maxRecDepth 20000 in
theorem wd_685 : Cond.methodLink RX7 33 yJ0_charAt_5068e ∈ zW := zW_in (i := 685) rfl rfl
set_option maxRecDepth 20000 in
theorem wd_686 : Cond.methodLink RX7 41 yX7_findToken ∈ zW := zW_in (i := 686) rfl rfl
set_option maxRecDepth 20000 in
theorem wd_687 : Cond.methodLink RX7 45 yX7_takeValue ∈ zW := zW_in (i := 687) rfl rfl
set_option maxRecDepth 20000 in
theorem wd_688 : Cond.instanceMethod yX7_takeValue ∈ zW := zW_in (i := 688) rfl rfl
set_option maxRecDepth 20000 in
theorem wd_689 : Cond.selects RX7 yX7_takeValue yX7_takeValue ∈ zW := zW_in (i := 689) rfl rfl
set_option maxRecDepth 20000 in
theorem wd_690 : Cond.code yX7_takeValue cX7_takeValue 4 (some .int) ∈ zW := zW_in (i := 690) rfl rfl
set_option maxRecDepth 20000 in
theorem wd_692 : Cond.methodLink RX6 42 yX7_takeWord ∈ zW := zW_in (i := 692) rfl rfl
set_option maxRecDepth 20000 in
theorem wd_693 : Cond.instanceMethod yX7_takeWord ∈ zW := zW_in (i := 693) rfl rfl
set_option maxRecDepth 20000 in
theorem wd_694 : Cond.selects RX7 yX7_takeWord yX7_takeWord ∈ zW := zW_in (i := 694) rfl rfl
set_option maxRecDepth 20000 in
theorem wd_695 : Cond.code yX7_takeWord cX7_takeWord 3 (some .boolean) ∈ zW := zW_in (i := 695) rfl rfl
set_option maxRecDepth 20000 in
theorem wd_696 : Cond.methodLink RX6 46 yX6_readDevices ∈ zW := zW_in (i := 696) rfl rfl
set_option maxRecDepth 20000 in
theorem wd_698 : Cond.instanceMethod yX6_readDevices ∈ zW := zW_in (i := 698) rfl rfl
set_option maxRecDepth 20000 in
theorem wd_699 : Cond.code yX6_readDevices cX6_readDevices 3 (some .boolean) ∈ zW := zW_in (i := 699) rfl rfl
set_option maxRecDepth 20000 in
theorem wd_700 : Cond.methodLink RX6 65 yX6_sortOfToken ∈ zW := zW_in (i := 700) rfl rfl
set_option maxRecDepth 20000 in
theorem wd_702 : Cond.instanceMethod yX6_sortOfToken ∈ zW := zW_in (i := 702) rfl rfl
set_option maxRecDepth 20000 in
theorem wd_703 : Cond.code yX6_sortOfToken cX6_sortOfToken 2 (some .int) ∈ zW := zW_in (i := 703) rfl rfl
set_option maxRecDepth 20000 in
theorem wd_705 : Cond.methodLink RX6 87 yX7_isAtWord ∈ zW := zW_in (i := 705) rfl rfl
set_option maxRecDepth 20000 in
theorem wd_708 : Cond.methodLink RX6 79 yX6_readDevice ∈ zW := zW_in (i := 708) rfl rfl
set_option maxRecDepth 20000 in
theorem wd_710 : Cond.instanceMethod yX6_readDevice ∈ zW := zW_in (i := 710) rfl rfl
set_option maxRecDepth 20000 in
theorem wd_711 : Cond.code yX6_readDevice cX6_readDevice 3 (some .boolean) ∈ zW := zW_in (i := 711) rfl rfl
set_option maxRecDepth 20000 in
theorem wd_712 : Cond.methodLink RX6 90 yX6_readFreePosition ∈ zW := zW_in (i := 712) rfl rfl
set_option maxRecDepth 20000 in
theorem wd_714 : Cond.instanceMethod yX6_readFreePosition ∈ zW := zW_in (i := 714) rfl rfl
set_option maxRecDepth 20000 in
theorem wd_715 : Cond.code yX6_readFreePosition cX6_readFreePosition 2 (some .int) ∈ zW := zW_in (i := 715) rfl rfl
set_option maxRecDepth 20000 in
theorem wd_716 : Cond.methodLink RX6 118 yX5_hasPosition ∈ zW := zW_in (i := 716) rfl rfl
set_option maxRecDepth 20000 in
theorem wd_717 : Cond.instanceMethod yX5_hasPosition ∈ zW := zW_in (i := 717) rfl rfl
set_option maxRecDepth 20000 in
theorem wd_718 : Cond.selects RX5 yX5_hasPosition yX5_hasPosition ∈ zW := zW_in (i := 718) rfl rfl
set_option maxRecDepth 20000 in
theorem wd_719 : Cond.code yX5_hasPosition cX5_hasPosition 2 (some .boolean) ∈ zW := zW_in (i := 719) rfl rfl
set_option maxRecDepth 20000 in
theorem wd_720 : Cond.methodLink RX6 93 yX5_addDevice ∈ zW := zW_in (i := 720) rfl rfl
set_option maxRecDepth 20000 in
theorem wd_721 : Cond.instanceMethod yX5_addDevice ∈ zW := zW_in (i := 721) rfl rfl
set_option maxRecDepth 20000 in
theorem wd_722 : Cond.selects RX5 yX5_addDevice yX5_addDevice ∈ zW := zW_in (i := 722) rfl rfl
set_option maxRecDepth 20000 in
theorem wd_723 : Cond.code yX5_addDevice cX5_addDevice 4 none ∈ zW := zW_in (i := 723) rfl rfl
set_option maxRecDepth 20000 in
theorem wd_725 : Cond.methodLink RX6 100 yX6_readDiverter ∈ zW := zW_in (i := 725) rfl rfl
set_option maxRecDepth 20000 in
theorem wd_727 : Cond.instanceMethod yX6_readDiverter ∈ zW := zW_in (i := 727) rfl rfl
set_option maxRecDepth 20000 in
theorem wd_728 : Cond.code yX6_readDiverter cX6_readDiverter 4 (some .boolean) ∈ zW := zW_in (i := 728) rfl rfl
set_option maxRecDepth 20000 in
theorem wd_731 : Cond.methodLink RX6 103 yX6_readLevelTimes ∈ zW := zW_in (i := 731) rfl rfl
set_option maxRecDepth 20000 in
theorem wd_733 : Cond.instanceMethod yX6_readLevelTimes ∈ zW := zW_in (i := 733) rfl rfl
set_option maxRecDepth 20000 in
theorem wd_734 : Cond.code yX6_readLevelTimes cX6_readLevelTimes 4 (some .boolean) ∈ zW := zW_in (i := 734) rfl rfl
set_option maxRecDepth 20000 in
theorem wd_736 : Cond.methodLink RX6 136 yX7_takeValue ∈ zW := zW_in (i := 736) rfl rfl
set_option maxRecDepth 20000 in
theorem wd_737 : Cond.methodLink RX6 106 yX6_readWorkingTime ∈ zW := zW_in (i := 737) rfl rfl
set_option maxRecDepth 20000 in
theorem wd_739 : Cond.instanceMethod yX6_readWorkingTime ∈ zW := zW_in (i := 739) rfl rfl
set_option maxRecDepth 20000 in
theorem wd_740 : Cond.code yX6_readWorkingTime cX6_readWorkingTime 3 (some .boolean) ∈ zW := zW_in (i := 740) rfl rfl
set_option maxRecDepth 20000 in
theorem wd_743 : Cond.methodLink RX6 112 yX6_readExit ∈ zW := zW_in (i := 743) rfl rfl
set_option maxRecDepth 20000 in
theorem wd_745 : Cond.instanceMethod yX6_readExit ∈ zW := zW_in (i := 745) rfl rfl
set_option maxRecDepth 20000 in
theorem wd_746 : Cond.code yX6_readExit cX6_readExit 3 (some .boolean) ∈ zW := zW_in (i := 746) rfl rfl
set_option maxRecDepth 20000 in
theorem wd_748 : Cond.methodLink RX6 50 yX6_readFlights ∈ zW := zW_in (i := 748) rfl rfl
set_option maxRecDepth 20000 in
theorem wd_750 : Cond.instanceMethod yX6_readFlights ∈ zW := zW_in (i := 750) rfl rfl
set_option maxRecDepth 20000 in
theorem wd_751 : Cond.code yX6_readFlights cX6_readFlights 2 (some .boolean) ∈ zW := zW_in (i := 751) rfl rfl
set_option maxRecDepth 20000 in
theorem wd_753 : Cond.methodLink RX6 161 yX6_readFlight ∈ zW := zW_in (i := 753) rfl rfl
set_option maxRecDepth 20000 in
theorem wd_755 : Cond.instanceMethod yX6_readFlight ∈ zW := zW_in (i := 755) rfl rfl
set_option maxRecDepth 20000 in
theorem wd_756 : Cond.code yX6_readFlight cX6_readFlight 5 (some .boolean) ∈ zW := zW_in (i := 756) rfl rfl
set_option maxRecDepth 20000 in
theorem wd_758 : Cond.methodLink RX6 168 yX1_ofLabel ∈ zW := zW_in (i := 758) rfl rfl
set_option maxRecDepth 20000 in
theorem wd_759 : Cond.instanceMethod yX1_ofLabel ∈ zW := zW_in (i := 759) rfl rfl
set_option maxRecDepth 20000 in
theorem wd_760 : Cond.selects RX1 yX1_ofLabel yX1_ofLabel ∈ zW := zW_in (i := 760) rfl rfl
set_option maxRecDepth 20000 in
theorem wd_761 : Cond.code yX1_ofLabel cX1_ofLabel 4 (some .int) ∈ zW := zW_in (i := 761) rfl rfl
set_option maxRecDepth 20000 in
theorem wd_764 : Cond.constant RX6 176 99998 ∈ zW := zW_in (i := 764) rfl rfl
set_option maxRecDepth 20000 in
theorem wd_766 : Cond.constant RX6 179 99999 ∈ zW := zW_in (i := 766) rfl rfl
set_option maxRecDepth 20000 in
theorem wd_767 : Cond.methodLink RX6 180 yX1_add ∈ zW := zW_in (i := 767) rfl rfl
set_option maxRecDepth 20000 in
theorem wd_768 : Cond.instanceMethod yX1_add ∈ zW := zW_in (i := 768) rfl rfl
set_option maxRecDepth 20000 in
theorem wd_769 : Cond.selects RX1 yX1_add yX1_add ∈ zW := zW_in (i := 769) rfl rfl
set_option maxRecDepth 20000 in
theorem wd_770 : Cond.code yX1_add cX1_add 5 none ∈ zW := zW_in (i := 770) rfl rfl
set_option maxRecDepth 20000 in
theorem wd_771 : Cond.methodLink RX6 53 yX6_readWindow ∈ zW := zW_in (i := 771) rfl rfl
set_option maxRecDepth 20000 in
theorem wd_773 : Cond.instanceMethod yX6_readWindow ∈ zW := zW_in (i := 773) rfl rfl
set_option maxRecDepth 20000 in
theorem wd_774 : Cond.code yX6_readWindow cX6_readWindow 1 (some .boolean) ∈ zW := zW_in (i := 774) rfl rfl
set_option maxRecDepth 20000 in
theorem wd_776 : Cond.methodLink RX6 56 yX6_readPassLimit ∈ zW := zW_in (i := 776) rfl rfl
set_option maxRecDepth 20000 in
theorem wd_778 : Cond.instanceMethod yX6_readPassLimit ∈ zW := zW_in (i := 778) rfl rfl
set_option maxRecDepth 20000 in
theorem wd_779 : Cond.code yX6_readPassLimit cX6_readPassLimit 1 (some .boolean) ∈ zW := zW_in (i := 779) rfl rfl
set_option maxRecDepth 20000 in
theorem wd_781 : Cond.methodLink RX6 59 yX5_listBusyPositions ∈ zW := zW_in (i := 781) rfl rfl
set_option maxRecDepth 20000 in
theorem wd_782 : Cond.instanceMethod yX5_listBusyPositions ∈ zW := zW_in (i := 782) rfl rfl
set_option maxRecDepth 20000 in
theorem wd_783 : Cond.selects RX5 yX5_listBusyPositions yX5_listBusyPositions ∈ zW := zW_in (i := 783) rfl rfl
set_option maxRecDepth 20000 in
theorem wd_784 : Cond.code yX5_listBusyPositions cX5_listBusyPositions 2 none ∈ zW := zW_in (i := 784) rfl rfl
set_option maxRecDepth 20000 in
theorem wd_785 : Cond.methodLink RX6 62 yX7_isAtEnd ∈ zW := zW_in (i := 785) rfl rfl
set_option maxRecDepth 20000 in
theorem wd_786 : Cond.instanceMethod yX7_isAtEnd ∈ zW := zW_in (i := 786) rfl rfl
set_option maxRecDepth 20000 in
theorem wd_787 : Cond.selects RX7 yX7_isAtEnd yX7_isAtEnd ∈ zW := zW_in (i := 787) rfl rfl
set_option maxRecDepth 20000 in
theorem wd_788 : Cond.code yX7_isAtEnd cX7_isAtEnd 1 (some .boolean) ∈ zW := zW_in (i := 788) rfl rfl
set_option maxRecDepth 20000 in
theorem wd_789 : Cond.methodLink RX10 83 yX9_begin ∈ zW := zW_in (i := 789) rfl rfl
set_option maxRecDepth 20000 in
theorem wd_790 : Cond.methodLink RX10 86 yX2_forget ∈ zW := zW_in (i := 790) rfl rfl
set_option maxRecDepth 20000 in
theorem wd_791 : Cond.instanceMethod yX2_forget ∈ zW := zW_in (i := 791) rfl rfl
set_option maxRecDepth 20000 in
theorem wd_792 : Cond.selects RX2 yX2_forget yX2_forget ∈ zW := zW_in (i := 792) rfl rfl
set_option maxRecDepth 20000 in
theorem wd_793 : Cond.code yX2_forget cX2_forget 1 none ∈ zW := zW_in (i := 793) rfl rfl
set_option maxRecDepth 20000 in
theorem wd_806 : Cond.methodLink RX10 92 yX5_hasPosition ∈ zW := zW_in (i := 806) rfl rfl
set_option maxRecDepth 20000 in
theorem wd_819 : Cond.methodLink RX10 112 yX1_has ∈ zW := zW_in (i := 819) rfl rfl
set_option maxRecDepth 20000 in
theorem wd_820 : Cond.instanceMethod yX1_has ∈ zW := zW_in (i := 820) rfl rfl
set_option maxRecDepth 20000 in
theorem wd_821 : Cond.selects RX1 yX1_has yX1_has ∈ zW := zW_in (i := 821) rfl rfl
set_option maxRecDepth 20000 in
theorem wd_822 : Cond.code yX1_has cX1_has 2 (some .boolean) ∈ zW := zW_in (i := 822) rfl rfl
set_option maxRecDepth 20000 in
theorem wd_831 : Cond.methodLink RX10 127 yX5_placeOf ∈ zW := zW_in (i := 831) rfl rfl
set_option maxRecDepth 20000 in
theorem wd_832 : Cond.instanceMethod yX5_placeOf ∈ zW := zW_in (i := 832) rfl rfl
set_option maxRecDepth 20000 in
theorem wd_833 : Cond.selects RX5 yX5_placeOf yX5_placeOf ∈ zW := zW_in (i := 833) rfl rfl
set_option maxRecDepth 20000 in
theorem wd_834 : Cond.code yX5_placeOf cX5_placeOf 3 (some .int) ∈ zW := zW_in (i := 834) rfl rfl
set_option maxRecDepth 20000 in
theorem wd_835 : Cond.methodLink RX10 131 yX10_isLabel ∈ zW := zW_in (i := 835) rfl rfl
set_option maxRecDepth 20000 in
theorem wd_836 : Cond.static yX10_isLabel ∈ zW := zW_in (i := 836) rfl rfl
set_option maxRecDepth 20000 in
theorem wd_837 : Cond.code yX10_isLabel cX10_isLabel 1 (some .boolean) ∈ zW := zW_in (i := 837) rfl rfl
set_option maxRecDepth 20000 in
theorem wd_838 : Cond.constant RX10 277 999999 ∈ zW := zW_in (i := 838) rfl rfl
set_option maxRecDepth 20000 in
theorem wd_839 : Cond.methodLink RX10 145 yX2_save ∈ zW := zW_in (i := 839) rfl rfl
set_option maxRecDepth 20000 in
theorem wd_840 : Cond.instanceMethod yX2_save ∈ zW := zW_in (i := 840) rfl rfl
set_option maxRecDepth 20000 in
theorem wd_841 : Cond.selects RX2 yX2_save yX2_save ∈ zW := zW_in (i := 841) rfl rfl
set_option maxRecDepth 20000 in
theorem wd_842 : Cond.code yX2_save cX2_save 3 none ∈ zW := zW_in (i := 842) rfl rfl
set_option maxRecDepth 20000 in
theorem wd_843 : Cond.methodLink RX2 27 yX9_copyFrom ∈ zW := zW_in (i := 843) rfl rfl
set_option maxRecDepth 20000 in
theorem wd_844 : Cond.instanceMethod yX9_copyFrom ∈ zW := zW_in (i := 844) rfl rfl
set_option maxRecDepth 20000 in
theorem wd_845 : Cond.selects RX9 yX9_copyFrom yX9_copyFrom ∈ zW := zW_in (i := 845) rfl rfl
set_option maxRecDepth 20000 in
theorem wd_846 : Cond.code yX9_copyFrom cX9_copyFrom 2 none ∈ zW := zW_in (i := 846) rfl rfl
set_option maxRecDepth 20000 in
theorem wd_847 : Cond.methodLink RX9 84 arraycopyName ∈ zW := zW_in (i := 847) rfl rfl
set_option maxRecDepth 20000 in
theorem wd_848 : Cond.static arraycopyName ∈ zW := zW_in (i := 848) rfl rfl
set_option maxRecDepth 20000 in
theorem wd_849 : Cond.native arraycopyName ∈ zW := zW_in (i := 849) rfl rfl
set_option maxRecDepth 20000 in
theorem wd_850 : Cond.methodLink RX9 90 yX4_copyFrom ∈ zW := zW_in (i := 850) rfl rfl
set_option maxRecDepth 20000 in
theorem wd_851 : Cond.instanceMethod yX4_copyFrom ∈ zW := zW_in (i := 851) rfl rfl
set_option maxRecDepth 20000 in
theorem wd_852 : Cond.selects RX4 yX4_copyFrom yX4_copyFrom ∈ zW := zW_in (i := 852) rfl rfl
set_option maxRecDepth 20000 in
theorem wd_853 : Cond.code yX4_copyFrom cX4_copyFrom 2 none ∈ zW := zW_in (i := 853) rfl rfl
set_option maxRecDepth 20000 in
theorem wd_854 : Cond.methodLink RX4 33 arraycopyName ∈ zW := zW_in (i := 854) rfl rfl
set_option maxRecDepth 20000 in
theorem wd_855 : Cond.methodLink RX9 94 yX3_copyFrom ∈ zW := zW_in (i := 855) rfl rfl
set_option maxRecDepth 20000 in
theorem wd_856 : Cond.instanceMethod yX3_copyFrom ∈ zW := zW_in (i := 856) rfl rfl
set_option maxRecDepth 20000 in
theorem wd_857 : Cond.selects RX3 yX3_copyFrom yX3_copyFrom ∈ zW := zW_in (i := 857) rfl rfl
set_option maxRecDepth 20000 in
theorem wd_858 : Cond.code yX3_copyFrom cX3_copyFrom 2 none ∈ zW := zW_in (i := 858) rfl rfl
set_option maxRecDepth 20000 in
theorem wd_859 : Cond.methodLink RX3 24 arraycopyName ∈ zW := zW_in (i := 859) rfl rfl
set_option maxRecDepth 20000 in
theorem wd_860 : Cond.methodLink RX9 97 yX0_copyFrom ∈ zW := zW_in (i := 860) rfl rfl
set_option maxRecDepth 20000 in
theorem wd_861 : Cond.instanceMethod yX0_copyFrom ∈ zW := zW_in (i := 861) rfl rfl
set_option maxRecDepth 20000 in
theorem wd_862 : Cond.selects RX0 yX0_copyFrom yX0_copyFrom ∈ zW := zW_in (i := 862) rfl rfl
set_option maxRecDepth 20000 in
theorem wd_863 : Cond.code yX0_copyFrom cX0_copyFrom 2 none ∈ zW := zW_in (i := 863) rfl rfl
set_option maxRecDepth 20000 in
theorem wd_864 : Cond.methodLink RX0 43 arraycopyName ∈ zW := zW_in (i := 864) rfl rfl
set_option maxRecDepth 20000 in
theorem wd_865 : Cond.methodLink RX2 31 yJ9_min_7cf53 ∈ zW := zW_in (i := 865) rfl rfl
set_option maxRecDepth 20000 in
theorem wd_866 : Cond.static yJ9_min_7cf53 ∈ zW := zW_in (i := 866) rfl rfl
set_option maxRecDepth 20000 in
theorem wd_867 : Cond.code yJ9_min_7cf53 cJ9_min_7cf53 2 (some .int) ∈ zW := zW_in (i := 867) rfl rfl
set_option maxRecDepth 20000 in
theorem wd_868 : Cond.methodLink RX10 149 yX9_addBag ∈ zW := zW_in (i := 868) rfl rfl
set_option maxRecDepth 20000 in
theorem wd_869 : Cond.instanceMethod yX9_addBag ∈ zW := zW_in (i := 869) rfl rfl
set_option maxRecDepth 20000 in
theorem wd_870 : Cond.selects RX9 yX9_addBag yX9_addBag ∈ zW := zW_in (i := 870) rfl rfl
set_option maxRecDepth 20000 in
theorem wd_871 : Cond.code yX9_addBag cX9_addBag 3 (some .int) ∈ zW := zW_in (i := 871) rfl rfl
set_option maxRecDepth 20000 in
theorem wd_872 : Cond.methodLink RX9 109 yX5_hasPosition ∈ zW := zW_in (i := 872) rfl rfl
set_option maxRecDepth 20000 in
theorem wd_873 : Cond.methodLink RX9 116 yX0_put ∈ zW := zW_in (i := 873) rfl rfl
set_option maxRecDepth 20000 in
theorem wd_874 : Cond.instanceMethod yX0_put ∈ zW := zW_in (i := 874) rfl rfl
set_option maxRecDepth 20000 in
theorem wd_875 : Cond.selects RX0 yX0_put yX0_put ∈ zW := zW_in (i := 875) rfl rfl
set_option maxRecDepth 20000 in
theorem wd_876 : Cond.code yX0_put cX0_put 4 none ∈ zW := zW_in (i := 876) rfl rfl
set_option maxRecDepth 20000 in
theorem wd_877 : Cond.methodLink RX9 120 yX4_makeAt ∈ zW := zW_in (i := 877) rfl rfl
set_option maxRecDepth 20000 in
theorem wd_878 : Cond.instanceMethod yX4_makeAt ∈ zW := zW_in (i := 878) rfl rfl
set_option maxRecDepth 20000 in
theorem wd_879 : Cond.selects RX4 yX4_makeAt yX4_makeAt ∈ zW := zW_in (i := 879) rfl rfl
set_option maxRecDepth 20000 in
theorem wd_880 : Cond.code yX4_makeAt cX4_makeAt 2 none ∈ zW := zW_in (i := 880) rfl rfl
set_option maxRecDepth 20000 in
theorem wd_881 : Cond.methodLink RX9 123 yX3_add ∈ zW := zW_in (i := 881) rfl rfl
set_option maxRecDepth 20000 in
theorem wd_882 : Cond.instanceMethod yX3_add ∈ zW := zW_in (i := 882) rfl rfl
set_option maxRecDepth 20000 in
theorem wd_883 : Cond.selects RX3 yX3_add yX3_add ∈ zW := zW_in (i := 883) rfl rfl
set_option maxRecDepth 20000 in
theorem wd_884 : Cond.code yX3_add cX3_add 4 none ∈ zW := zW_in (i := 884) rfl rfl
set_option maxRecDepth 20000 in
theorem wd_885 : Cond.methodLink RX10 153 yX0_describe ∈ zW := zW_in (i := 885) rfl rfl
set_option maxRecDepth 20000 in
theorem wd_886 : Cond.instanceMethod yX0_describe ∈ zW := zW_in (i := 886) rfl rfl
set_option maxRecDepth 20000 in
theorem wd_887 : Cond.selects RX0 yX0_describe yX0_describe ∈ zW := zW_in (i := 887) rfl rfl
set_option maxRecDepth 20000 in
theorem wd_888 : Cond.code yX0_describe cX0_describe 7 none ∈ zW := zW_in (i := 888) rfl rfl
set_option maxRecDepth 20000 in
theorem wd_889 : Cond.methodLink RX0 49 yX0_has ∈ zW := zW_in (i := 889) rfl rfl
set_option maxRecDepth 20000 in
theorem wd_890 : Cond.instanceMethod yX0_has ∈ zW := zW_in (i := 890) rfl rfl
set_option maxRecDepth 20000 in
theorem wd_891 : Cond.selects RX0 yX0_has yX0_has ∈ zW := zW_in (i := 891) rfl rfl
set_option maxRecDepth 20000 in
theorem wd_892 : Cond.code yX0_has cX0_has 2 (some .boolean) ∈ zW := zW_in (i := 892) rfl rfl
set_option maxRecDepth 20000 in
theorem wd_897 : Cond.constant RX10 156 100000 ∈ zW := zW_in (i := 897) rfl rfl
set_option maxRecDepth 20000 in
theorem wd_898 : Cond.methodLink RX10 157 yX9_deliveriesWithin ∈ zW := zW_in (i := 898) rfl rfl
set_option maxRecDepth 20000 in
theorem wd_899 : Cond.instanceMethod yX9_deliveriesWithin ∈ zW := zW_in (i := 899) rfl rfl
set_option maxRecDepth 20000 in
theorem wd_900 : Cond.selects RX9 yX9_deliveriesWithin yX9_deliveriesWithin ∈ zW := zW_in (i := 900) rfl rfl
set_option maxRecDepth 20000 in
theorem wd_901 : Cond.code yX9_deliveriesWithin cX9_deliveriesWithin 4 (some .int) ∈ zW := zW_in (i := 901) rfl rfl
set_option maxRecDepth 20000 in
theorem wd_902 : Cond.methodLink RX9 130 yX9_step ∈ zW := zW_in (i := 902) rfl rfl
set_option maxRecDepth 20000 in
theorem wd_903 : Cond.instanceMethod yX9_step ∈ zW := zW_in (i := 903) rfl rfl
set_option maxRecDepth 20000 in
theorem wd_904 : Cond.selects RX9 yX9_step yX9_step ∈ zW := zW_in (i := 904) rfl rfl
set_option maxRecDepth 20000 in
theorem wd_905 : Cond.code yX9_step cX9_step 5 none ∈ zW := zW_in (i := 905) rfl rfl
set_option maxRecDepth 20000 in
theorem wd_906 : Cond.methodLink RX9 105 yX9_wrapped ∈ zW := zW_in (i := 906) rfl rfl
set_option maxRecDepth 20000 in
theorem wd_907 : Cond.instanceMethod yX9_wrapped ∈ zW := zW_in (i := 907) rfl rfl
set_option maxRecDepth 20000 in
theorem wd_908 : Cond.selects RX9 yX9_wrapped yX9_wrapped ∈ zW := zW_in (i := 908) rfl rfl
set_option maxRecDepth 20000 in
theorem wd_909 : Cond.code yX9_wrapped cX9_wrapped 2 (some .int) ∈ zW := zW_in (i := 909) rfl rfl
set_option maxRecDepth 20000 in
theorem wd_910 : Cond.methodLink RX9 147 yX9_workStation ∈ zW := zW_in (i := 910) rfl rfl
set_option maxRecDepth 20000 in
theorem wd_912 : Cond.instanceMethod yX9_workStation ∈ zW := zW_in (i := 912) rfl rfl
set_option maxRecDepth 20000 in
theorem wd_913 : Cond.code yX9_workStation cX9_workStation 4 none ∈ zW := zW_in (i := 913) rfl rfl
set_option maxRecDepth 20000 in
theorem wd_914 : Cond.methodLink RX9 186 yX3_takeFirst ∈ zW := zW_in (i := 914) rfl rfl
set_option maxRecDepth 20000 in
theorem wd_915 : Cond.instanceMethod yX3_takeFirst ∈ zW := zW_in (i := 915) rfl rfl
set_option maxRecDepth 20000 in
theorem wd_916 : Cond.selects RX3 yX3_takeFirst yX3_takeFirst ∈ zW := zW_in (i := 916) rfl rfl
set_option maxRecDepth 20000 in
theorem wd_917 : Cond.code yX3_takeFirst cX3_takeFirst 3 (some .int) ∈ zW := zW_in (i := 917) rfl rfl
set_option maxRecDepth 20000 in
theorem wd_918 : Cond.methodLink RX3 36 yX3_takeBehind ∈ zW := zW_in (i := 918) rfl rfl
set_option maxRecDepth 20000 in
theorem wd_919 : Cond.instanceMethod yX3_takeBehind ∈ zW := zW_in (i := 919) rfl rfl
set_option maxRecDepth 20000 in
theorem wd_920 : Cond.selects RX3 yX3_takeBehind yX3_takeBehind ∈ zW := zW_in (i := 920) rfl rfl
set_option maxRecDepth 20000 in
theorem wd_921 : Cond.code yX3_takeBehind cX3_takeBehind 5 none ∈ zW := zW_in (i := 921) rfl rfl
set_option maxRecDepth 20000 in
theorem wd_922 : Cond.methodLink RX9 189 yX9_usableLabel ∈ zW := zW_in (i := 922) rfl rfl
set_option maxRecDepth 20000 in
theorem wd_923 : Cond.instanceMethod yX9_usableLabel ∈ zW := zW_in (i := 923) rfl rfl
set_option maxRecDepth 20000 in
theorem wd_924 : Cond.selects RX9 yX9_usableLabel yX9_usableLabel ∈ zW := zW_in (i := 924) rfl rfl
set_option maxRecDepth 20000 in
theorem wd_925 : Cond.code yX9_usableLabel cX9_usableLabel 5 (some .int) ∈ zW := zW_in (i := 925) rfl rfl
set_option maxRecDepth 20000 in
theorem wd_926 : Cond.methodLink RX9 214 yX1_ofLabel ∈ zW := zW_in (i := 926) rfl rfl
set_option maxRecDepth 20000 in
theorem wd_927 : Cond.methodLink RX9 192 yX9_setAside ∈ zW := zW_in (i := 927) rfl rfl
set_option maxRecDepth 20000 in
theorem wd_928 : Cond.instanceMethod yX9_setAside ∈ zW := zW_in (i := 928) rfl rfl
set_option maxRecDepth 20000 in
theorem wd_929 : Cond.selects RX9 yX9_setAside yX9_setAside ∈ zW := zW_in (i := 929) rfl rfl
set_option maxRecDepth 20000 in
theorem wd_930 : Cond.code yX9_setAside cX9_setAside 2 none ∈ zW := zW_in (i := 930) rfl rfl
set_option maxRecDepth 20000 in
theorem wd_931 : Cond.methodLink RX9 127 yX4_removeAt ∈ zW := zW_in (i := 931) rfl rfl
set_option maxRecDepth 20000 in
theorem wd_932 : Cond.instanceMethod yX4_removeAt ∈ zW := zW_in (i := 932) rfl rfl
set_option maxRecDepth 20000 in
theorem wd_933 : Cond.selects RX4 yX4_removeAt yX4_removeAt ∈ zW := zW_in (i := 933) rfl rfl
set_option maxRecDepth 20000 in
theorem wd_934 : Cond.code yX4_removeAt cX4_removeAt 2 none ∈ zW := zW_in (i := 934) rfl rfl
set_option maxRecDepth 20000 in
theorem wd_935 : Cond.methodLink RX9 201 yX9_sendToExit ∈ zW := zW_in (i := 935) rfl rfl
set_option maxRecDepth 20000 in
theorem wd_937 : Cond.instanceMethod yX9_sendToExit ∈ zW := zW_in (i := 937) rfl rfl
set_option maxRecDepth 20000 in
theorem wd_938 : Cond.code yX9_sendToExit cX9_sendToExit 4 none ∈ zW := zW_in (i := 938) rfl rfl
set_option maxRecDepth 20000 in
theorem wd_939 : Cond.methodLink RX9 150 yX9_workScreen ∈ zW := zW_in (i := 939) rfl rfl
set_option maxRecDepth 20000 in
theorem wd_941 : Cond.instanceMethod yX9_workScreen ∈ zW := zW_in (i := 941) rfl rfl
set_option maxRecDepth 20000 in
theorem wd_942 : Cond.code yX9_workScreen cX9_workScreen 5 none ∈ zW := zW_in (i := 942) rfl rfl
set_option maxRecDepth 20000 in
theorem wd_943 : Cond.methodLink RX9 153 yX9_workStore ∈ zW := zW_in (i := 943) rfl rfl
set_option maxRecDepth 20000 in
theorem wd_945 : Cond.instanceMethod yX9_workStore ∈ zW := zW_in (i := 945) rfl rfl
set_option maxRecDepth 20000 in
theorem wd_946 : Cond.code yX9_workStore cX9_workStore 10 none ∈ zW := zW_in (i := 946) rfl rfl
set_option maxRecDepth 20000 in
theorem wd_947 : Cond.methodLink RX9 228 yX3_takeBehind ∈ zW := zW_in (i := 947) rfl rfl
set_option maxRecDepth 20000 in
theorem wd_948 : Cond.methodLink RX9 162 yX9_slotAt ∈ zW := zW_in (i := 948) rfl rfl
set_option maxRecDepth 20000 in
theorem wd_949 : Cond.instanceMethod yX9_slotAt ∈ zW := zW_in (i := 949) rfl rfl
set_option maxRecDepth 20000 in
theorem wd_950 : Cond.selects RX9 yX9_slotAt yX9_slotAt ∈ zW := zW_in (i := 950) rfl rfl
set_option maxRecDepth 20000 in
theorem wd_951 : Cond.code yX9_slotAt cX9_slotAt 2 (some .int) ∈ zW := zW_in (i := 951) rfl rfl
set_option maxRecDepth 20000 in
theorem wd_952 : Cond.methodLink RX9 168 yX9_scan ∈ zW := zW_in (i := 952) rfl rfl
set_option maxRecDepth 20000 in
theorem wd_954 : Cond.instanceMethod yX9_scan ∈ zW := zW_in (i := 954) rfl rfl
set_option maxRecDepth 20000 in
theorem wd_955 : Cond.code yX9_scan cX9_scan 4 none ∈ zW := zW_in (i := 955) rfl rfl
set_option maxRecDepth 20000 in
theorem wd_956 : Cond.methodLink RX9 234 yX4_has ∈ zW := zW_in (i := 956) rfl rfl
set_option maxRecDepth 20000 in
theorem wd_957 : Cond.instanceMethod yX4_has ∈ zW := zW_in (i := 957) rfl rfl
set_option maxRecDepth 20000 in
theorem wd_958 : Cond.selects RX4 yX4_has yX4_has ∈ zW := zW_in (i := 958) rfl rfl
set_option maxRecDepth 20000 in
theorem wd_959 : Cond.code yX4_has cX4_has 2 (some .boolean) ∈ zW := zW_in (i := 959) rfl rfl
set_option maxRecDepth 20000 in
theorem wd_960 : Cond.methodLink RX9 239 yX9_findRecordFor ∈ zW := zW_in (i := 960) rfl rfl
set_option maxRecDepth 20000 in
theorem wd_962 : Cond.instanceMethod yX9_findRecordFor ∈ zW := zW_in (i := 962) rfl rfl
set_option maxRecDepth 20000 in
theorem wd_963 : Cond.code yX9_findRecordFor cX9_findRecordFor 3 none ∈ zW := zW_in (i := 963) rfl rfl
set_option maxRecDepth 20000 in
theorem wd_964 : Cond.methodLink RX9 248 yX9_loneNear ∈ zW := zW_in (i := 964) rfl rfl
set_option maxRecDepth 20000 in
theorem wd_966 : Cond.instanceMethod yX9_loneNear ∈ zW := zW_in (i := 966) rfl rfl
set_option maxRecDepth 20000 in
theorem wd_967 : Cond.code yX9_loneNear cX9_loneNear 6 (some .int) ∈ zW := zW_in (i := 967) rfl rfl
set_option maxRecDepth 20000 in
theorem wd_968 : Cond.methodLink RX9 255 yX9_isLone ∈ zW := zW_in (i := 968) rfl rfl
set_option maxRecDepth 20000 in
theorem wd_970 : Cond.instanceMethod yX9_isLone ∈ zW := zW_in (i := 970) rfl rfl
set_option maxRecDepth 20000 in
theorem wd_971 : Cond.code yX9_isLone cX9_isLone 5 (some .boolean) ∈ zW := zW_in (i := 971) rfl rfl
set_option maxRecDepth 20000 in
theorem wd_972 : Cond.methodLink RX9 235 yX4_moveIn ∈ zW := zW_in (i := 972) rfl rfl
set_option maxRecDepth 20000 in
theorem wd_973 : Cond.instanceMethod yX4_moveIn ∈ zW := zW_in (i := 973) rfl rfl
set_option maxRecDepth 20000 in
theorem wd_974 : Cond.selects RX4 yX4_moveIn yX4_moveIn ∈ zW := zW_in (i := 974) rfl rfl
set_option maxRecDepth 20000 in
theorem wd_975 : Cond.code yX4_moveIn cX4_moveIn 4 none ∈ zW := zW_in (i := 975) rfl rfl
set_option maxRecDepth 20000 in
theorem wd_976 : Cond.methodLink RX9 242 yX9_readLabels ∈ zW := zW_in (i := 976) rfl rfl
set_option maxRecDepth 20000 in
theorem wd_978 : Cond.instanceMethod yX9_readLabels ∈ zW := zW_in (i := 978) rfl rfl
set_option maxRecDepth 20000 in
theorem wd_979 : Cond.code yX9_readLabels cX9_readLabels 4 none ∈ zW := zW_in (i := 979) rfl rfl
set_option maxRecDepth 20000 in
theorem wd_980 : Cond.methodLink RX9 259 yX9_codeSeen ∈ zW := zW_in (i := 980) rfl rfl
set_option maxRecDepth 20000 in
theorem wd_982 : Cond.instanceMethod yX9_codeSeen ∈ zW := zW_in (i := 982) rfl rfl
set_option maxRecDepth 20000 in
theorem wd_983 : Cond.code yX9_codeSeen cX9_codeSeen 6 (some .int) ∈ zW := zW_in (i := 983) rfl rfl
set_option maxRecDepth 20000 in
theorem wd_984 : Cond.methodLink RX9 245 yX9_findBagFor ∈ zW := zW_in (i := 984) rfl rfl
set_option maxRecDepth 20000 in
theorem wd_986 : Cond.instanceMethod yX9_findBagFor ∈ zW := zW_in (i := 986) rfl rfl
set_option maxRecDepth 20000 in
theorem wd_987 : Cond.code yX9_findBagFor cX9_findBagFor 3 none ∈ zW := zW_in (i := 987) rfl rfl
set_option maxRecDepth 20000 in
theorem wd_989 : Cond.methodLink RX9 174 yX9_divert ∈ zW := zW_in (i := 989) rfl rfl
set_option maxRecDepth 20000 in
theorem wd_991 : Cond.instanceMethod yX9_divert ∈ zW := zW_in (i := 991) rfl rfl
set_option maxRecDepth 20000 in
theorem wd_992 : Cond.code yX9_divert cX9_divert 6 none ∈ zW := zW_in (i := 992) rfl rfl
set_option maxRecDepth 20000 in
theorem wd_993 : Cond.methodLink RX9 274 yX9_goalOf ∈ zW := zW_in (i := 993) rfl rfl
set_option maxRecDepth 20000 in
theorem wd_994 : Cond.instanceMethod yX9_goalOf ∈ zW := zW_in (i := 994) rfl rfl
set_option maxRecDepth 20000 in
theorem wd_995 : Cond.selects RX9 yX9_goalOf yX9_goalOf ∈ zW := zW_in (i := 995) rfl rfl
set_option maxRecDepth 20000 in
theorem wd_996 : Cond.code yX9_goalOf cX9_goalOf 5 (some .int) ∈ zW := zW_in (i := 996) rfl rfl
set_option maxRecDepth 20000 in
theorem wd_997 : Cond.methodLink RX9 286 yX9_deliver ∈ zW := zW_in (i := 997) rfl rfl
set_option maxRecDepth 20000 in
theorem wd_999 : Cond.instanceMethod yX9_deliver ∈ zW := zW_in (i := 999) rfl rfl
set_option maxRecDepth 20000 in
theorem wd_1000 : Cond.code yX9_deliver cX9_deliver 5 none ∈ zW := zW_in (i := 1000) rfl rfl
set_option maxRecDepth 20000 in
theorem wd_1001 : Cond.methodLink RX9 177 yX9_enter ∈ zW := zW_in (i := 1001) rfl rfl
set_option maxRecDepth 20000 in
theorem wd_1003 : Cond.instanceMethod yX9_enter ∈ zW := zW_in (i := 1003) rfl rfl
set_option maxRecDepth 20000 in
theorem wd_1004 : Cond.code yX9_enter cX9_enter 4 none ∈ zW := zW_in (i := 1004) rfl rfl
set_option maxRecDepth 20000 in
theorem wd_1009 : Cond.methodLink RX10 160 yX9_slotAt ∈ zW := zW_in (i := 1009) rfl rfl
set_option maxRecDepth 20000 in
theorem wd_1010 : Cond.methodLink RX10 163 yX9_wrapped ∈ zW := zW_in (i := 1010) rfl rfl
set_option maxRecDepth 20000 in
theorem wd_1011 : Cond.methodLink RX10 169 yX0_put ∈ zW := zW_in (i := 1011) rfl rfl
set_option maxRecDepth 20000 in
theorem wd_1016 : Cond.methodLink RX10 173 yX9_setAside ∈ zW := zW_in (i := 1016) rfl rfl
set_option maxRecDepth 20000 in
theorem wd_1025 : Cond.methodLink RX10 188 yX3_takeFirst ∈ zW := zW_in (i := 1025) rfl rfl
set_option maxRecDepth 20000 in
theorem wd_1030 : Cond.methodLink RX10 192 yX2_restoreInto ∈ zW := zW_in (i := 1030) rfl rfl
set_option maxRecDepth 20000 in
theorem wd_1031 : Cond.instanceMethod yX2_restoreInto ∈ zW := zW_in (i := 1031) rfl rfl
set_option maxRecDepth 20000 in
theorem wd_1032 : Cond.selects RX2 yX2_restoreInto yX2_restoreInto ∈ zW := zW_in (i := 1032) rfl rfl
set_option maxRecDepth 20000 in
theorem wd_1033 : Cond.code yX2_restoreInto cX2_restoreInto 4 none ∈ zW := zW_in (i := 1033) rfl rfl
set_option maxRecDepth 20000 in
theorem wd_1050 : Cond.methodLink RX10 204 yX4_has ∈ zW := zW_in (i := 1050) rfl rfl
set_option maxRecDepth 20000 in
theorem wd_1059 : Cond.methodLink RX10 211 yX9_goalOf ∈ zW := zW_in (i := 1059) rfl rfl
set_option maxRecDepth 20000 in
theorem wd_1068 : Cond.methodLink RX10 214 yX0_has ∈ zW := zW_in (i := 1068) rfl rfl
set_option maxRecDepth 20000 in
theorem wd_1073 : Cond.methodLink RX10 221 yX9_positionOf ∈ zW := zW_in (i := 1073) rfl rfl
set_option maxRecDepth 20000 in
theorem wd_1074 : Cond.instanceMethod yX9_positionOf ∈ zW := zW_in (i := 1074) rfl rfl
set_option maxRecDepth 20000 in
theorem wd_1075 : Cond.selects RX9 yX9_positionOf yX9_positionOf ∈ zW := zW_in (i := 1075) rfl rfl
set_option maxRecDepth 20000 in
theorem wd_1076 : Cond.code yX9_positionOf cX9_positionOf 2 (some .int) ∈ zW := zW_in (i := 1076) rfl rfl
set_option maxRecDepth 20000 in
theorem wd_1081 : Cond.methodLink RX10 224 yX0_isDelivered ∈ zW := zW_in (i := 1081) rfl rfl
set_option maxRecDepth 20000 in
theorem wd_1082 : Cond.instanceMethod yX0_isDelivered ∈ zW := zW_in (i := 1082) rfl rfl
set_option maxRecDepth 20000 in
theorem wd_1083 : Cond.selects RX0 yX0_isDelivered yX0_isDelivered ∈ zW := zW_in (i := 1083) rfl rfl
set_option maxRecDepth 20000 in
theorem wd_1084 : Cond.code yX0_isDelivered cX0_isDelivered 2 (some .boolean) ∈ zW := zW_in (i := 1084) rfl rfl
set_option maxRecDepth 20000 in
theorem wd_1089 : Cond.methodLink RX10 230 yX9_usableLabel ∈ zW := zW_in (i := 1089) rfl rfl
set_option maxRecDepth 20000 in
theorem wd_1094 : Cond.methodLink RX10 233 yX10_sizeAt ∈ zW := zW_in (i := 1094) rfl rfl
set_option maxRecDepth 20000 in
theorem wd_1096 : Cond.instanceMethod yX10_sizeAt ∈ zW := zW_in (i := 1096) rfl rfl
set_option maxRecDepth 20000 in
theorem wd_1097 : Cond.code yX10_sizeAt cX10_sizeAt 2 (some .int) ∈ zW := zW_in (i := 1097) rfl rfl
set_option maxRecDepth 20000 in
theorem wd_1130 : Cond.methodLink RX10 245 yX9_ridersWith ∈ zW := zW_in (i := 1130) rfl rfl
set_option maxRecDepth 20000 in
theorem wd_1131 : Cond.instanceMethod yX9_ridersWith ∈ zW := zW_in (i := 1131) rfl rfl
set_option maxRecDepth 20000 in
theorem wd_1132 : Cond.selects RX9 yX9_ridersWith yX9_ridersWith ∈ zW := zW_in (i := 1132) rfl rfl
set_option maxRecDepth 20000 in
theorem wd_1133 : Cond.code yX9_ridersWith cX9_ridersWith 4 (some .int) ∈ zW := zW_in (i := 1133) rfl rfl
set_option maxRecDepth 20000 in
theorem wd_1146 : Cond.methodLink RX10 250 yX9_isStray ∈ zW := zW_in (i := 1146) rfl rfl
set_option maxRecDepth 20000 in
theorem wd_1147 : Cond.instanceMethod yX9_isStray ∈ zW := zW_in (i := 1147) rfl rfl
set_option maxRecDepth 20000 in
theorem wd_1148 : Cond.selects RX9 yX9_isStray yX9_isStray ∈ zW := zW_in (i := 1148) rfl rfl
set_option maxRecDepth 20000 in
theorem wd_1149 : Cond.code yX9_isStray cX9_isStray 5 (some .boolean) ∈ zW := zW_in (i := 1149) rfl rfl
set_option maxRecDepth 20000 in
theorem wd_1158 : Cond.methodLink RX10 257 yX9_copyFrom ∈ zW := zW_in (i := 1158) rfl rfl
set_option maxRecDepth 20000 in
theorem wd_1159 : Cond.methodLink RX10 260 yX9_ticksUntilDelivered ∈ zW := zW_in (i := 1159) rfl rfl
set_option maxRecDepth 20000 in
theorem wd_1160 : Cond.instanceMethod yX9_ticksUntilDelivered ∈ zW := zW_in (i := 1160) rfl rfl
set_option maxRecDepth 20000 in
theorem wd_1161 : Cond.selects RX9 yX9_ticksUntilDelivered yX9_ticksUntilDelivered ∈ zW := zW_in (i := 1161) rfl rfl
set_option maxRecDepth 20000 in
theorem wd_1162 : Cond.code yX9_ticksUntilDelivered cX9_ticksUntilDelivered 4 (some .int) ∈ zW := zW_in (i := 1162) rfl rfl
set_option maxRecDepth 20000 in
theorem wd_1163 : Cond.methodLink RX9 133 yX0_has ∈ zW := zW_in (i := 1163) rfl rfl
set_option maxRecDepth 20000 in
theorem wd_1164 : Cond.methodLink RX9 136 yX0_isDelivered ∈ zW := zW_in (i := 1164) rfl rfl
set_option maxRecDepth 20000 in
theorem wd_1165 : Cond.methodLink RX9 139 yX0_isGone ∈ zW := zW_in (i := 1165) rfl rfl
set_option maxRecDepth 20000 in
theorem wd_1166 : Cond.instanceMethod yX0_isGone ∈ zW := zW_in (i := 1166) rfl rfl
set_option maxRecDepth 20000 in
theorem wd_1167 : Cond.selects RX0 yX0_isGone yX0_isGone ∈ zW := zW_in (i := 1167) rfl rfl
set_option maxRecDepth 20000 in
theorem wd_1168 : Cond.code yX0_isGone cX0_isGone 2 (some .boolean) ∈ zW := zW_in (i := 1168) rfl rfl
set_option maxRecDepth 20000 in
theorem wd_1181 : Cond.methodLink RX10 263 yX10_addTrialBag ∈ zW := zW_in (i := 1181) rfl rfl
set_option maxRecDepth 20000 in
theorem wd_1183 : Cond.instanceMethod yX10_addTrialBag ∈ zW := zW_in (i := 1183) rfl rfl
set_option maxRecDepth 20000 in
theorem wd_1184 : Cond.code yX10_addTrialBag cX10_addTrialBag 5 (some .int) ∈ zW := zW_in (i := 1184) rfl rfl
set_option maxRecDepth 20000 in
theorem wd_1189 : Cond.methodLink RX10 266 yX10_arrivesInTime ∈ zW := zW_in (i := 1189) rfl rfl
set_option maxRecDepth 20000 in
theorem wd_1191 : Cond.instanceMethod yX10_arrivesInTime ∈ zW := zW_in (i := 1191) rfl rfl
set_option maxRecDepth 20000 in
theorem wd_1192 : Cond.code yX10_arrivesInTime cX10_arrivesInTime 7 (some .boolean) ∈ zW := zW_in (i := 1192) rfl rfl
set_option maxRecDepth 20000 in
theorem wd_1193 : Cond.methodLink RX10 290 yJ9_min_7cf53 ∈ zW := zW_in (i := 1193) rfl rfl
set_option maxRecDepth 20000 in
theorem wd_1202 : Cond.methodLink RX10 269 yX9_signOf ∈ zW := zW_in (i := 1202) rfl rfl
set_option maxRecDepth 20000 in
theorem wd_1203 : Cond.instanceMethod yX9_signOf ∈ zW := zW_in (i := 1203) rfl rfl
set_option maxRecDepth 20000 in
theorem wd_1204 : Cond.selects RX9 yX9_signOf yX9_signOf ∈ zW := zW_in (i := 1204) rfl rfl
set_option maxRecDepth 20000 in
theorem wd_1205 : Cond.code yX9_signOf cX9_signOf 3 (some .int) ∈ zW := zW_in (i := 1205) rfl rfl
set_option maxRecDepth 20000 in
theorem wd_1224 : Cond.methodLink RX11 51 yX11_begins ∈ zW := zW_in (i := 1224) rfl rfl
set_option maxRecDepth 20000 in
theorem wd_1226 : Cond.instanceMethod yX11_begins ∈ zW := zW_in (i := 1226) rfl rfl
set_option maxRecDepth 20000 in
theorem wd_1227 : Cond.code yX11_begins cX11_begins 2 none ∈ zW := zW_in (i := 1227) rfl rfl
set_option maxRecDepth 20000 in
theorem wd_1228 : Cond.fieldLink RX11 7 "BaggageHandlingModel" "tape" "[B" ∈ zW := zW_in (i := 1228) rfl rfl
set_option maxRecDepth 20000 in
theorem wd_1229 : Cond.fieldLink RX11 57 "BaggageHandlingModel" "taped" "I" ∈ zW := zW_in (i := 1229) rfl rfl
set_option maxRecDepth 20000 in
theorem wd_1230 : Cond.fieldLink RX11 13 "BaggageHandlingModel" "errorAt" "I" ∈ zW := zW_in (i := 1230) rfl rfl
set_option maxRecDepth 20000 in
theorem wd_1231 : Cond.fieldLink RX11 17 "BaggageHandlingModel" "setup" "[I" ∈ zW := zW_in (i := 1231) rfl rfl
set_option maxRecDepth 20000 in
theorem wd_1232 : Cond.fieldLink RX11 21 "BaggageHandlingModel" "draft" "[I" ∈ zW := zW_in (i := 1232) rfl rfl
set_option maxRecDepth 20000 in
theorem wd_1233 : Cond.fieldLink RX11 54 "BaggageHandlingModel" "at" "I" ∈ zW := zW_in (i := 1233) rfl rfl
set_option maxRecDepth 20000 in
theorem wd_1234 : Cond.fieldLink RX11 60 "BaggageHandlingModel" "start" "I" ∈ zW := zW_in (i := 1234) rfl rfl
set_option maxRecDepth 20000 in
theorem wd_1235 : Cond.fieldLink RX11 70 "BaggageHandlingModel" "kind" "I" ∈ zW := zW_in (i := 1235) rfl rfl
set_option maxRecDepth 20000 in
theorem wd_1236 : Cond.fieldLink RX11 63 "BaggageHandlingModel" "value" "I" ∈ zW := zW_in (i := 1236) rfl rfl
set_option maxRecDepth 20000 in
theorem wd_1237 : Cond.fieldLink RX11 66 "BaggageHandlingModel" "word" "J" ∈ zW := zW_in (i := 1237) rfl rfl
set_option maxRecDepth 20000 in
theorem wd_1238 : Cond.fieldLink RX11 81 "BaggageHandlingModel" "fine" "Z" ∈ zW := zW_in (i := 1238) rfl rfl
set_option maxRecDepth 20000 in
theorem wd_1239 : Cond.fieldLink RX11 24 "BaggageHandlingModel" "world" "[I" ∈ zW := zW_in (i := 1239) rfl rfl
set_option maxRecDepth 20000 in
theorem wd_1240 : Cond.fieldLink RX11 27 "BaggageHandlingModel" "kept" "[I" ∈ zW := zW_in (i := 1240) rfl rfl
set_option maxRecDepth 20000 in
theorem wd_1241 : Cond.fieldLink RX11 30 "BaggageHandlingModel" "undone" "[I" ∈ zW := zW_in (i := 1241) rfl rfl
set_option maxRecDepth 20000 in
theorem wd_1242 : Cond.fieldLink RX11 180 "BaggageHandlingModel" "undos" "I" ∈ zW := zW_in (i := 1242) rfl rfl
set_option maxRecDepth 20000 in
theorem wd_1243 : Cond.fieldLink RX11 33 "BaggageHandlingModel" "first" "[I" ∈ zW := zW_in (i := 1243) rfl rfl
set_option maxRecDepth 20000 in
theorem wd_1244 : Cond.fieldLink RX11 36 "BaggageHandlingModel" "firstHeads" "[I" ∈ zW := zW_in (i := 1244) rfl rfl
set_option maxRecDepth 20000 in
theorem wd_1245 : Cond.fieldLink RX11 39 "BaggageHandlingModel" "second" "[I" ∈ zW := zW_in (i := 1245) rfl rfl
set_option maxRecDepth 20000 in
theorem wd_1246 : Cond.fieldLink RX11 42 "BaggageHandlingModel" "secondHeads" "[I" ∈ zW := zW_in (i := 1246) rfl rfl
set_option maxRecDepth 20000 in
theorem wd_1247 : Cond.fieldLink RX11 45 "BaggageHandlingModel" "threat" "[I" ∈ zW := zW_in (i := 1247) rfl rfl
set_option maxRecDepth 20000 in
theorem wd_1248 : Cond.fieldLink RX11 48 "BaggageHandlingModel" "out" "[I" ∈ zW := zW_in (i := 1248) rfl rfl
set_option maxRecDepth 20000 in
theorem wd_1249 : Cond.fieldLink RX11 354 "BaggageHandlingModel" "outs" "I" ∈ zW := zW_in (i := 1249) rfl rfl
set_option maxRecDepth 20000 in
theorem wd_1299 : Cond.methodLink RX11 174 yX11_puts ∈ zW := zW_in (i := 1299) rfl rfl
set_option maxRecDepth 20000 in
theorem wd_1301 : Cond.instanceMethod yX11_puts ∈ zW := zW_in (i := 1301) rfl rfl
set_option maxRecDepth 20000 in
theorem wd_1302 : Cond.code yX11_puts cX11_puts 3 none ∈ zW := zW_in (i := 1302) rfl rfl
set_option maxRecDepth 20000 in
theorem wd_1307 : Cond.methodLink RX11 88 yX11_in ∈ zW := zW_in (i := 1307) rfl rfl
set_option maxRecDepth 20000 in
theorem wd_1308 : Cond.static yX11_in ∈ zW := zW_in (i := 1308) rfl rfl
set_option maxRecDepth 20000 in
theorem wd_1309 : Cond.code yX11_in cX11_in 6 (some .boolean) ∈ zW := zW_in (i := 1309) rfl rfl
set_option maxRecDepth 20000 in
theorem wd_1314 : Cond.methodLink RX11 177 yX11_reads ∈ zW := zW_in (i := 1314) rfl rfl
set_option maxRecDepth 20000 in
theorem wd_1316 : Cond.instanceMethod yX11_reads ∈ zW := zW_in (i := 1316) rfl rfl
set_option maxRecDepth 20000 in
theorem wd_1317 : Cond.code yX11_reads cX11_reads 2 none ∈ zW := zW_in (i := 1317) rfl rfl
set_option maxRecDepth 20000 in
theorem wd_1318 : Cond.methodLink RX11 85 yX11_next ∈ zW := zW_in (i := 1318) rfl rfl
set_option maxRecDepth 20000 in
theorem wd_1320 : Cond.instanceMethod yX11_next ∈ zW := zW_in (i := 1320) rfl rfl
set_option maxRecDepth 20000 in
theorem wd_1321 : Cond.code yX11_next cX11_next 1 none ∈ zW := zW_in (i := 1321) rfl rfl
set_option maxRecDepth 20000 in
theorem wd_1322 : Cond.methodLink RX11 73 yX11_isAt ∈ zW := zW_in (i := 1322) rfl rfl
set_option maxRecDepth 20000 in
theorem wd_1324 : Cond.instanceMethod yX11_isAt ∈ zW := zW_in (i := 1324) rfl rfl
set_option maxRecDepth 20000 in
theorem wd_1325 : Cond.code yX11_isAt cX11_isAt 3 (some .boolean) ∈ zW := zW_in (i := 1325) rfl rfl
set_option maxRecDepth 20000 in
theorem wd_1326 : Cond.constantLong RX11 77 32 ∈ zW := zW_in (i := 1326) rfl rfl
set_option maxRecDepth 20000 in
theorem wd_1327 : Cond.constantLong RX11 79 96 ∈ zW := zW_in (i := 1327) rfl rfl
set_option maxRecDepth 20000 in
theorem wd_1328 : Cond.constantLong RX11 156 599495 ∈ zW := zW_in (i := 1328) rfl rfl
set_option maxRecDepth 20000 in
theorem wd_1329 : Cond.methodLink RX11 132 yX11_numberBehind ∈ zW := zW_in (i := 1329) rfl rfl
set_option maxRecDepth 20000 in
theorem wd_1331 : Cond.instanceMethod yX11_numberBehind ∈ zW := zW_in (i := 1331) rfl rfl
set_option maxRecDepth 20000 in
theorem wd_1332 : Cond.code yX11_numberBehind cX11_numberBehind 5 (some .int) ∈ zW := zW_in (i := 1332) rfl rfl
set_option maxRecDepth 20000 in
theorem wd_1333 : Cond.methodLink RX11 96 yX11_isWord ∈ zW := zW_in (i := 1333) rfl rfl
set_option maxRecDepth 20000 in
theorem wd_1335 : Cond.instanceMethod yX11_isWord ∈ zW := zW_in (i := 1335) rfl rfl
set_option maxRecDepth 20000 in
theorem wd_1336 : Cond.code yX11_isWord cX11_isWord 3 (some .boolean) ∈ zW := zW_in (i := 1336) rfl rfl
set_option maxRecDepth 20000 in
theorem wd_1337 : Cond.methodLink RX11 92 yX11_takes ∈ zW := zW_in (i := 1337) rfl rfl
set_option maxRecDepth 20000 in
theorem wd_1339 : Cond.instanceMethod yX11_takes ∈ zW := zW_in (i := 1339) rfl rfl
set_option maxRecDepth 20000 in
theorem wd_1340 : Cond.code yX11_takes cX11_takes 2 none ∈ zW := zW_in (i := 1340) rfl rfl
set_option maxRecDepth 20000 in
theorem wd_1341 : Cond.methodLink RX11 100 yX11_number ∈ zW := zW_in (i := 1341) rfl rfl
set_option maxRecDepth 20000 in
theorem wd_1343 : Cond.instanceMethod yX11_number ∈ zW := zW_in (i := 1343) rfl rfl
set_option maxRecDepth 20000 in
theorem wd_1344 : Cond.code yX11_number cX11_number 4 (some .int) ∈ zW := zW_in (i := 1344) rfl rfl
set_option maxRecDepth 20000 in
theorem wd_1345 : Cond.methodLink RX11 158 yX11_sortHere ∈ zW := zW_in (i := 1345) rfl rfl
set_option maxRecDepth 20000 in
theorem wd_1347 : Cond.instanceMethod yX11_sortHere ∈ zW := zW_in (i := 1347) rfl rfl
set_option maxRecDepth 20000 in
theorem wd_1348 : Cond.code yX11_sortHere cX11_sortHere 1 (some .int) ∈ zW := zW_in (i := 1348) rfl rfl
set_option maxRecDepth 20000 in
theorem wd_1349 : Cond.constantLong RX11 106 9908404 ∈ zW := zW_in (i := 1349) rfl rfl
set_option maxRecDepth 20000 in
theorem wd_1350 : Cond.constantLong RX11 108 20503279794 ∈ zW := zW_in (i := 1350) rfl rfl
set_option maxRecDepth 20000 in
theorem wd_1351 : Cond.constantLong RX11 110 3430021 ∈ zW := zW_in (i := 1351) rfl rfl
set_option maxRecDepth 20000 in
theorem wd_1352 : Cond.constantLong RX11 112 641275054 ∈ zW := zW_in (i := 1352) rfl rfl
set_option maxRecDepth 20000 in
theorem wd_1353 : Cond.constantLong RX11 114 20594245 ∈ zW := zW_in (i := 1353) rfl rfl
set_option maxRecDepth 20000 in
theorem wd_1354 : Cond.constantLong RX11 116 21073896942 ∈ zW := zW_in (i := 1354) rfl rfl
set_option maxRecDepth 20000 in
theorem wd_1355 : Cond.methodLink RX11 161 yX11_readDevice ∈ zW := zW_in (i := 1355) rfl rfl
set_option maxRecDepth 20000 in
theorem wd_1357 : Cond.instanceMethod yX11_readDevice ∈ zW := zW_in (i := 1357) rfl rfl
set_option maxRecDepth 20000 in
theorem wd_1358 : Cond.code yX11_readDevice cX11_readDevice 6 none ∈ zW := zW_in (i := 1358) rfl rfl
set_option maxRecDepth 20000 in
theorem wd_1359 : Cond.methodLink RX11 118 yX11_mostOf ∈ zW := zW_in (i := 1359) rfl rfl
set_option maxRecDepth 20000 in
theorem wd_1360 : Cond.static yX11_mostOf ∈ zW := zW_in (i := 1360) rfl rfl
set_option maxRecDepth 20000 in
theorem wd_1361 : Cond.code yX11_mostOf cX11_mostOf 1 (some .int) ∈ zW := zW_in (i := 1361) rfl rfl
set_option maxRecDepth 20000 in
theorem wd_1362 : Cond.methodLink RX11 122 yX11_freePosition ∈ zW := zW_in (i := 1362) rfl rfl
set_option maxRecDepth 20000 in
theorem wd_1364 : Cond.instanceMethod yX11_freePosition ∈ zW := zW_in (i := 1364) rfl rfl
set_option maxRecDepth 20000 in
theorem wd_1365 : Cond.code yX11_freePosition cX11_freePosition 2 (some .int) ∈ zW := zW_in (i := 1365) rfl rfl
set_option maxRecDepth 20000 in
theorem wd_1366 : Cond.constantLong RX11 104 59 ∈ zW := zW_in (i := 1366) rfl rfl
set_option maxRecDepth 20000 in
theorem wd_1367 : Cond.methodLink RX11 126 yX11_uses ∈ zW := zW_in (i := 1367) rfl rfl
set_option maxRecDepth 20000 in
theorem wd_1369 : Cond.instanceMethod yX11_uses ∈ zW := zW_in (i := 1369) rfl rfl
set_option maxRecDepth 20000 in
theorem wd_1370 : Cond.code yX11_uses cX11_uses 4 none ∈ zW := zW_in (i := 1370) rfl rfl
set_option maxRecDepth 20000 in
theorem wd_1371 : Cond.constantLong RX11 130 605677 ∈ zW := zW_in (i := 1371) rfl rfl
set_option maxRecDepth 20000 in
theorem wd_1372 : Cond.constantLong RX11 136 661966952 ∈ zW := zW_in (i := 1372) rfl rfl
set_option maxRecDepth 20000 in
theorem wd_1373 : Cond.constantLong RX11 138 21279923 ∈ zW := zW_in (i := 1373) rfl rfl
set_option maxRecDepth 20000 in
theorem wd_1374 : Cond.constantLong RX11 140 664997 ∈ zW := zW_in (i := 1374) rfl rfl
set_option maxRecDepth 20000 in
theorem wd_1375 : Cond.constantLong RX11 142 188724 ∈ zW := zW_in (i := 1375) rfl rfl
set_option maxRecDepth 20000 in
theorem wd_1376 : Cond.constantLong RX11 165 214211860 ∈ zW := zW_in (i := 1376) rfl rfl
set_option maxRecDepth 20000 in
theorem wd_1377 : Cond.methodLink RX11 167 yX11_readFlight ∈ zW := zW_in (i := 1377) rfl rfl
set_option maxRecDepth 20000 in
theorem wd_1379 : Cond.instanceMethod yX11_readFlight ∈ zW := zW_in (i := 1379) rfl rfl
set_option maxRecDepth 20000 in
theorem wd_1380 : Cond.code yX11_readFlight cX11_readFlight 6 none ∈ zW := zW_in (i := 1380) rfl rfl
set_option maxRecDepth 20000 in
theorem wd_1381 : Cond.constantLong RX11 144 999 ∈ zW := zW_in (i := 1381) rfl rfl
set_option maxRecDepth 20000 in
theorem wd_1382 : Cond.methodLink RX11 146 yX11_isNewFlight ∈ zW := zW_in (i := 1382) rfl rfl
set_option maxRecDepth 20000 in
theorem wd_1384 : Cond.instanceMethod yX11_isNewFlight ∈ zW := zW_in (i := 1384) rfl rfl
set_option maxRecDepth 20000 in
theorem wd_1385 : Cond.code yX11_isNewFlight cX11_isNewFlight 3 (some .boolean) ∈ zW := zW_in (i := 1385) rfl rfl
set_option maxRecDepth 20000 in
theorem wd_1386 : Cond.constantLong RX11 150 508078 ∈ zW := zW_in (i := 1386) rfl rfl
set_option maxRecDepth 20000 in
theorem wd_1387 : Cond.constant RX11 152 99998 ∈ zW := zW_in (i := 1387) rfl rfl
set_option maxRecDepth 20000 in
theorem wd_1388 : Cond.constantLong RX11 153 3554917 ∈ zW := zW_in (i := 1388) rfl rfl
set_option maxRecDepth 20000 in
theorem wd_1389 : Cond.constant RX11 155 99999 ∈ zW := zW_in (i := 1389) rfl rfl
set_option maxRecDepth 20000 in
theorem wd_1390 : Cond.constantLong RX11 170 781652471 ∈ zW := zW_in (i := 1390) rfl rfl
set_option maxRecDepth 20000 in
theorem wd_1391 : Cond.constantLong RX11 172 538561715 ∈ zW := zW_in (i := 1391) rfl rfl
set_option maxRecDepth 20000 in
theorem wd_1404 : Cond.methodLink RX11 290 yX11_isDevice ∈ zW := zW_in (i := 1404) rfl rfl
set_option maxRecDepth 20000 in
theorem wd_1406 : Cond.instanceMethod yX11_isDevice ∈ zW := zW_in (i := 1406) rfl rfl
set_option maxRecDepth 20000 in
theorem wd_1407 : Cond.code yX11_isDevice cX11_isDevice 3 (some .boolean) ∈ zW := zW_in (i := 1407) rfl rfl
set_option maxRecDepth 20000 in
theorem wd_1408 : Cond.methodLink RX11 183 yX11_many ∈ zW := zW_in (i := 1408) rfl rfl
set_option maxRecDepth 20000 in
theorem wd_1410 : Cond.instanceMethod yX11_many ∈ zW := zW_in (i := 1410) rfl rfl
set_option maxRecDepth 20000 in
theorem wd_1411 : Cond.code yX11_many cX11_many 2 (some .int) ∈ zW := zW_in (i := 1411) rfl rfl
set_option maxRecDepth 20000 in
theorem wd_1412 : Cond.methodLink RX11 293 yX11_isLabel ∈ zW := zW_in (i := 1412) rfl rfl
set_option maxRecDepth 20000 in
theorem wd_1413 : Cond.static yX11_isLabel ∈ zW := zW_in (i := 1413) rfl rfl
set_option maxRecDepth 20000 in
theorem wd_1414 : Cond.code yX11_isLabel cX11_isLabel 1 (some .boolean) ∈ zW := zW_in (i := 1414) rfl rfl
set_option maxRecDepth 20000 in
theorem wd_1415 : Cond.constantLong RX11 286 1000 ∈ zW := zW_in (i := 1415) rfl rfl
set_option maxRecDepth 20000 in
theorem wd_1416 : Cond.constantLong RX11 288 999999 ∈ zW := zW_in (i := 1416) rfl rfl
set_option maxRecDepth 20000 in
theorem wd_1417 : Cond.constantLong RX11 296 15 ∈ zW := zW_in (i := 1417) rfl rfl
set_option maxRecDepth 20000 in
theorem wd_1418 : Cond.constantLong RX11 298 3 ∈ zW := zW_in (i := 1418) rfl rfl
set_option maxRecDepth 20000 in
theorem wd_1419 : Cond.methodLink RX11 300 yX11_keeps ∈ zW := zW_in (i := 1419) rfl rfl
set_option maxRecDepth 20000 in
theorem wd_1421 : Cond.instanceMethod yX11_keeps ∈ zW := zW_in (i := 1421) rfl rfl
set_option maxRecDepth 20000 in
theorem wd_1422 : Cond.code yX11_keeps cX11_keeps 2 none ∈ zW := zW_in (i := 1422) rfl rfl
set_option maxRecDepth 20000 in
theorem wd_1423 : Cond.methodLink RX11 303 yX11_arrives ∈ zW := zW_in (i := 1423) rfl rfl
set_option maxRecDepth 20000 in
theorem wd_1425 : Cond.instanceMethod yX11_arrives ∈ zW := zW_in (i := 1425) rfl rfl
set_option maxRecDepth 20000 in
theorem wd_1426 : Cond.code yX11_arrives cX11_arrives 9 (some .int) ∈ zW := zW_in (i := 1426) rfl rfl
set_option maxRecDepth 20000 in
theorem wd_1427 : Cond.methodLink RX11 214 yX11_goes ∈ zW := zW_in (i := 1427) rfl rfl
set_option maxRecDepth 20000 in
theorem wd_1429 : Cond.instanceMethod yX11_goes ∈ zW := zW_in (i := 1429) rfl rfl
set_option maxRecDepth 20000 in
theorem wd_1430 : Cond.code yX11_goes cX11_goes 4 none ∈ zW := zW_in (i := 1430) rfl rfl
set_option maxRecDepth 20000 in
theorem wd_1435 : Cond.constantLong RX11 307 300 ∈ zW := zW_in (i := 1435) rfl rfl
set_option maxRecDepth 20000 in
theorem wd_1436 : Cond.constant RX11 309 100000 ∈ zW := zW_in (i := 1436) rfl rfl
set_option maxRecDepth 20000 in
theorem wd_1437 : Cond.methodLink RX11 310 yX11_ticks ∈ zW := zW_in (i := 1437) rfl rfl
set_option maxRecDepth 20000 in
theorem wd_1439 : Cond.instanceMethod yX11_ticks ∈ zW := zW_in (i := 1439) rfl rfl
set_option maxRecDepth 20000 in
theorem wd_1440 : Cond.code yX11_ticks cX11_ticks 2 none ∈ zW := zW_in (i := 1440) rfl rfl
set_option maxRecDepth 20000 in
theorem wd_1441 : Cond.methodLink RX11 271 yX11_moves ∈ zW := zW_in (i := 1441) rfl rfl
set_option maxRecDepth 20000 in
theorem wd_1443 : Cond.instanceMethod yX11_moves ∈ zW := zW_in (i := 1443) rfl rfl
set_option maxRecDepth 20000 in
theorem wd_1444 : Cond.code yX11_moves cX11_moves 3 none ∈ zW := zW_in (i := 1444) rfl rfl
set_option maxRecDepth 20000 in
theorem wd_1445 : Cond.methodLink RX11 201 yX11_turns ∈ zW := zW_in (i := 1445) rfl rfl
set_option maxRecDepth 20000 in
theorem wd_1447 : Cond.instanceMethod yX11_turns ∈ zW := zW_in (i := 1447) rfl rfl
set_option maxRecDepth 20000 in
theorem wd_1448 : Cond.code yX11_turns cX11_turns 5 none ∈ zW := zW_in (i := 1448) rfl rfl
set_option maxRecDepth 20000 in
theorem wd_1449 : Cond.methodLink RX11 274 yX11_stationWorks ∈ zW := zW_in (i := 1449) rfl rfl
set_option maxRecDepth 20000 in
theorem wd_1451 : Cond.instanceMethod yX11_stationWorks ∈ zW := zW_in (i := 1451) rfl rfl
set_option maxRecDepth 20000 in
theorem wd_1452 : Cond.code yX11_stationWorks cX11_stationWorks 4 none ∈ zW := zW_in (i := 1452) rfl rfl
set_option maxRecDepth 20000 in
theorem wd_1453 : Cond.methodLink RX11 204 yX11_firstIn ∈ zW := zW_in (i := 1453) rfl rfl
set_option maxRecDepth 20000 in
theorem wd_1455 : Cond.instanceMethod yX11_firstIn ∈ zW := zW_in (i := 1455) rfl rfl
set_option maxRecDepth 20000 in
theorem wd_1456 : Cond.code yX11_firstIn cX11_firstIn 6 (some .int) ∈ zW := zW_in (i := 1456) rfl rfl
set_option maxRecDepth 20000 in
theorem wd_1457 : Cond.methodLink RX11 198 yX11_ofBag ∈ zW := zW_in (i := 1457) rfl rfl
set_option maxRecDepth 20000 in
theorem wd_1459 : Cond.instanceMethod yX11_ofBag ∈ zW := zW_in (i := 1459) rfl rfl
set_option maxRecDepth 20000 in
theorem wd_1460 : Cond.code yX11_ofBag cX11_ofBag 3 (some .int) ∈ zW := zW_in (i := 1460) rfl rfl
set_option maxRecDepth 20000 in
theorem wd_1461 : Cond.methodLink RX11 207 yX11_ofDevice ∈ zW := zW_in (i := 1461) rfl rfl
set_option maxRecDepth 20000 in
theorem wd_1463 : Cond.instanceMethod yX11_ofDevice ∈ zW := zW_in (i := 1463) rfl rfl
set_option maxRecDepth 20000 in
theorem wd_1464 : Cond.code yX11_ofDevice cX11_ofDevice 4 (some .int) ∈ zW := zW_in (i := 1464) rfl rfl
set_option maxRecDepth 20000 in
theorem wd_1465 : Cond.methodLink RX11 211 yX11_properOf ∈ zW := zW_in (i := 1465) rfl rfl
set_option maxRecDepth 20000 in
theorem wd_1467 : Cond.instanceMethod yX11_properOf ∈ zW := zW_in (i := 1467) rfl rfl
set_option maxRecDepth 20000 in
theorem wd_1468 : Cond.code yX11_properOf cX11_properOf 2 (some .int) ∈ zW := zW_in (i := 1468) rfl rfl
set_option maxRecDepth 20000 in
theorem wd_1469 : Cond.methodLink RX11 195 yX11_isGood ∈ zW := zW_in (i := 1469) rfl rfl
set_option maxRecDepth 20000 in
theorem wd_1471 : Cond.instanceMethod yX11_isGood ∈ zW := zW_in (i := 1471) rfl rfl
set_option maxRecDepth 20000 in
theorem wd_1472 : Cond.code yX11_isGood cX11_isGood 3 (some .boolean) ∈ zW := zW_in (i := 1472) rfl rfl
set_option maxRecDepth 20000 in
theorem wd_1473 : Cond.methodLink RX11 189 yX11_flightBy ∈ zW := zW_in (i := 1473) rfl rfl
set_option maxRecDepth 20000 in
theorem wd_1475 : Cond.instanceMethod yX11_flightBy ∈ zW := zW_in (i := 1475) rfl rfl
set_option maxRecDepth 20000 in
theorem wd_1476 : Cond.code yX11_flightBy cX11_flightBy 3 (some .int) ∈ zW := zW_in (i := 1476) rfl rfl
set_option maxRecDepth 20000 in
theorem wd_1477 : Cond.methodLink RX11 186 yX11_ofFlight ∈ zW := zW_in (i := 1477) rfl rfl
set_option maxRecDepth 20000 in
theorem wd_1479 : Cond.instanceMethod yX11_ofFlight ∈ zW := zW_in (i := 1479) rfl rfl
set_option maxRecDepth 20000 in
theorem wd_1480 : Cond.code yX11_ofFlight cX11_ofFlight 3 (some .int) ∈ zW := zW_in (i := 1480) rfl rfl
set_option maxRecDepth 20000 in
theorem wd_1481 : Cond.methodLink RX11 192 yX11_flightIs ∈ zW := zW_in (i := 1481) rfl rfl
set_option maxRecDepth 20000 in
theorem wd_1483 : Cond.instanceMethod yX11_flightIs ∈ zW := zW_in (i := 1483) rfl rfl
set_option maxRecDepth 20000 in
theorem wd_1484 : Cond.code yX11_flightIs cX11_flightIs 3 (some .int) ∈ zW := zW_in (i := 1484) rfl rfl
set_option maxRecDepth 20000 in
theorem wd_1485 : Cond.methodLink RX11 217 yX11_counts ∈ zW := zW_in (i := 1485) rfl rfl
set_option maxRecDepth 20000 in
theorem wd_1487 : Cond.instanceMethod yX11_counts ∈ zW := zW_in (i := 1487) rfl rfl
set_option maxRecDepth 20000 in
theorem wd_1488 : Cond.code yX11_counts cX11_counts 2 none ∈ zW := zW_in (i := 1488) rfl rfl
set_option maxRecDepth 20000 in
theorem wd_1489 : Cond.methodLink RX11 277 yX11_screenWorks ∈ zW := zW_in (i := 1489) rfl rfl
set_option maxRecDepth 20000 in
theorem wd_1491 : Cond.instanceMethod yX11_screenWorks ∈ zW := zW_in (i := 1491) rfl rfl
set_option maxRecDepth 20000 in
theorem wd_1492 : Cond.code yX11_screenWorks cX11_screenWorks 4 none ∈ zW := zW_in (i := 1492) rfl rfl
set_option maxRecDepth 20000 in
theorem wd_1493 : Cond.methodLink RX11 280 yX11_storeWorks ∈ zW := zW_in (i := 1493) rfl rfl
set_option maxRecDepth 20000 in
theorem wd_1495 : Cond.instanceMethod yX11_storeWorks ∈ zW := zW_in (i := 1495) rfl rfl
set_option maxRecDepth 20000 in
theorem wd_1496 : Cond.code yX11_storeWorks cX11_storeWorks 7 none ∈ zW := zW_in (i := 1496) rfl rfl
set_option maxRecDepth 20000 in
theorem wd_1497 : Cond.methodLink RX11 283 yX11_treats ∈ zW := zW_in (i := 1497) rfl rfl
set_option maxRecDepth 20000 in
theorem wd_1499 : Cond.instanceMethod yX11_treats ∈ zW := zW_in (i := 1499) rfl rfl
set_option maxRecDepth 20000 in
theorem wd_1500 : Cond.code yX11_treats cX11_treats 3 none ∈ zW := zW_in (i := 1500) rfl rfl
set_option maxRecDepth 20000 in
theorem wd_1501 : Cond.methodLink RX11 259 yX11_inletWorks ∈ zW := zW_in (i := 1501) rfl rfl
set_option maxRecDepth 20000 in
theorem wd_1503 : Cond.instanceMethod yX11_inletWorks ∈ zW := zW_in (i := 1503) rfl rfl
set_option maxRecDepth 20000 in
theorem wd_1504 : Cond.code yX11_inletWorks cX11_inletWorks 3 none ∈ zW := zW_in (i := 1504) rfl rfl
set_option maxRecDepth 20000 in
theorem wd_1505 : Cond.methodLink RX11 223 yX11_isClear ∈ zW := zW_in (i := 1505) rfl rfl
set_option maxRecDepth 20000 in
theorem wd_1507 : Cond.instanceMethod yX11_isClear ∈ zW := zW_in (i := 1507) rfl rfl
set_option maxRecDepth 20000 in
theorem wd_1508 : Cond.code yX11_isClear cX11_isClear 2 (some .boolean) ∈ zW := zW_in (i := 1508) rfl rfl
set_option maxRecDepth 20000 in
theorem wd_1509 : Cond.methodLink RX11 226 yX11_entersRing ∈ zW := zW_in (i := 1509) rfl rfl
set_option maxRecDepth 20000 in
theorem wd_1511 : Cond.instanceMethod yX11_entersRing ∈ zW := zW_in (i := 1511) rfl rfl
set_option maxRecDepth 20000 in
theorem wd_1512 : Cond.code yX11_entersRing cX11_entersRing 3 none ∈ zW := zW_in (i := 1512) rfl rfl
set_option maxRecDepth 20000 in
theorem wd_1513 : Cond.methodLink RX11 220 yX11_newRecord ∈ zW := zW_in (i := 1513) rfl rfl
set_option maxRecDepth 20000 in
theorem wd_1515 : Cond.instanceMethod yX11_newRecord ∈ zW := zW_in (i := 1515) rfl rfl
set_option maxRecDepth 20000 in
theorem wd_1516 : Cond.code yX11_newRecord cX11_newRecord 2 none ∈ zW := zW_in (i := 1516) rfl rfl
set_option maxRecDepth 20000 in
theorem wd_1517 : Cond.methodLink RX11 262 yX11_exitWorks ∈ zW := zW_in (i := 1517) rfl rfl
set_option maxRecDepth 20000 in
theorem wd_1519 : Cond.instanceMethod yX11_exitWorks ∈ zW := zW_in (i := 1519) rfl rfl
set_option maxRecDepth 20000 in
theorem wd_1520 : Cond.code yX11_exitWorks cX11_exitWorks 3 none ∈ zW := zW_in (i := 1520) rfl rfl
set_option maxRecDepth 20000 in
theorem wd_1521 : Cond.methodLink RX11 265 yX11_scannerWorks ∈ zW := zW_in (i := 1521) rfl rfl
set_option maxRecDepth 20000 in
theorem wd_1523 : Cond.instanceMethod yX11_scannerWorks ∈ zW := zW_in (i := 1523) rfl rfl
set_option maxRecDepth 20000 in
theorem wd_1524 : Cond.code yX11_scannerWorks cX11_scannerWorks 5 none ∈ zW := zW_in (i := 1524) rfl rfl
set_option maxRecDepth 20000 in
theorem wd_1525 : Cond.methodLink RX11 236 yX11_nearest ∈ zW := zW_in (i := 1525) rfl rfl
set_option maxRecDepth 20000 in
theorem wd_1527 : Cond.instanceMethod yX11_nearest ∈ zW := zW_in (i := 1527) rfl rfl
set_option maxRecDepth 20000 in
theorem wd_1528 : Cond.code yX11_nearest cX11_nearest 9 (some .int) ∈ zW := zW_in (i := 1528) rfl rfl
set_option maxRecDepth 20000 in
theorem wd_1529 : Cond.methodLink RX11 240 yX11_moveRecord ∈ zW := zW_in (i := 1529) rfl rfl
set_option maxRecDepth 20000 in
theorem wd_1531 : Cond.instanceMethod yX11_moveRecord ∈ zW := zW_in (i := 1531) rfl rfl
set_option maxRecDepth 20000 in
theorem wd_1532 : Cond.code yX11_moveRecord cX11_moveRecord 3 none ∈ zW := zW_in (i := 1532) rfl rfl
set_option maxRecDepth 20000 in
theorem wd_1533 : Cond.methodLink RX11 230 yX11_dropRecord ∈ zW := zW_in (i := 1533) rfl rfl
set_option maxRecDepth 20000 in
theorem wd_1535 : Cond.instanceMethod yX11_dropRecord ∈ zW := zW_in (i := 1535) rfl rfl
set_option maxRecDepth 20000 in
theorem wd_1536 : Cond.code yX11_dropRecord cX11_dropRecord 2 none ∈ zW := zW_in (i := 1536) rfl rfl
set_option maxRecDepth 20000 in
theorem wd_1537 : Cond.methodLink RX11 243 yX11_readOf ∈ zW := zW_in (i := 1537) rfl rfl
set_option maxRecDepth 20000 in
theorem wd_1539 : Cond.instanceMethod yX11_readOf ∈ zW := zW_in (i := 1539) rfl rfl
set_option maxRecDepth 20000 in
theorem wd_1540 : Cond.code yX11_readOf cX11_readOf 6 (some .int) ∈ zW := zW_in (i := 1540) rfl rfl
set_option maxRecDepth 20000 in
theorem wd_1541 : Cond.methodLink RX11 233 yX11_isSeen ∈ zW := zW_in (i := 1541) rfl rfl
set_option maxRecDepth 20000 in
theorem wd_1543 : Cond.instanceMethod yX11_isSeen ∈ zW := zW_in (i := 1543) rfl rfl
set_option maxRecDepth 20000 in
theorem wd_1544 : Cond.code yX11_isSeen cX11_isSeen 5 (some .boolean) ∈ zW := zW_in (i := 1544) rfl rfl
set_option maxRecDepth 20000 in
theorem wd_1545 : Cond.methodLink RX11 268 yX11_outletWorks ∈ zW := zW_in (i := 1545) rfl rfl
set_option maxRecDepth 20000 in
theorem wd_1547 : Cond.instanceMethod yX11_outletWorks ∈ zW := zW_in (i := 1547) rfl rfl
set_option maxRecDepth 20000 in
theorem wd_1548 : Cond.code yX11_outletWorks cX11_outletWorks 5 none ∈ zW := zW_in (i := 1548) rfl rfl
set_option maxRecDepth 20000 in
theorem wd_1549 : Cond.methodLink RX11 246 yX11_destinationAt ∈ zW := zW_in (i := 1549) rfl rfl
set_option maxRecDepth 20000 in
theorem wd_1551 : Cond.instanceMethod yX11_destinationAt ∈ zW := zW_in (i := 1551) rfl rfl
set_option maxRecDepth 20000 in
theorem wd_1552 : Cond.code yX11_destinationAt cX11_destinationAt 4 (some .int) ∈ zW := zW_in (i := 1552) rfl rfl
set_option maxRecDepth 20000 in
theorem wd_1553 : Cond.methodLink RX11 249 yX11_stateIn ∈ zW := zW_in (i := 1553) rfl rfl
set_option maxRecDepth 20000 in
theorem wd_1554 : Cond.static yX11_stateIn ∈ zW := zW_in (i := 1554) rfl rfl
set_option maxRecDepth 20000 in
theorem wd_1555 : Cond.code yX11_stateIn cX11_stateIn 1 (some .int) ∈ zW := zW_in (i := 1555) rfl rfl
set_option maxRecDepth 20000 in
theorem wd_1556 : Cond.methodLink RX11 252 yX11_manyIn ∈ zW := zW_in (i := 1556) rfl rfl
set_option maxRecDepth 20000 in
theorem wd_1558 : Cond.instanceMethod yX11_manyIn ∈ zW := zW_in (i := 1558) rfl rfl
set_option maxRecDepth 20000 in
theorem wd_1559 : Cond.code yX11_manyIn cX11_manyIn 5 (some .int) ∈ zW := zW_in (i := 1559) rfl rfl
set_option maxRecDepth 20000 in
theorem wd_1560 : Cond.methodLink RX11 255 yX11_takesIn ∈ zW := zW_in (i := 1560) rfl rfl
set_option maxRecDepth 20000 in
theorem wd_1562 : Cond.instanceMethod yX11_takesIn ∈ zW := zW_in (i := 1562) rfl rfl
set_option maxRecDepth 20000 in
theorem wd_1563 : Cond.code yX11_takesIn cX11_takesIn 8 none ∈ zW := zW_in (i := 1563) rfl rfl
set_option maxRecDepth 20000 in
theorem wd_1568 : Cond.methodLink RX11 313 yX11_isPosition ∈ zW := zW_in (i := 1568) rfl rfl
set_option maxRecDepth 20000 in
theorem wd_1570 : Cond.instanceMethod yX11_isPosition ∈ zW := zW_in (i := 1570) rfl rfl
set_option maxRecDepth 20000 in
theorem wd_1571 : Cond.code yX11_isPosition cX11_isPosition 2 (some .boolean) ∈ zW := zW_in (i := 1571) rfl rfl
set_option maxRecDepth 20000 in
theorem wd_1596 : Cond.constantLong RX11 316 6 ∈ zW := zW_in (i := 1596) rfl rfl
set_option maxRecDepth 20000 in
theorem wd_1605 : Cond.methodLink RX11 318 yX11_isFlight ∈ zW := zW_in (i := 1605) rfl rfl
set_option maxRecDepth 20000 in
theorem wd_1607 : Cond.instanceMethod yX11_isFlight ∈ zW := zW_in (i := 1607) rfl rfl
set_option maxRecDepth 20000 in
theorem wd_1608 : Cond.code yX11_isFlight cX11_isFlight 2 (some .boolean) ∈ zW := zW_in (i := 1608) rfl rfl
set_option maxRecDepth 20000 in
theorem wd_1625 : Cond.methodLink RX11 321 yX11_hasRecord ∈ zW := zW_in (i := 1625) rfl rfl
set_option maxRecDepth 20000 in
theorem wd_1627 : Cond.instanceMethod yX11_hasRecord ∈ zW := zW_in (i := 1627) rfl rfl
set_option maxRecDepth 20000 in
theorem wd_1628 : Cond.code yX11_hasRecord cX11_hasRecord 2 (some .boolean) ∈ zW := zW_in (i := 1628) rfl rfl
set_option maxRecDepth 20000 in
theorem wd_1649 : Cond.methodLink RX11 324 yX11_isBag ∈ zW := zW_in (i := 1649) rfl rfl
set_option maxRecDepth 20000 in
theorem wd_1651 : Cond.instanceMethod yX11_isBag ∈ zW := zW_in (i := 1651) rfl rfl
set_option maxRecDepth 20000 in
theorem wd_1652 : Cond.code yX11_isBag cX11_isBag 2 (some .boolean) ∈ zW := zW_in (i := 1652) rfl rfl
set_option maxRecDepth 20000 in
theorem wd_1661 : Cond.methodLink RX11 327 yX11_isIn ∈ zW := zW_in (i := 1661) rfl rfl
set_option maxRecDepth 20000 in
theorem wd_1663 : Cond.instanceMethod yX11_isIn ∈ zW := zW_in (i := 1663) rfl rfl
set_option maxRecDepth 20000 in
theorem wd_1664 : Cond.code yX11_isIn cX11_isIn 2 (some .boolean) ∈ zW := zW_in (i := 1664) rfl rfl
set_option maxRecDepth 20000 in
theorem wd_1673 : Cond.methodLink RX11 330 yX11_sizeOf ∈ zW := zW_in (i := 1673) rfl rfl
set_option maxRecDepth 20000 in
theorem wd_1675 : Cond.instanceMethod yX11_sizeOf ∈ zW := zW_in (i := 1675) rfl rfl
set_option maxRecDepth 20000 in
theorem wd_1676 : Cond.code yX11_sizeOf cX11_sizeOf 4 (some .int) ∈ zW := zW_in (i := 1676) rfl rfl
set_option maxRecDepth 20000 in
theorem wd_1717 : Cond.constantLong RX11 333 7 ∈ zW := zW_in (i := 1717) rfl rfl
set_option maxRecDepth 20000 in
theorem wd_1722 : Cond.methodLink RX11 335 yX11_isFor ∈ zW := zW_in (i := 1722) rfl rfl
set_option maxRecDepth 20000 in
theorem wd_1724 : Cond.instanceMethod yX11_isFor ∈ zW := zW_in (i := 1724) rfl rfl
set_option maxRecDepth 20000 in
theorem wd_1725 : Cond.code yX11_isFor cX11_isFor 4 (some .boolean) ∈ zW := zW_in (i := 1725) rfl rfl
set_option maxRecDepth 20000 in
theorem wd_1734 : Cond.methodLink RX11 338 yX11_laysAside ∈ zW := zW_in (i := 1734) rfl rfl
set_option maxRecDepth 20000 in
theorem wd_1736 : Cond.instanceMethod yX11_laysAside ∈ zW := zW_in (i := 1736) rfl rfl
set_option maxRecDepth 20000 in
theorem wd_1737 : Cond.code yX11_laysAside cX11_laysAside 2 none ∈ zW := zW_in (i := 1737) rfl rfl
set_option maxRecDepth 20000 in
theorem wd_1738 : Cond.methodLink RX11 341 yX11_ticksFor ∈ zW := zW_in (i := 1738) rfl rfl
set_option maxRecDepth 20000 in
theorem wd_1740 : Cond.instanceMethod yX11_ticksFor ∈ zW := zW_in (i := 1740) rfl rfl
set_option maxRecDepth 20000 in
theorem wd_1741 : Cond.code yX11_ticksFor cX11_ticksFor 4 (some .int) ∈ zW := zW_in (i := 1741) rfl rfl
set_option maxRecDepth 20000 in
theorem wd_1742 : Cond.methodLink RX11 344 yX11_comesBack ∈ zW := zW_in (i := 1742) rfl rfl
set_option maxRecDepth 20000 in
theorem wd_1744 : Cond.instanceMethod yX11_comesBack ∈ zW := zW_in (i := 1744) rfl rfl
set_option maxRecDepth 20000 in
theorem wd_1745 : Cond.code yX11_comesBack cX11_comesBack 2 none ∈ zW := zW_in (i := 1745) rfl rfl
set_option maxRecDepth 20000 in
theorem wd_1758 : Cond.methodLink RX11 347 yX11_additional ∈ zW := zW_in (i := 1758) rfl rfl
set_option maxRecDepth 20000 in
theorem wd_1760 : Cond.instanceMethod yX11_additional ∈ zW := zW_in (i := 1760) rfl rfl
set_option maxRecDepth 20000 in
theorem wd_1761 : Cond.code yX11_additional cX11_additional 3 (some .int) ∈ zW := zW_in (i := 1761) rfl rfl
set_option maxRecDepth 20000 in
theorem wd_1766 : Cond.methodLink RX11 350 yX11_isInTime ∈ zW := zW_in (i := 1766) rfl rfl
set_option maxRecDepth 20000 in
theorem wd_1768 : Cond.instanceMethod yX11_isInTime ∈ zW := zW_in (i := 1768) rfl rfl
set_option maxRecDepth 20000 in
theorem wd_1769 : Cond.code yX11_isInTime cX11_isInTime 7 (some .boolean) ∈ zW := zW_in (i := 1769) rfl rfl
set_option maxRecDepth 20000 in
theorem wd_1774 : Cond.methodLink RX11 380 yX11_saysMap ∈ zW := zW_in (i := 1774) rfl rfl
set_option maxRecDepth 20000 in
theorem wd_1776 : Cond.instanceMethod yX11_saysMap ∈ zW := zW_in (i := 1776) rfl rfl
set_option maxRecDepth 20000 in
theorem wd_1777 : Cond.code yX11_saysMap cX11_saysMap 4 none ∈ zW := zW_in (i := 1777) rfl rfl
set_option maxRecDepth 20000 in
theorem wd_1778 : Cond.methodLink RX11 359 yX11_says ∈ zW := zW_in (i := 1778) rfl rfl
set_option maxRecDepth 20000 in
theorem wd_1780 : Cond.instanceMethod yX11_says ∈ zW := zW_in (i := 1780) rfl rfl
set_option maxRecDepth 20000 in
theorem wd_1781 : Cond.code yX11_says cX11_says 2 none ∈ zW := zW_in (i := 1781) rfl rfl
set_option maxRecDepth 20000 in
theorem wd_1786 : Cond.methodLink RX11 383 yX11_said ∈ zW := zW_in (i := 1786) rfl rfl
set_option maxRecDepth 20000 in
theorem wd_1788 : Cond.instanceMethod yX11_said ∈ zW := zW_in (i := 1788) rfl rfl
set_option maxRecDepth 20000 in
theorem wd_1789 : Cond.code yX11_said cX11_said 2 (some .int) ∈ zW := zW_in (i := 1789) rfl rfl
set_option maxRecDepth 20000 in
theorem wd_1794 : Cond.methodLink RX11 386 yX11_saysSetup ∈ zW := zW_in (i := 1794) rfl rfl
set_option maxRecDepth 20000 in
theorem wd_1796 : Cond.instanceMethod yX11_saysSetup ∈ zW := zW_in (i := 1796) rfl rfl
set_option maxRecDepth 20000 in
theorem wd_1797 : Cond.code yX11_saysSetup cX11_saysSetup 2 none ∈ zW := zW_in (i := 1797) rfl rfl
set_option maxRecDepth 20000 in
theorem wd_1798 : Cond.methodLink RX11 362 yX11_saysWord ∈ zW := zW_in (i := 1798) rfl rfl
set_option maxRecDepth 20000 in
theorem wd_1800 : Cond.instanceMethod yX11_saysWord ∈ zW := zW_in (i := 1800) rfl rfl
set_option maxRecDepth 20000 in
theorem wd_1801 : Cond.code yX11_saysWord cX11_saysWord 5 none ∈ zW := zW_in (i := 1801) rfl rfl
set_option maxRecDepth 20000 in
theorem wd_1802 : Cond.constantLong RX11 357 31 ∈ zW := zW_in (i := 1802) rfl rfl
set_option maxRecDepth 20000 in
theorem wd_1803 : Cond.methodLink RX11 366 yX11_saysNumber ∈ zW := zW_in (i := 1803) rfl rfl
set_option maxRecDepth 20000 in
theorem wd_1805 : Cond.instanceMethod yX11_saysNumber ∈ zW := zW_in (i := 1805) rfl rfl
set_option maxRecDepth 20000 in
theorem wd_1806 : Cond.code yX11_saysNumber cX11_saysNumber 3 none ∈ zW := zW_in (i := 1806) rfl rfl
set_option maxRecDepth 20000 in
theorem wd_1807 : Cond.methodLink RX11 377 yX11_saysDevice ∈ zW := zW_in (i := 1807) rfl rfl
set_option maxRecDepth 20000 in
theorem wd_1809 : Cond.instanceMethod yX11_saysDevice ∈ zW := zW_in (i := 1809) rfl rfl
set_option maxRecDepth 20000 in
theorem wd_1810 : Cond.code yX11_saysDevice cX11_saysDevice 3 none ∈ zW := zW_in (i := 1810) rfl rfl
set_option maxRecDepth 20000 in
theorem wd_1811 : Cond.methodLink RX11 369 yX11_wordOf ∈ zW := zW_in (i := 1811) rfl rfl
set_option maxRecDepth 20000 in
theorem wd_1812 : Cond.static yX11_wordOf ∈ zW := zW_in (i := 1812) rfl rfl
set_option maxRecDepth 20000 in
theorem wd_1813 : Cond.code yX11_wordOf cX11_wordOf 1 (some .long) ∈ zW := zW_in (i := 1813) rfl rfl
set_option maxRecDepth 20000 in
theorem wd_1814 : Cond.methodLink RX11 373 yX11_saysBoth ∈ zW := zW_in (i := 1814) rfl rfl
set_option maxRecDepth 20000 in
theorem wd_1816 : Cond.instanceMethod yX11_saysBoth ∈ zW := zW_in (i := 1816) rfl rfl
set_option maxRecDepth 20000 in
theorem wd_1817 : Cond.code yX11_saysBoth cX11_saysBoth 4 none ∈ zW := zW_in (i := 1817) rfl rfl
set_option maxRecDepth 20000 in
theorem wd_1826 : Cond.fieldLink RJ0 9 "java/lang/String" "value" "[B" ∈ zW := zW_in (i := 1826) rfl rfl
set_option maxRecDepth 20000 in
theorem wd_1827 : Cond.fieldLink RJ0 15 "java/lang/String" "coder" "B" ∈ zW := zW_in (i := 1827) rfl rfl
