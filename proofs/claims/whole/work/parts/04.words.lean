/-! ===== words of the tables, by their places ===== -/
theorem wd_0 : (.selects "OddsSolver$Graph" yX4_stateAt yX4_stateAt : Cond) ∈ mj_tb := mj_seg_0 (j := 0) (by decide +kernel) rfl
theorem wd_1 : (.selects "OddsSolver$Graph" yX4_leave yX4_leave : Cond) ∈ mj_tb := mj_seg_0 (j := 1) (by decide +kernel) rfl
theorem wd_2 : (.selects "OddsSolver$Graph" yX4_lead yX4_lead : Cond) ∈ mj_tb := mj_seg_0 (j := 2) (by decide +kernel) rfl
theorem wd_3 : (.selects "OddsSolver$Graph" yX4_findTrapped yX4_findTrapped : Cond) ∈ mj_tb := mj_seg_0 (j := 3) (by decide +kernel) rfl
theorem wd_4 : (.selects "OddsSolver$Graph" yX4_leadsOut yX4_leadsOut : Cond) ∈ mj_tb := mj_seg_0 (j := 4) (by decide +kernel) rfl
theorem wd_5 : (.selects "OddsSolver" yX10_needNumber yX10_needNumber : Cond) ∈ mj_tb := mj_seg_0 (j := 5) (by decide +kernel) rfl
theorem wd_6 : (.selects "OddsSolver" yX10_refuseArgument yX10_refuseArgument : Cond) ∈ mj_tb := mj_seg_0 (j := 6) (by decide +kernel) rfl
theorem wd_8 : (.selects "OddsSolver$Reader" yX8_goOn yX8_goOn : Cond) ∈ mj_tb := mj_seg_0 (j := 8) (by decide +kernel) rfl
theorem wd_9 : (.selects "OddsSolver$Reader" yX8_isSign yX8_isSign : Cond) ∈ mj_tb := mj_seg_0 (j := 9) (by decide +kernel) rfl
theorem wd_10 : (.selects "OddsSolver$Reader" yX8_closeBlock yX8_closeBlock : Cond) ∈ mj_tb := mj_seg_0 (j := 10) (by decide +kernel) rfl
theorem wd_11 : (.selects "OddsSolver$Reader" yX8_isWord yX8_isWord : Cond) ∈ mj_tb := mj_seg_0 (j := 11) (by decide +kernel) rfl
theorem wd_12 : (.selects "OddsSolver$Reader" yX8_openBlock yX8_openBlock : Cond) ∈ mj_tb := mj_seg_0 (j := 12) (by decide +kernel) rfl
theorem wd_13 : (.selects "OddsSolver$Reader" yX8_fail yX8_fail : Cond) ∈ mj_tb := mj_seg_0 (j := 13) (by decide +kernel) rfl
theorem wd_14 : (.selects "OddsSolver$Reader" yX8_readSign yX8_readSign : Cond) ∈ mj_tb := mj_seg_0 (j := 14) (by decide +kernel) rfl
theorem wd_15 : (.selects "OddsSolver$Reader" yX8_readStatement yX8_readStatement : Cond) ∈ mj_tb := mj_seg_0 (j := 15) (by decide +kernel) rfl
theorem wd_16 : (.selects "OddsSolver$Reader" yX8_kindHere yX8_kindHere : Cond) ∈ mj_tb := mj_seg_0 (j := 16) (by decide +kernel) rfl
theorem wd_17 : (.selects "OddsSolver$Reader" yX8_variableHere yX8_variableHere : Cond) ∈ mj_tb := mj_seg_0 (j := 17) (by decide +kernel) rfl
theorem wd_18 : (.selects "OddsSolver$Reader" yX8_readVariable yX8_readVariable : Cond) ∈ mj_tb := mj_seg_0 (j := 18) (by decide +kernel) rfl
theorem wd_19 : (.selects "OddsSolver$Reader" yX8_readSum yX8_readSum : Cond) ∈ mj_tb := mj_seg_0 (j := 19) (by decide +kernel) rfl
theorem wd_20 : (.selects "OddsSolver$Reader" yX8_readTerm yX8_readTerm : Cond) ∈ mj_tb := mj_seg_0 (j := 20) (by decide +kernel) rfl
theorem wd_21 : (.selects "OddsSolver$Reader" yX8_readNumber yX8_readNumber : Cond) ∈ mj_tb := mj_seg_0 (j := 21) (by decide +kernel) rfl
theorem wd_22 : (.selects "OddsSolver$Reader" yX8_readBehindWord yX8_readBehindWord : Cond) ∈ mj_tb := mj_seg_0 (j := 22) (by decide +kernel) rfl
theorem wd_23 : (.selects "OddsSolver$Reader" yX8_readRelation yX8_readRelation : Cond) ∈ mj_tb := mj_seg_0 (j := 23) (by decide +kernel) rfl
theorem wd_24 : (.selects "OddsSolver$Program" yX7_placeBehind yX7_placeBehind : Cond) ∈ mj_tb := mj_seg_0 (j := 24) (by decide +kernel) rfl
theorem wd_25 : (.selects "OddsSolver" yX10_needVariable yX10_needVariable : Cond) ∈ mj_tb := mj_seg_0 (j := 25) (by decide +kernel) rfl
theorem wd_26 : (.selects "OddsSolver" yX10_refuseElement yX10_refuseElement : Cond) ∈ mj_tb := mj_seg_0 (j := 26) (by decide +kernel) rfl
theorem wd_27 : (.selects "OddsSolver" yX10_needStatement yX10_needStatement : Cond) ∈ mj_tb := mj_seg_0 (j := 27) (by decide +kernel) rfl
theorem wd_28 : (.selects "OddsSolver" yX10_needStates yX10_needStates : Cond) ∈ mj_tb := mj_seg_0 (j := 28) (by decide +kernel) rfl
theorem wd_29 : (.selects "OddsSolver" yX10_refuseState yX10_refuseState : Cond) ∈ mj_tb := mj_seg_0 (j := 29) (by decide +kernel) rfl
theorem wd_30 : (.selects "OddsSolver" yX10_needState yX10_needState : Cond) ∈ mj_tb := mj_seg_0 (j := 30) (by decide +kernel) rfl
theorem wd_31 : (.selects "OddsSolver" yX10_needForm yX10_needForm : Cond) ∈ mj_tb := mj_seg_0 (j := 31) (by decide +kernel) rfl
theorem wd_32 : (.selects "OddsSolver$Equations" yX2_write yX2_write : Cond) ∈ mj_tb := mj_seg_0 (j := 32) (by decide +kernel) rfl
theorem wd_33 : (.selects "OddsSolver$Equations" yX2_writeArcs yX2_writeArcs : Cond) ∈ mj_tb := mj_seg_0 (j := 33) (by decide +kernel) rfl
theorem wd_34 : (.selects "OddsSolver$Equations" yX2_eliminate yX2_eliminate : Cond) ∈ mj_tb := mj_seg_0 (j := 34) (by decide +kernel) rfl
theorem wd_35 : (.selects "OddsSolver$Equations" yX2_normalise yX2_normalise : Cond) ∈ mj_tb := mj_seg_0 (j := 35) (by decide +kernel) rfl
theorem wd_36 : (.selects "OddsSolver$Equations" yX2_takeAway yX2_takeAway : Cond) ∈ mj_tb := mj_seg_0 (j := 36) (by decide +kernel) rfl
theorem wd_37 : (.selects "OddsSolver$Equations" yX2_substitute yX2_substitute : Cond) ∈ mj_tb := mj_seg_0 (j := 37) (by decide +kernel) rfl
theorem wd_38 : (.selects "OddsSolver$Equations" yX2_passOn yX2_passOn : Cond) ∈ mj_tb := mj_seg_0 (j := 38) (by decide +kernel) rfl
theorem wd_39 : (.selects "OddsSolver$Equations" yX2_addUp yX2_addUp : Cond) ∈ mj_tb := mj_seg_0 (j := 39) (by decide +kernel) rfl
theorem wd_40 : (.selects "OddsSolver" yX10_needEnd yX10_needEnd : Cond) ∈ mj_tb := mj_seg_0 (j := 40) (by decide +kernel) rfl
theorem wd_41 : (.selects "OddsSolver" yX10_coupleInForm yX10_coupleInForm : Cond) ∈ mj_tb := mj_seg_0 (j := 41) (by decide +kernel) rfl
theorem wd_42 : (.selects "OddsSolver$Spread" yX9_atEnd yX9_atEnd : Cond) ∈ mj_tb := mj_seg_0 (j := 42) (by decide +kernel) rfl
theorem wd_43 : (.selects "OddsSolver$Spread" yX9_moveOn yX9_moveOn : Cond) ∈ mj_tb := mj_seg_0 (j := 43) (by decide +kernel) rfl
theorem wd_44 : (.selects "OddsSolver$Lumps" yX6_labelKinds yX6_labelKinds : Cond) ∈ mj_tb := mj_seg_0 (j := 44) (by decide +kernel) rfl
theorem wd_45 : (.selects "OddsSolver$Lumps" yX6_split yX6_split : Cond) ∈ mj_tb := mj_seg_0 (j := 45) (by decide +kernel) rfl
theorem wd_46 : (.selects "OddsSolver$Lumps" yX6_flowAlike yX6_flowAlike : Cond) ∈ mj_tb := mj_seg_0 (j := 46) (by decide +kernel) rfl
theorem wd_47 : (.selects "OddsSolver$Lumps" yX6_addFlow yX6_addFlow : Cond) ∈ mj_tb := mj_seg_0 (j := 47) (by decide +kernel) rfl
theorem wd_48 : (.selects "OddsSolver$Likeliest" yX5_weigh yX5_weigh : Cond) ∈ mj_tb := mj_seg_0 (j := 48) (by decide +kernel) rfl
theorem wd_49 : (.selects "OddsSolver$Likeliest" yX5_trace yX5_trace : Cond) ∈ mj_tb := mj_seg_0 (j := 49) (by decide +kernel) rfl
theorem wd_50 : (.selects "OddsSolverModel" yX11_puts yX11_puts : Cond) ∈ mj_tb := mj_seg_0 (j := 50) (by decide +kernel) rfl
theorem wd_51 : (.selects "OddsSolverModel" yX11_isFine yX11_isFine : Cond) ∈ mj_tb := mj_seg_0 (j := 51) (by decide +kernel) rfl
theorem wd_52 : (.selects "OddsSolverModel" yX11_row yX11_row : Cond) ∈ mj_tb := mj_seg_0 (j := 52) (by decide +kernel) rfl
theorem wd_53 : (.selects "OddsSolverModel" yX11_begins yX11_begins : Cond) ∈ mj_tb := mj_seg_0 (j := 53) (by decide +kernel) rfl
theorem wd_54 : (.selects "OddsSolverModel" yX11_isNameHere yX11_isNameHere : Cond) ∈ mj_tb := mj_seg_0 (j := 54) (by decide +kernel) rfl
theorem wd_55 : (.selects "OddsSolverModel" yX11_sign yX11_sign : Cond) ∈ mj_tb := mj_seg_0 (j := 55) (by decide +kernel) rfl
theorem wd_56 : (.selects "OddsSolverModel" yX11_isSmall yX11_isSmall : Cond) ∈ mj_tb := mj_seg_0 (j := 56) (by decide +kernel) rfl
theorem wd_57 : (.selects "OddsSolverModel" yX11_isHere yX11_isHere : Cond) ∈ mj_tb := mj_seg_0 (j := 57) (by decide +kernel) rfl
theorem wd_58 : (.selects "OddsSolverModel" yX11_wrong yX11_wrong : Cond) ∈ mj_tb := mj_seg_0 (j := 58) (by decide +kernel) rfl
theorem wd_59 : (.selects "OddsSolverModel" yX11_joins yX11_joins : Cond) ∈ mj_tb := mj_seg_0 (j := 59) (by decide +kernel) rfl
theorem wd_60 : (.selects "OddsSolverModel" yX11_behind yX11_behind : Cond) ∈ mj_tb := mj_seg_0 (j := 60) (by decide +kernel) rfl
theorem wd_61 : (.selects "OddsSolverModel" yX11_reads yX11_reads : Cond) ∈ mj_tb := mj_seg_0 (j := 61) (by decide +kernel) rfl
theorem wd_62 : (.selects "OddsSolverModel" yX11_name yX11_name : Cond) ∈ mj_tb := mj_seg_0 (j := 62) (by decide +kernel) rfl
theorem wd_63 : (.selects "OddsSolverModel" yX11_needs yX11_needs : Cond) ∈ mj_tb := mj_seg_0 (j := 63) (by decide +kernel) rfl
theorem wd_64 : (.selects "OddsSolverModel" yX11_takes yX11_takes : Cond) ∈ mj_tb := mj_seg_0 (j := 64) (by decide +kernel) rfl
theorem wd_65 : (.selects "OddsSolverModel" yX11_sum yX11_sum : Cond) ∈ mj_tb := mj_seg_0 (j := 65) (by decide +kernel) rfl
theorem wd_66 : (.selects "OddsSolverModel" yX11_term yX11_term : Cond) ∈ mj_tb := mj_seg_0 (j := 66) (by decide +kernel) rfl
theorem wd_67 : (.selects "OddsSolverModel" yX11_isDigit yX11_isDigit : Cond) ∈ mj_tb := mj_seg_0 (j := 67) (by decide +kernel) rfl
theorem wd_68 : (.selects "OddsSolverModel" yX11_numberTo yX11_numberTo : Cond) ∈ mj_tb := mj_seg_0 (j := 68) (by decide +kernel) rfl
theorem wd_69 : (.selects "OddsSolverModel" yX11_number yX11_number : Cond) ∈ mj_tb := mj_seg_0 (j := 69) (by decide +kernel) rfl
theorem wd_70 : (.selects "OddsSolverModel" yX11_passes yX11_passes : Cond) ∈ mj_tb := mj_seg_0 (j := 70) (by decide +kernel) rfl
theorem wd_71 : (.selects "OddsSolverModel" yX11_forks yX11_forks : Cond) ∈ mj_tb := mj_seg_0 (j := 71) (by decide +kernel) rfl
theorem wd_72 : (.selects "OddsSolverModel" yX11_block yX11_block : Cond) ∈ mj_tb := mj_seg_0 (j := 72) (by decide +kernel) rfl
theorem wd_73 : (.selects "OddsSolverModel" yX11_test yX11_test : Cond) ∈ mj_tb := mj_seg_0 (j := 73) (by decide +kernel) rfl
theorem wd_74 : (.selects "OddsSolverModel" yX11_stands yX11_stands : Cond) ∈ mj_tb := mj_seg_0 (j := 74) (by decide +kernel) rfl
theorem wd_75 : (.selects "OddsSolverModel" yX11_of yX11_of : Cond) ∈ mj_tb := mj_seg_0 (j := 75) (by decide +kernel) rfl
theorem wd_76 : (.selects "OddsSolverModel" yX11_isOther yX11_isOther : Cond) ∈ mj_tb := mj_seg_0 (j := 76) (by decide +kernel) rfl
theorem wd_77 : (.selects "OddsSolverModel" yX11_isName yX11_isName : Cond) ∈ mj_tb := mj_seg_0 (j := 77) (by decide +kernel) rfl
theorem wd_78 : (.selects "OddsSolverModel" yX11_changes yX11_changes : Cond) ∈ mj_tb := mj_seg_0 (j := 78) (by decide +kernel) rfl
theorem wd_79 : (.selects "OddsSolverModel" yX11_isStatement yX11_isStatement : Cond) ∈ mj_tb := mj_seg_0 (j := 79) (by decide +kernel) rfl
theorem wd_80 : (.selects "OddsSolverModel" yX11_lays yX11_lays : Cond) ∈ mj_tb := mj_seg_0 (j := 80) (by decide +kernel) rfl
theorem wd_81 : (.selects "OddsSolverModel" yX11_with yX11_with : Cond) ∈ mj_tb := mj_seg_0 (j := 81) (by decide +kernel) rfl
theorem wd_82 : (.selects "OddsSolverModel" yX11_valueIn yX11_valueIn : Cond) ∈ mj_tb := mj_seg_0 (j := 82) (by decide +kernel) rfl
theorem wd_83 : (.selects "OddsSolverModel" yX11_stateFor yX11_stateFor : Cond) ∈ mj_tb := mj_seg_0 (j := 83) (by decide +kernel) rfl
theorem wd_84 : (.selects "OddsSolverModel" yX11_goesOn yX11_goesOn : Cond) ∈ mj_tb := mj_seg_0 (j := 84) (by decide +kernel) rfl
theorem wd_85 : (.selects "OddsSolverModel" yX11_sumIn yX11_sumIn : Cond) ∈ mj_tb := mj_seg_0 (j := 85) (by decide +kernel) rfl
theorem wd_86 : (.selects "OddsSolverModel" yX11_termIn yX11_termIn : Cond) ∈ mj_tb := mj_seg_0 (j := 86) (by decide +kernel) rfl
theorem wd_87 : (.selects "OddsSolverModel" yX11_lead yX11_lead : Cond) ∈ mj_tb := mj_seg_0 (j := 87) (by decide +kernel) rfl
theorem wd_88 : (.selects "OddsSolverModel" yX11_holds yX11_holds : Cond) ∈ mj_tb := mj_seg_0 (j := 88) (by decide +kernel) rfl
theorem wd_89 : (.selects "OddsSolverModel" yX11_isEnd yX11_isEnd : Cond) ∈ mj_tb := mj_seg_0 (j := 89) (by decide +kernel) rfl
theorem wd_90 : (.selects "OddsSolverModel" yX11_isFew yX11_isFew : Cond) ∈ mj_tb := mj_seg_0 (j := 90) (by decide +kernel) rfl
theorem wd_91 : (.selects "OddsSolverModel" yX11_isState yX11_isState : Cond) ∈ mj_tb := mj_seg_0 (j := 91) (by decide +kernel) rfl
theorem wd_92 : (.selects "OddsSolverModel" yX11_isForm yX11_isForm : Cond) ∈ mj_tb := mj_seg_0 (j := 92) (by decide +kernel) rfl
theorem wd_93 : (.selects "OddsSolverModel" yX11_solves yX11_solves : Cond) ∈ mj_tb := mj_seg_0 (j := 93) (by decide +kernel) rfl
theorem wd_94 : (.selects "OddsSolverModel" yX11_laysGrid yX11_laysGrid : Cond) ∈ mj_tb := mj_seg_0 (j := 94) (by decide +kernel) rfl
theorem wd_95 : (.selects "OddsSolverModel" yX11_simple yX11_simple : Cond) ∈ mj_tb := mj_seg_0 (j := 95) (by decide +kernel) rfl
theorem wd_96 : (.selects "OddsSolverModel" yX11_ended yX11_ended : Cond) ∈ mj_tb := mj_seg_0 (j := 96) (by decide +kernel) rfl
theorem wd_97 : (.selects "OddsSolverModel" yX11_sumAt yX11_sumAt : Cond) ∈ mj_tb := mj_seg_0 (j := 97) (by decide +kernel) rfl
theorem wd_98 : (.selects "OddsSolverModel" yX11_hasEnd yX11_hasEnd : Cond) ∈ mj_tb := mj_seg_0 (j := 98) (by decide +kernel) rfl
theorem wd_99 : (.selects "OddsSolverModel" yX11_isSure yX11_isSure : Cond) ∈ mj_tb := mj_seg_0 (j := 99) (by decide +kernel) rfl
theorem wd_100 : (.selects "OddsSolverModel" yX11_oddsAlone yX11_oddsAlone : Cond) ∈ mj_tb := mj_seg_0 (j := 100) (by decide +kernel) rfl
theorem wd_101 : (.selects "OddsSolverModel" yX11_oddsOf yX11_oddsOf : Cond) ∈ mj_tb := mj_seg_0 (j := 101) (by decide +kernel) rfl
theorem wd_102 : (.selects "OddsSolverModel" yX11_parts yX11_parts : Cond) ∈ mj_tb := mj_seg_0 (j := 102) (by decide +kernel) rfl
theorem wd_103 : (.selects "OddsSolverModel" yX11_areNear yX11_areNear : Cond) ∈ mj_tb := mj_seg_0 (j := 103) (by decide +kernel) rfl
theorem wd_104 : (.selects "OddsSolverModel" yX11_areAlike yX11_areAlike : Cond) ∈ mj_tb := mj_seg_0 (j := 104) (by decide +kernel) rfl
theorem wd_105 : (.selects "OddsSolverModel" yX11_rank yX11_rank : Cond) ∈ mj_tb := mj_seg_0 (j := 105) (by decide +kernel) rfl
theorem wd_106 : (.selects "OddsSolverModel" yX11_length yX11_length : Cond) ∈ mj_tb := mj_seg_0 (j := 106) (by decide +kernel) rfl
theorem wd_107 : (.selects "OddsSolverModel" yX11_weighs yX11_weighs : Cond) ∈ mj_tb := mj_seg_0 (j := 107) (by decide +kernel) rfl
theorem wd_108 : (.selects "OddsSolverModel" yX11_isDrawn yX11_isDrawn : Cond) ∈ mj_tb := mj_seg_0 (j := 108) (by decide +kernel) rfl
theorem wd_109 : (.selects "OddsSolverModel" yX11_mostOf yX11_mostOf : Cond) ∈ mj_tb := mj_seg_0 (j := 109) (by decide +kernel) rfl
theorem wd_110 : (.selects "OddsSolverModel" yX11_ahead yX11_ahead : Cond) ∈ mj_tb := mj_seg_0 (j := 110) (by decide +kernel) rfl
theorem wd_111 : (.selects "OddsSolverModel" yX11_drawnAt yX11_drawnAt : Cond) ∈ mj_tb := mj_seg_0 (j := 111) (by decide +kernel) rfl
theorem wd_112 : (.selects "OddsSolverModel" yX11_arcTo yX11_arcTo : Cond) ∈ mj_tb := mj_seg_0 (j := 112) (by decide +kernel) rfl
theorem wd_114 : (.initialized "OddsSolver" : Cond) ∈ mj_tb := mj_seg_1 (j := 1) (by decide +kernel) rfl
theorem wd_115 : (.initialized "OddsSolver$Reader" : Cond) ∈ mj_tb := mj_seg_1 (j := 2) (by decide +kernel) rfl
theorem wd_116 : (.initialized "OddsSolver$Program" : Cond) ∈ mj_tb := mj_seg_1 (j := 3) (by decide +kernel) rfl
theorem wd_117 : (.initialized "OddsSolver$Changes" : Cond) ∈ mj_tb := mj_seg_1 (j := 4) (by decide +kernel) rfl
theorem wd_118 : (.initialized "OddsSolver$Graph" : Cond) ∈ mj_tb := mj_seg_1 (j := 5) (by decide +kernel) rfl
theorem wd_119 : (.initialized "OddsSolver$Equations" : Cond) ∈ mj_tb := mj_seg_1 (j := 6) (by decide +kernel) rfl
theorem wd_120 : (.initialized "OddsSolver$Spread" : Cond) ∈ mj_tb := mj_seg_1 (j := 7) (by decide +kernel) rfl
theorem wd_121 : (.initialized "OddsSolver$Lumps" : Cond) ∈ mj_tb := mj_seg_1 (j := 8) (by decide +kernel) rfl
theorem wd_122 : (.initialized "OddsSolver$Likeliest" : Cond) ∈ mj_tb := mj_seg_1 (j := 9) (by decide +kernel) rfl
theorem wd_123 : (.initialized "OddsSolverModel" : Cond) ∈ mj_tb := mj_seg_1 (j := 10) (by decide +kernel) rfl
theorem wd_128 : (.initialized "java/lang/Math" : Cond) ∈ mj_tb := mj_seg_1 (j := 15) (by decide +kernel) rfl
theorem wd_129 : (.initialized "java/lang/String" : Cond) ∈ mj_tb := mj_seg_1 (j := 16) (by decide +kernel) rfl
theorem wd_134 : (.initialized "OddsSolver$Digits" : Cond) ∈ mj_tb := mj_seg_1 (j := 21) (by decide +kernel) rfl
theorem wd_136 : (.initialized "java/util/Arrays" : Cond) ∈ mj_tb := mj_seg_1 (j := 23) (by decide +kernel) rfl
theorem wd_143 : (.initialized "OddsSolver$Field" : Cond) ∈ mj_tb := mj_seg_1 (j := 30) (by decide +kernel) rfl
theorem wd_147 : (.instanceMethod yX10_init : Cond) ∈ mj_tb := mj_seg_1 (j := 34) (by decide +kernel) rfl
theorem wd_148 : (.code yX10_init cX10_init 1 none : Cond) ∈ mj_tb := mj_seg_1 (j := 35) (by decide +kernel) rfl
theorem wd_555 : (.instanceMethod yX10_feed : Cond) ∈ mj_tb := mj_seg_2 (j := 202) (by decide +kernel) rfl
theorem wd_556 : (.selects "OddsSolver" yX10_feed yX10_feed : Cond) ∈ mj_tb := mj_seg_2 (j := 203) (by decide +kernel) rfl
theorem wd_557 : (.code yX10_feed cX10_feed 6 (some .int) : Cond) ∈ mj_tb := mj_seg_2 (j := 204) (by decide +kernel) rfl
theorem wd_559 : (.instanceMethod yX8_put : Cond) ∈ mj_tb := mj_seg_2 (j := 206) (by decide +kernel) rfl
theorem wd_560 : (.selects "OddsSolver$Reader" yX8_put yX8_put : Cond) ∈ mj_tb := mj_seg_2 (j := 207) (by decide +kernel) rfl
theorem wd_561 : (.code yX8_put cX8_put 3 none : Cond) ∈ mj_tb := mj_seg_2 (j := 208) (by decide +kernel) rfl
theorem wd_563 : (.instanceMethod yX10_fault : Cond) ∈ mj_tb := mj_seg_2 (j := 210) (by decide +kernel) rfl
theorem wd_564 : (.selects "OddsSolver" yX10_fault yX10_fault : Cond) ∈ mj_tb := mj_seg_2 (j := 211) (by decide +kernel) rfl
theorem wd_565 : (.code yX10_fault cX10_fault 1 (some .int) : Cond) ∈ mj_tb := mj_seg_2 (j := 212) (by decide +kernel) rfl
theorem wd_567 : (.instanceMethod yX10_undo : Cond) ∈ mj_tb := mj_seg_2 (j := 214) (by decide +kernel) rfl
theorem wd_568 : (.selects "OddsSolver" yX10_undo yX10_undo : Cond) ∈ mj_tb := mj_seg_2 (j := 215) (by decide +kernel) rfl
theorem wd_569 : (.code yX10_undo cX10_undo 3 (some .int) : Cond) ∈ mj_tb := mj_seg_2 (j := 216) (by decide +kernel) rfl
theorem wd_571 : (.instanceMethod yX0_latestWhere : Cond) ∈ mj_tb := mj_seg_2 (j := 218) (by decide +kernel) rfl
theorem wd_572 : (.selects "OddsSolver$Changes" yX0_latestWhere yX0_latestWhere : Cond) ∈ mj_tb := mj_seg_2 (j := 219) (by decide +kernel) rfl
theorem wd_573 : (.code yX0_latestWhere cX0_latestWhere 1 (some .int) : Cond) ∈ mj_tb := mj_seg_2 (j := 220) (by decide +kernel) rfl
theorem wd_575 : (.instanceMethod yX0_latestWas : Cond) ∈ mj_tb := mj_seg_2 (j := 222) (by decide +kernel) rfl
theorem wd_576 : (.selects "OddsSolver$Changes" yX0_latestWas yX0_latestWas : Cond) ∈ mj_tb := mj_seg_2 (j := 223) (by decide +kernel) rfl
theorem wd_577 : (.code yX0_latestWas cX0_latestWas 1 (some .int) : Cond) ∈ mj_tb := mj_seg_2 (j := 224) (by decide +kernel) rfl
theorem wd_579 : (.instanceMethod yX0_drop : Cond) ∈ mj_tb := mj_seg_2 (j := 226) (by decide +kernel) rfl
theorem wd_580 : (.selects "OddsSolver$Changes" yX0_drop yX0_drop : Cond) ∈ mj_tb := mj_seg_2 (j := 227) (by decide +kernel) rfl
theorem wd_581 : (.code yX0_drop cX0_drop 1 none : Cond) ∈ mj_tb := mj_seg_2 (j := 228) (by decide +kernel) rfl
theorem wd_583 : (.static yX1_put : Cond) ∈ mj_tb := mj_seg_2 (j := 230) (by decide +kernel) rfl
theorem wd_584 : (.code yX1_put cX1_put 3 (some .int) : Cond) ∈ mj_tb := mj_seg_2 (j := 231) (by decide +kernel) rfl
theorem wd_586 : (.static yX1_get : Cond) ∈ mj_tb := mj_seg_2 (j := 233) (by decide +kernel) rfl
theorem wd_587 : (.code yX1_get cX1_get 2 (some .int) : Cond) ∈ mj_tb := mj_seg_2 (j := 234) (by decide +kernel) rfl
theorem wd_591 : (.instanceMethod yX4_forget : Cond) ∈ mj_tb := mj_seg_2 (j := 238) (by decide +kernel) rfl
theorem wd_592 : (.selects "OddsSolver$Graph" yX4_forget yX4_forget : Cond) ∈ mj_tb := mj_seg_2 (j := 239) (by decide +kernel) rfl
theorem wd_593 : (.code yX4_forget cX4_forget 1 none : Cond) ∈ mj_tb := mj_seg_3 (j := 0) (by decide +kernel) rfl
theorem wd_595 : (.instanceMethod yX10_print : Cond) ∈ mj_tb := mj_seg_3 (j := 2) (by decide +kernel) rfl
theorem wd_596 : (.selects "OddsSolver" yX10_print yX10_print : Cond) ∈ mj_tb := mj_seg_3 (j := 3) (by decide +kernel) rfl
theorem wd_597 : (.code yX10_print cX10_print 4 (some .long) : Cond) ∈ mj_tb := mj_seg_3 (j := 4) (by decide +kernel) rfl
theorem wd_599 : (.instanceMethod yX4_explore : Cond) ∈ mj_tb := mj_seg_3 (j := 6) (by decide +kernel) rfl
theorem wd_600 : (.selects "OddsSolver$Graph" yX4_explore yX4_explore : Cond) ∈ mj_tb := mj_seg_3 (j := 7) (by decide +kernel) rfl
theorem wd_601 : (.code yX4_explore cX4_explore 4 none : Cond) ∈ mj_tb := mj_seg_3 (j := 8) (by decide +kernel) rfl
theorem wd_603 : (.static yJ7_fill_53178 : Cond) ∈ mj_tb := mj_seg_3 (j := 10) (by decide +kernel) rfl
theorem wd_604 : (.code yJ7_fill_53178 cJ7_fill_53178 4 none : Cond) ∈ mj_tb := mj_seg_3 (j := 11) (by decide +kernel) rfl
theorem wd_607 : (.instanceMethod yX4_stateAt : Cond) ∈ mj_tb := mj_seg_3 (j := 14) (by decide +kernel) rfl
theorem wd_608 : (.code yX4_stateAt cX4_stateAt 7 (some .int) : Cond) ∈ mj_tb := mj_seg_3 (j := 15) (by decide +kernel) rfl
theorem wd_613 : (.instanceMethod yX4_leave : Cond) ∈ mj_tb := mj_seg_3 (j := 20) (by decide +kernel) rfl
theorem wd_614 : (.code yX4_leave cX4_leave 7 none : Cond) ∈ mj_tb := mj_seg_3 (j := 21) (by decide +kernel) rfl
theorem wd_616 : (.instanceMethod yX7_assigned : Cond) ∈ mj_tb := mj_seg_3 (j := 23) (by decide +kernel) rfl
theorem wd_617 : (.selects "OddsSolver$Program" yX7_assigned yX7_assigned : Cond) ∈ mj_tb := mj_seg_3 (j := 24) (by decide +kernel) rfl
theorem wd_618 : (.code yX7_assigned cX7_assigned 3 (some .int) : Cond) ∈ mj_tb := mj_seg_3 (j := 25) (by decide +kernel) rfl
theorem wd_620 : (.static yX7_sumOf : Cond) ∈ mj_tb := mj_seg_3 (j := 27) (by decide +kernel) rfl
theorem wd_621 : (.code yX7_sumOf cX7_sumOf 5 (some .int) : Cond) ∈ mj_tb := mj_seg_3 (j := 28) (by decide +kernel) rfl
theorem wd_626 : (.instanceMethod yX4_lead : Cond) ∈ mj_tb := mj_seg_3 (j := 33) (by decide +kernel) rfl
theorem wd_627 : (.code yX4_lead cX4_lead 6 none : Cond) ∈ mj_tb := mj_seg_3 (j := 34) (by decide +kernel) rfl
theorem wd_629 : (.instanceMethod yX7_holds : Cond) ∈ mj_tb := mj_seg_3 (j := 36) (by decide +kernel) rfl
theorem wd_630 : (.selects "OddsSolver$Program" yX7_holds yX7_holds : Cond) ∈ mj_tb := mj_seg_3 (j := 37) (by decide +kernel) rfl
theorem wd_631 : (.code yX7_holds cX7_holds 5 (some .boolean) : Cond) ∈ mj_tb := mj_seg_3 (j := 38) (by decide +kernel) rfl
theorem wd_633 : (.instanceMethod yX4_isEnd : Cond) ∈ mj_tb := mj_seg_3 (j := 40) (by decide +kernel) rfl
theorem wd_634 : (.selects "OddsSolver$Graph" yX4_isEnd yX4_isEnd : Cond) ∈ mj_tb := mj_seg_3 (j := 41) (by decide +kernel) rfl
theorem wd_635 : (.code yX4_isEnd cX4_isEnd 2 (some .boolean) : Cond) ∈ mj_tb := mj_seg_3 (j := 42) (by decide +kernel) rfl
theorem wd_638 : (.instanceMethod yX4_findTrapped : Cond) ∈ mj_tb := mj_seg_3 (j := 45) (by decide +kernel) rfl
theorem wd_639 : (.code yX4_findTrapped cX4_findTrapped 4 none : Cond) ∈ mj_tb := mj_seg_3 (j := 46) (by decide +kernel) rfl
theorem wd_642 : (.instanceMethod yX4_leadsOut : Cond) ∈ mj_tb := mj_seg_3 (j := 49) (by decide +kernel) rfl
theorem wd_643 : (.code yX4_leadsOut cX4_leadsOut 3 (some .boolean) : Cond) ∈ mj_tb := mj_seg_3 (j := 50) (by decide +kernel) rfl
theorem wd_646 : (.instanceMethod yX10_status : Cond) ∈ mj_tb := mj_seg_3 (j := 53) (by decide +kernel) rfl
theorem wd_647 : (.selects "OddsSolver" yX10_status yX10_status : Cond) ∈ mj_tb := mj_seg_3 (j := 54) (by decide +kernel) rfl
theorem wd_648 : (.code yX10_status cX10_status 2 (some .int) : Cond) ∈ mj_tb := mj_seg_3 (j := 55) (by decide +kernel) rfl
theorem wd_654 : (.instanceMethod yX10_text : Cond) ∈ mj_tb := mj_seg_3 (j := 61) (by decide +kernel) rfl
theorem wd_655 : (.selects "OddsSolver" yX10_text yX10_text : Cond) ∈ mj_tb := mj_seg_3 (j := 62) (by decide +kernel) rfl
theorem wd_656 : (.code yX10_text cX10_text 3 (some .int) : Cond) ∈ mj_tb := mj_seg_3 (j := 63) (by decide +kernel) rfl
theorem wd_659 : (.instanceMethod yX10_needNumber : Cond) ∈ mj_tb := mj_seg_3 (j := 66) (by decide +kernel) rfl
theorem wd_660 : (.code yX10_needNumber cX10_needNumber 4 none : Cond) ∈ mj_tb := mj_seg_3 (j := 67) (by decide +kernel) rfl
theorem wd_663 : (.instanceMethod yX10_refuseArgument : Cond) ∈ mj_tb := mj_seg_3 (j := 70) (by decide +kernel) rfl
theorem wd_664 : (.code yX10_refuseArgument cX10_refuseArgument 1 none : Cond) ∈ mj_tb := mj_seg_3 (j := 71) (by decide +kernel) rfl
theorem wd_734 : (.instanceMethod yX8_read : Cond) ∈ mj_tb := mj_seg_3 (j := 141) (by decide +kernel) rfl
theorem wd_735 : (.selects "OddsSolver$Reader" yX8_read yX8_read : Cond) ∈ mj_tb := mj_seg_3 (j := 142) (by decide +kernel) rfl
theorem wd_736 : (.code yX8_read cX8_read 3 (some .int) : Cond) ∈ mj_tb := mj_seg_3 (j := 143) (by decide +kernel) rfl
theorem wd_738 : (.static yJ9_min_7cf53 : Cond) ∈ mj_tb := mj_seg_3 (j := 145) (by decide +kernel) rfl
theorem wd_739 : (.code yJ9_min_7cf53 cJ9_min_7cf53 2 (some .int) : Cond) ∈ mj_tb := mj_seg_3 (j := 146) (by decide +kernel) rfl
theorem wd_741 : (.instanceMethod yX7_clear : Cond) ∈ mj_tb := mj_seg_3 (j := 148) (by decide +kernel) rfl
theorem wd_742 : (.selects "OddsSolver$Program" yX7_clear yX7_clear : Cond) ∈ mj_tb := mj_seg_3 (j := 149) (by decide +kernel) rfl
theorem wd_743 : (.code yX7_clear cX7_clear 1 none : Cond) ∈ mj_tb := mj_seg_3 (j := 150) (by decide +kernel) rfl
theorem wd_746 : (.instanceMethod yX8_goOn : Cond) ∈ mj_tb := mj_seg_3 (j := 153) (by decide +kernel) rfl
theorem wd_747 : (.code yX8_goOn cX8_goOn 1 none : Cond) ∈ mj_tb := mj_seg_3 (j := 154) (by decide +kernel) rfl
theorem wd_750 : (.instanceMethod yX8_isSign : Cond) ∈ mj_tb := mj_seg_3 (j := 157) (by decide +kernel) rfl
theorem wd_751 : (.code yX8_isSign cX8_isSign 2 (some .boolean) : Cond) ∈ mj_tb := mj_seg_3 (j := 158) (by decide +kernel) rfl
theorem wd_754 : (.instanceMethod yX8_closeBlock : Cond) ∈ mj_tb := mj_seg_3 (j := 161) (by decide +kernel) rfl
theorem wd_755 : (.code yX8_closeBlock cX8_closeBlock 3 none : Cond) ∈ mj_tb := mj_seg_3 (j := 162) (by decide +kernel) rfl
theorem wd_759 : (.instanceMethod yX8_isWord : Cond) ∈ mj_tb := mj_seg_3 (j := 166) (by decide +kernel) rfl
theorem wd_760 : (.code yX8_isWord cX8_isWord 3 (some .boolean) : Cond) ∈ mj_tb := mj_seg_3 (j := 167) (by decide +kernel) rfl
theorem wd_762 : (.instanceMethod yJ0_length_8abf5 : Cond) ∈ mj_tb := mj_seg_3 (j := 169) (by decide +kernel) rfl
theorem wd_764 : (.code yJ0_length_8abf5 cJ0_length_8abf5 1 (some .int) : Cond) ∈ mj_tb := mj_seg_3 (j := 171) (by decide +kernel) rfl
theorem wd_772 : (.instanceMethod yJ0_charAt_5068e : Cond) ∈ mj_tb := mj_seg_3 (j := 179) (by decide +kernel) rfl
theorem wd_774 : (.code yJ0_charAt_5068e cJ0_charAt_5068e 2 (some .char) : Cond) ∈ mj_tb := mj_seg_3 (j := 181) (by decide +kernel) rfl
theorem wd_811 : (.instanceMethod yX8_openBlock : Cond) ∈ mj_tb := mj_seg_3 (j := 218) (by decide +kernel) rfl
theorem wd_812 : (.code yX8_openBlock cX8_openBlock 3 none : Cond) ∈ mj_tb := mj_seg_3 (j := 219) (by decide +kernel) rfl
theorem wd_815 : (.instanceMethod yX8_fail : Cond) ∈ mj_tb := mj_seg_3 (j := 222) (by decide +kernel) rfl
theorem wd_816 : (.code yX8_fail cX8_fail 2 none : Cond) ∈ mj_tb := mj_seg_3 (j := 223) (by decide +kernel) rfl
theorem wd_819 : (.instanceMethod yX8_readSign : Cond) ∈ mj_tb := mj_seg_3 (j := 226) (by decide +kernel) rfl
theorem wd_820 : (.code yX8_readSign cX8_readSign 2 none : Cond) ∈ mj_tb := mj_seg_3 (j := 227) (by decide +kernel) rfl
theorem wd_823 : (.instanceMethod yX8_readStatement : Cond) ∈ mj_tb := mj_seg_3 (j := 230) (by decide +kernel) rfl
theorem wd_824 : (.code yX8_readStatement cX8_readStatement 3 none : Cond) ∈ mj_tb := mj_seg_3 (j := 231) (by decide +kernel) rfl
theorem wd_827 : (.instanceMethod yX8_kindHere : Cond) ∈ mj_tb := mj_seg_3 (j := 234) (by decide +kernel) rfl
theorem wd_828 : (.code yX8_kindHere cX8_kindHere 1 (some .int) : Cond) ∈ mj_tb := mj_seg_3 (j := 235) (by decide +kernel) rfl
theorem wd_831 : (.instanceMethod yX8_variableHere : Cond) ∈ mj_tb := mj_seg_3 (j := 238) (by decide +kernel) rfl
theorem wd_832 : (.code yX8_variableHere cX8_variableHere 1 (some .int) : Cond) ∈ mj_tb := mj_seg_3 (j := 239) (by decide +kernel) rfl
theorem wd_840 : (.instanceMethod yX7_isFull : Cond) ∈ mj_tb := mj_seg_4 (j := 7) (by decide +kernel) rfl
theorem wd_841 : (.selects "OddsSolver$Program" yX7_isFull yX7_isFull : Cond) ∈ mj_tb := mj_seg_4 (j := 8) (by decide +kernel) rfl
theorem wd_842 : (.code yX7_isFull cX7_isFull 1 (some .boolean) : Cond) ∈ mj_tb := mj_seg_4 (j := 9) (by decide +kernel) rfl
theorem wd_844 : (.instanceMethod yX7_begin : Cond) ∈ mj_tb := mj_seg_4 (j := 11) (by decide +kernel) rfl
theorem wd_845 : (.selects "OddsSolver$Program" yX7_begin yX7_begin : Cond) ∈ mj_tb := mj_seg_4 (j := 12) (by decide +kernel) rfl
theorem wd_846 : (.code yX7_begin cX7_begin 6 (some .int) : Cond) ∈ mj_tb := mj_seg_4 (j := 13) (by decide +kernel) rfl
theorem wd_849 : (.instanceMethod yX8_readVariable : Cond) ∈ mj_tb := mj_seg_4 (j := 16) (by decide +kernel) rfl
theorem wd_850 : (.code yX8_readVariable cX8_readVariable 2 (some .int) : Cond) ∈ mj_tb := mj_seg_4 (j := 17) (by decide +kernel) rfl
theorem wd_853 : (.instanceMethod yX8_readSum : Cond) ∈ mj_tb := mj_seg_4 (j := 20) (by decide +kernel) rfl
theorem wd_854 : (.code yX8_readSum cX8_readSum 3 (some .int) : Cond) ∈ mj_tb := mj_seg_4 (j := 21) (by decide +kernel) rfl
theorem wd_857 : (.instanceMethod yX8_readTerm : Cond) ∈ mj_tb := mj_seg_4 (j := 24) (by decide +kernel) rfl
theorem wd_858 : (.code yX8_readTerm cX8_readTerm 1 (some .int) : Cond) ∈ mj_tb := mj_seg_4 (j := 25) (by decide +kernel) rfl
theorem wd_861 : (.instanceMethod yX8_readNumber : Cond) ∈ mj_tb := mj_seg_4 (j := 28) (by decide +kernel) rfl
theorem wd_862 : (.code yX8_readNumber cX8_readNumber 4 (some .int) : Cond) ∈ mj_tb := mj_seg_4 (j := 29) (by decide +kernel) rfl
theorem wd_864 : (.static yX7_sum : Cond) ∈ mj_tb := mj_seg_4 (j := 31) (by decide +kernel) rfl
theorem wd_865 : (.code yX7_sum cX7_sum 3 (some .int) : Cond) ∈ mj_tb := mj_seg_4 (j := 32) (by decide +kernel) rfl
theorem wd_868 : (.instanceMethod yX8_readBehindWord : Cond) ∈ mj_tb := mj_seg_4 (j := 35) (by decide +kernel) rfl
theorem wd_869 : (.code yX8_readBehindWord cX8_readBehindWord 3 none : Cond) ∈ mj_tb := mj_seg_4 (j := 36) (by decide +kernel) rfl
theorem wd_872 : (.instanceMethod yX8_readRelation : Cond) ∈ mj_tb := mj_seg_4 (j := 39) (by decide +kernel) rfl
theorem wd_873 : (.code yX8_readRelation cX8_readRelation 2 (some .int) : Cond) ∈ mj_tb := mj_seg_4 (j := 40) (by decide +kernel) rfl
theorem wd_875 : (.instanceMethod yX7_link : Cond) ∈ mj_tb := mj_seg_4 (j := 42) (by decide +kernel) rfl
theorem wd_876 : (.selects "OddsSolver$Program" yX7_link yX7_link : Cond) ∈ mj_tb := mj_seg_4 (j := 43) (by decide +kernel) rfl
theorem wd_877 : (.code yX7_link cX7_link 3 none : Cond) ∈ mj_tb := mj_seg_4 (j := 44) (by decide +kernel) rfl
theorem wd_880 : (.instanceMethod yX7_placeBehind : Cond) ∈ mj_tb := mj_seg_4 (j := 47) (by decide +kernel) rfl
theorem wd_881 : (.code yX7_placeBehind cX7_placeBehind 3 (some .int) : Cond) ∈ mj_tb := mj_seg_4 (j := 48) (by decide +kernel) rfl
theorem wd_883 : (.instanceMethod yX8_faultPlace : Cond) ∈ mj_tb := mj_seg_4 (j := 50) (by decide +kernel) rfl
theorem wd_884 : (.selects "OddsSolver$Reader" yX8_faultPlace yX8_faultPlace : Cond) ∈ mj_tb := mj_seg_4 (j := 51) (by decide +kernel) rfl
theorem wd_885 : (.code yX8_faultPlace cX8_faultPlace 1 (some .int) : Cond) ∈ mj_tb := mj_seg_4 (j := 52) (by decide +kernel) rfl
theorem wd_887 : (.instanceMethod yX8_exchange : Cond) ∈ mj_tb := mj_seg_4 (j := 54) (by decide +kernel) rfl
theorem wd_888 : (.selects "OddsSolver$Reader" yX8_exchange yX8_exchange : Cond) ∈ mj_tb := mj_seg_4 (j := 55) (by decide +kernel) rfl
theorem wd_889 : (.code yX8_exchange cX8_exchange 3 (some (.object "OddsSolver$Program")) : Cond) ∈ mj_tb := mj_seg_4 (j := 56) (by decide +kernel) rfl
theorem wd_891 : (.instanceMethod yX0_clear : Cond) ∈ mj_tb := mj_seg_4 (j := 58) (by decide +kernel) rfl
theorem wd_892 : (.selects "OddsSolver$Changes" yX0_clear yX0_clear : Cond) ∈ mj_tb := mj_seg_4 (j := 59) (by decide +kernel) rfl
theorem wd_893 : (.code yX0_clear cX0_clear 1 none : Cond) ∈ mj_tb := mj_seg_4 (j := 60) (by decide +kernel) rfl
theorem wd_899 : (.instanceMethod yX10_first : Cond) ∈ mj_tb := mj_seg_4 (j := 66) (by decide +kernel) rfl
theorem wd_900 : (.selects "OddsSolver" yX10_first yX10_first : Cond) ∈ mj_tb := mj_seg_4 (j := 67) (by decide +kernel) rfl
theorem wd_901 : (.code yX10_first cX10_first 4 (some .int) : Cond) ∈ mj_tb := mj_seg_4 (j := 68) (by decide +kernel) rfl
theorem wd_904 : (.instanceMethod yX10_needVariable : Cond) ∈ mj_tb := mj_seg_4 (j := 71) (by decide +kernel) rfl
theorem wd_905 : (.code yX10_needVariable cX10_needVariable 2 none : Cond) ∈ mj_tb := mj_seg_4 (j := 72) (by decide +kernel) rfl
theorem wd_908 : (.instanceMethod yX10_refuseElement : Cond) ∈ mj_tb := mj_seg_4 (j := 75) (by decide +kernel) rfl
theorem wd_909 : (.code yX10_refuseElement cX10_refuseElement 1 none : Cond) ∈ mj_tb := mj_seg_4 (j := 76) (by decide +kernel) rfl
theorem wd_928 : (.instanceMethod yX0_keep : Cond) ∈ mj_tb := mj_seg_4 (j := 95) (by decide +kernel) rfl
theorem wd_929 : (.selects "OddsSolver$Changes" yX0_keep yX0_keep : Cond) ∈ mj_tb := mj_seg_4 (j := 96) (by decide +kernel) rfl
theorem wd_930 : (.code yX0_keep cX0_keep 3 none : Cond) ∈ mj_tb := mj_seg_4 (j := 97) (by decide +kernel) rfl
theorem wd_938 : (.instanceMethod yX10_chance : Cond) ∈ mj_tb := mj_seg_4 (j := 105) (by decide +kernel) rfl
theorem wd_939 : (.selects "OddsSolver" yX10_chance yX10_chance : Cond) ∈ mj_tb := mj_seg_4 (j := 106) (by decide +kernel) rfl
theorem wd_940 : (.code yX10_chance cX10_chance 4 (some .int) : Cond) ∈ mj_tb := mj_seg_4 (j := 107) (by decide +kernel) rfl
theorem wd_943 : (.instanceMethod yX10_needStatement : Cond) ∈ mj_tb := mj_seg_4 (j := 110) (by decide +kernel) rfl
theorem wd_944 : (.code yX10_needStatement cX10_needStatement 2 none : Cond) ∈ mj_tb := mj_seg_4 (j := 111) (by decide +kernel) rfl
theorem wd_949 : (.instanceMethod yX10_told : Cond) ∈ mj_tb := mj_seg_4 (j := 116) (by decide +kernel) rfl
theorem wd_950 : (.selects "OddsSolver" yX10_told yX10_told : Cond) ∈ mj_tb := mj_seg_4 (j := 117) (by decide +kernel) rfl
theorem wd_951 : (.code yX10_told cX10_told 2 (some .int) : Cond) ∈ mj_tb := mj_seg_4 (j := 118) (by decide +kernel) rfl
theorem wd_953 : (.instanceMethod yX4_greatestLevel : Cond) ∈ mj_tb := mj_seg_4 (j := 120) (by decide +kernel) rfl
theorem wd_954 : (.selects "OddsSolver$Graph" yX4_greatestLevel yX4_greatestLevel : Cond) ∈ mj_tb := mj_seg_4 (j := 121) (by decide +kernel) rfl
theorem wd_955 : (.code yX4_greatestLevel cX4_greatestLevel 1 (some .int) : Cond) ∈ mj_tb := mj_seg_4 (j := 122) (by decide +kernel) rfl
theorem wd_960 : (.instanceMethod yX10_statement : Cond) ∈ mj_tb := mj_seg_4 (j := 127) (by decide +kernel) rfl
theorem wd_961 : (.selects "OddsSolver" yX10_statement yX10_statement : Cond) ∈ mj_tb := mj_seg_4 (j := 128) (by decide +kernel) rfl
theorem wd_962 : (.code yX10_statement cX10_statement 4 (some .int) : Cond) ∈ mj_tb := mj_seg_4 (j := 129) (by decide +kernel) rfl
theorem wd_967 : (.instanceMethod yX10_firstOf : Cond) ∈ mj_tb := mj_seg_4 (j := 134) (by decide +kernel) rfl
theorem wd_968 : (.selects "OddsSolver" yX10_firstOf yX10_firstOf : Cond) ∈ mj_tb := mj_seg_4 (j := 135) (by decide +kernel) rfl
theorem wd_969 : (.code yX10_firstOf cX10_firstOf 2 (some .int) : Cond) ∈ mj_tb := mj_seg_4 (j := 136) (by decide +kernel) rfl
theorem wd_975 : (.instanceMethod yX10_state : Cond) ∈ mj_tb := mj_seg_4 (j := 142) (by decide +kernel) rfl
theorem wd_976 : (.selects "OddsSolver" yX10_state yX10_state : Cond) ∈ mj_tb := mj_seg_4 (j := 143) (by decide +kernel) rfl
theorem wd_977 : (.code yX10_state cX10_state 3 (some .int) : Cond) ∈ mj_tb := mj_seg_4 (j := 144) (by decide +kernel) rfl
theorem wd_980 : (.instanceMethod yX10_needStates : Cond) ∈ mj_tb := mj_seg_4 (j := 147) (by decide +kernel) rfl
theorem wd_981 : (.code yX10_needStates cX10_needStates 1 none : Cond) ∈ mj_tb := mj_seg_4 (j := 148) (by decide +kernel) rfl
theorem wd_984 : (.instanceMethod yX10_refuseState : Cond) ∈ mj_tb := mj_seg_4 (j := 151) (by decide +kernel) rfl
theorem wd_985 : (.code yX10_refuseState cX10_refuseState 1 none : Cond) ∈ mj_tb := mj_seg_4 (j := 152) (by decide +kernel) rfl
theorem wd_1004 : (.instanceMethod yX10_needState : Cond) ∈ mj_tb := mj_seg_4 (j := 171) (by decide +kernel) rfl
theorem wd_1005 : (.code yX10_needState cX10_needState 2 none : Cond) ∈ mj_tb := mj_seg_4 (j := 172) (by decide +kernel) rfl
theorem wd_1007 : (.instanceMethod yX4_arcsOf : Cond) ∈ mj_tb := mj_seg_4 (j := 174) (by decide +kernel) rfl
theorem wd_1008 : (.selects "OddsSolver$Graph" yX4_arcsOf yX4_arcsOf : Cond) ∈ mj_tb := mj_seg_4 (j := 175) (by decide +kernel) rfl
theorem wd_1009 : (.code yX4_arcsOf cX4_arcsOf 2 (some .int) : Cond) ∈ mj_tb := mj_seg_4 (j := 176) (by decide +kernel) rfl
theorem wd_1014 : (.instanceMethod yX10_arc : Cond) ∈ mj_tb := mj_seg_4 (j := 181) (by decide +kernel) rfl
theorem wd_1015 : (.selects "OddsSolver" yX10_arc yX10_arc : Cond) ∈ mj_tb := mj_seg_4 (j := 182) (by decide +kernel) rfl
theorem wd_1016 : (.code yX10_arc cX10_arc 5 (some .int) : Cond) ∈ mj_tb := mj_seg_4 (j := 183) (by decide +kernel) rfl
theorem wd_1021 : (.instanceMethod yX10_total : Cond) ∈ mj_tb := mj_seg_4 (j := 188) (by decide +kernel) rfl
theorem wd_1022 : (.selects "OddsSolver" yX10_total yX10_total : Cond) ∈ mj_tb := mj_seg_4 (j := 189) (by decide +kernel) rfl
theorem wd_1023 : (.code yX10_total cX10_total 3 (some .int) : Cond) ∈ mj_tb := mj_seg_4 (j := 190) (by decide +kernel) rfl
theorem wd_1026 : (.instanceMethod yX10_needForm : Cond) ∈ mj_tb := mj_seg_4 (j := 193) (by decide +kernel) rfl
theorem wd_1027 : (.code yX10_needForm cX10_needForm 2 none : Cond) ∈ mj_tb := mj_seg_4 (j := 194) (by decide +kernel) rfl
theorem wd_1029 : (.instanceMethod yX2_solve : Cond) ∈ mj_tb := mj_seg_4 (j := 196) (by decide +kernel) rfl
theorem wd_1030 : (.selects "OddsSolver$Equations" yX2_solve yX2_solve : Cond) ∈ mj_tb := mj_seg_4 (j := 197) (by decide +kernel) rfl
theorem wd_1031 : (.code yX2_solve cX2_solve 2 (some .boolean) : Cond) ∈ mj_tb := mj_seg_4 (j := 198) (by decide +kernel) rfl
theorem wd_1034 : (.instanceMethod yX2_write : Cond) ∈ mj_tb := mj_seg_4 (j := 201) (by decide +kernel) rfl
theorem wd_1035 : (.code yX2_write cX2_write 4 none : Cond) ∈ mj_tb := mj_seg_4 (j := 202) (by decide +kernel) rfl
theorem wd_1038 : (.static yJ7_fill_fda19 : Cond) ∈ mj_tb := mj_seg_4 (j := 205) (by decide +kernel) rfl
theorem wd_1039 : (.code yJ7_fill_fda19 cJ7_fill_fda19 5 none : Cond) ∈ mj_tb := mj_seg_4 (j := 206) (by decide +kernel) rfl
theorem wd_1259 : (.static yX3_plus : Cond) ∈ mj_tb := mj_seg_5 (j := 186) (by decide +kernel) rfl
theorem wd_1260 : (.code yX3_plus cX3_plus 3 (some .int) : Cond) ∈ mj_tb := mj_seg_5 (j := 187) (by decide +kernel) rfl
theorem wd_1264 : (.instanceMethod yX2_writeArcs : Cond) ∈ mj_tb := mj_seg_5 (j := 191) (by decide +kernel) rfl
theorem wd_1265 : (.code yX2_writeArcs cX2_writeArcs 7 none : Cond) ∈ mj_tb := mj_seg_5 (j := 192) (by decide +kernel) rfl
theorem wd_1267 : (.static yX3_sixtieth : Cond) ∈ mj_tb := mj_seg_5 (j := 194) (by decide +kernel) rfl
theorem wd_1268 : (.code yX3_sixtieth cX3_sixtieth 1 (some .int) : Cond) ∈ mj_tb := mj_seg_5 (j := 195) (by decide +kernel) rfl
theorem wd_1271 : (.static yX3_times : Cond) ∈ mj_tb := mj_seg_5 (j := 198) (by decide +kernel) rfl
theorem wd_1272 : (.code yX3_times cX3_times 2 (some .int) : Cond) ∈ mj_tb := mj_seg_5 (j := 199) (by decide +kernel) rfl
theorem wd_1275 : (.static yX3_less : Cond) ∈ mj_tb := mj_seg_5 (j := 202) (by decide +kernel) rfl
theorem wd_1276 : (.code yX3_less cX3_less 2 (some .int) : Cond) ∈ mj_tb := mj_seg_5 (j := 203) (by decide +kernel) rfl
theorem wd_1279 : (.instanceMethod yX2_eliminate : Cond) ∈ mj_tb := mj_seg_5 (j := 206) (by decide +kernel) rfl
theorem wd_1280 : (.code yX2_eliminate cX2_eliminate 6 (some .boolean) : Cond) ∈ mj_tb := mj_seg_5 (j := 207) (by decide +kernel) rfl
theorem wd_1283 : (.instanceMethod yX2_normalise : Cond) ∈ mj_tb := mj_seg_5 (j := 210) (by decide +kernel) rfl
theorem wd_1284 : (.code yX2_normalise cX2_normalise 6 (some .int) : Cond) ∈ mj_tb := mj_seg_5 (j := 211) (by decide +kernel) rfl
theorem wd_1286 : (.static yX3_inverse : Cond) ∈ mj_tb := mj_seg_5 (j := 213) (by decide +kernel) rfl
theorem wd_1287 : (.code yX3_inverse cX3_inverse 4 (some .int) : Cond) ∈ mj_tb := mj_seg_5 (j := 214) (by decide +kernel) rfl
theorem wd_1292 : (.instanceMethod yX2_takeAway : Cond) ∈ mj_tb := mj_seg_5 (j := 219) (by decide +kernel) rfl
theorem wd_1293 : (.code yX2_takeAway cX2_takeAway 8 none : Cond) ∈ mj_tb := mj_seg_5 (j := 220) (by decide +kernel) rfl
theorem wd_1296 : (.instanceMethod yX2_substitute : Cond) ∈ mj_tb := mj_seg_5 (j := 223) (by decide +kernel) rfl
theorem wd_1297 : (.code yX2_substitute cX2_substitute 5 none : Cond) ∈ mj_tb := mj_seg_5 (j := 224) (by decide +kernel) rfl
theorem wd_1300 : (.instanceMethod yX2_passOn : Cond) ∈ mj_tb := mj_seg_5 (j := 227) (by decide +kernel) rfl
theorem wd_1301 : (.code yX2_passOn cX2_passOn 7 none : Cond) ∈ mj_tb := mj_seg_5 (j := 228) (by decide +kernel) rfl
theorem wd_1304 : (.instanceMethod yX2_addUp : Cond) ∈ mj_tb := mj_seg_5 (j := 231) (by decide +kernel) rfl
theorem wd_1305 : (.code yX2_addUp cX2_addUp 3 none : Cond) ∈ mj_tb := mj_seg_5 (j := 232) (by decide +kernel) rfl
theorem wd_1308 : (.instanceMethod yX4_isBroken : Cond) ∈ mj_tb := mj_seg_5 (j := 235) (by decide +kernel) rfl
theorem wd_1309 : (.selects "OddsSolver$Graph" yX4_isBroken yX4_isBroken : Cond) ∈ mj_tb := mj_seg_5 (j := 236) (by decide +kernel) rfl
theorem wd_1310 : (.code yX4_isBroken cX4_isBroken 2 (some .boolean) : Cond) ∈ mj_tb := mj_seg_5 (j := 237) (by decide +kernel) rfl
theorem wd_1312 : (.static yX3_inForm : Cond) ∈ mj_tb := mj_seg_5 (j := 239) (by decide +kernel) rfl
theorem wd_1313 : (.code yX3_inForm cX3_inForm 17 (some .int) : Cond) ∈ mj_tb := mj_seg_6 (j := 0) (by decide +kernel) rfl
theorem wd_1316 : (.instanceMethod yX2_forEver : Cond) ∈ mj_tb := mj_seg_6 (j := 3) (by decide +kernel) rfl
theorem wd_1317 : (.selects "OddsSolver$Equations" yX2_forEver yX2_forEver : Cond) ∈ mj_tb := mj_seg_6 (j := 4) (by decide +kernel) rfl
theorem wd_1318 : (.code yX2_forEver cX2_forEver 1 (some .int) : Cond) ∈ mj_tb := mj_seg_6 (j := 5) (by decide +kernel) rfl
theorem wd_1323 : (.instanceMethod yX10_value : Cond) ∈ mj_tb := mj_seg_6 (j := 10) (by decide +kernel) rfl
theorem wd_1324 : (.selects "OddsSolver" yX10_value yX10_value : Cond) ∈ mj_tb := mj_seg_6 (j := 11) (by decide +kernel) rfl
theorem wd_1325 : (.code yX10_value cX10_value 4 (some .int) : Cond) ∈ mj_tb := mj_seg_6 (j := 12) (by decide +kernel) rfl
theorem wd_1328 : (.instanceMethod yX10_needEnd : Cond) ∈ mj_tb := mj_seg_6 (j := 15) (by decide +kernel) rfl
theorem wd_1329 : (.code yX10_needEnd cX10_needEnd 1 none : Cond) ∈ mj_tb := mj_seg_6 (j := 16) (by decide +kernel) rfl
theorem wd_1332 : (.instanceMethod yX10_coupleInForm : Cond) ∈ mj_tb := mj_seg_6 (j := 19) (by decide +kernel) rfl
theorem wd_1333 : (.code yX10_coupleInForm cX10_coupleInForm 6 (some .int) : Cond) ∈ mj_tb := mj_seg_6 (j := 20) (by decide +kernel) rfl
theorem wd_1335 : (.instanceMethod yX2_canDivide : Cond) ∈ mj_tb := mj_seg_6 (j := 22) (by decide +kernel) rfl
theorem wd_1336 : (.selects "OddsSolver$Equations" yX2_canDivide yX2_canDivide : Cond) ∈ mj_tb := mj_seg_6 (j := 23) (by decide +kernel) rfl
theorem wd_1337 : (.code yX2_canDivide cX2_canDivide 2 (some .boolean) : Cond) ∈ mj_tb := mj_seg_6 (j := 24) (by decide +kernel) rfl
theorem wd_1340 : (.instanceMethod yX2_coupleTogether : Cond) ∈ mj_tb := mj_seg_6 (j := 27) (by decide +kernel) rfl
theorem wd_1341 : (.selects "OddsSolver$Equations" yX2_coupleTogether yX2_coupleTogether : Cond) ∈ mj_tb := mj_seg_6 (j := 28) (by decide +kernel) rfl
theorem wd_1342 : (.code yX2_coupleTogether cX2_coupleTogether 8 (some .int) : Cond) ∈ mj_tb := mj_seg_6 (j := 29) (by decide +kernel) rfl
theorem wd_1345 : (.instanceMethod yX2_shareOfEnded : Cond) ∈ mj_tb := mj_seg_6 (j := 32) (by decide +kernel) rfl
theorem wd_1346 : (.selects "OddsSolver$Equations" yX2_shareOfEnded yX2_shareOfEnded : Cond) ∈ mj_tb := mj_seg_6 (j := 33) (by decide +kernel) rfl
theorem wd_1347 : (.code yX2_shareOfEnded cX2_shareOfEnded 2 (some .int) : Cond) ∈ mj_tb := mj_seg_6 (j := 34) (by decide +kernel) rfl
theorem wd_1352 : (.instanceMethod yX10_both : Cond) ∈ mj_tb := mj_seg_6 (j := 39) (by decide +kernel) rfl
theorem wd_1353 : (.selects "OddsSolver" yX10_both yX10_both : Cond) ∈ mj_tb := mj_seg_6 (j := 40) (by decide +kernel) rfl
theorem wd_1354 : (.code yX10_both cX10_both 6 (some .int) : Cond) ∈ mj_tb := mj_seg_6 (j := 41) (by decide +kernel) rfl
theorem wd_1359 : (.instanceMethod yX10_mean : Cond) ∈ mj_tb := mj_seg_6 (j := 46) (by decide +kernel) rfl
theorem wd_1360 : (.selects "OddsSolver" yX10_mean yX10_mean : Cond) ∈ mj_tb := mj_seg_6 (j := 47) (by decide +kernel) rfl
theorem wd_1361 : (.code yX10_mean cX10_mean 3 (some .int) : Cond) ∈ mj_tb := mj_seg_6 (j := 48) (by decide +kernel) rfl
theorem wd_1363 : (.instanceMethod yX2_valuesTogether : Cond) ∈ mj_tb := mj_seg_6 (j := 50) (by decide +kernel) rfl
theorem wd_1364 : (.selects "OddsSolver$Equations" yX2_valuesTogether yX2_valuesTogether : Cond) ∈ mj_tb := mj_seg_6 (j := 51) (by decide +kernel) rfl
theorem wd_1365 : (.code yX2_valuesTogether cX2_valuesTogether 5 (some .int) : Cond) ∈ mj_tb := mj_seg_6 (j := 52) (by decide +kernel) rfl
theorem wd_1370 : (.instanceMethod yX10_independent : Cond) ∈ mj_tb := mj_seg_6 (j := 57) (by decide +kernel) rfl
theorem wd_1371 : (.selects "OddsSolver" yX10_independent yX10_independent : Cond) ∈ mj_tb := mj_seg_6 (j := 58) (by decide +kernel) rfl
theorem wd_1372 : (.code yX10_independent cX10_independent 3 (some .int) : Cond) ∈ mj_tb := mj_seg_6 (j := 59) (by decide +kernel) rfl
theorem wd_1374 : (.instanceMethod yX2_areIndependent : Cond) ∈ mj_tb := mj_seg_6 (j := 61) (by decide +kernel) rfl
theorem wd_1375 : (.selects "OddsSolver$Equations" yX2_areIndependent yX2_areIndependent : Cond) ∈ mj_tb := mj_seg_6 (j := 62) (by decide +kernel) rfl
theorem wd_1376 : (.code yX2_areIndependent cX2_areIndependent 7 (some .boolean) : Cond) ∈ mj_tb := mj_seg_6 (j := 63) (by decide +kernel) rfl
theorem wd_1382 : (.instanceMethod yX10_visits : Cond) ∈ mj_tb := mj_seg_6 (j := 69) (by decide +kernel) rfl
theorem wd_1383 : (.selects "OddsSolver" yX10_visits yX10_visits : Cond) ∈ mj_tb := mj_seg_6 (j := 70) (by decide +kernel) rfl
theorem wd_1384 : (.code yX10_visits cX10_visits 3 (some .int) : Cond) ∈ mj_tb := mj_seg_6 (j := 71) (by decide +kernel) rfl
theorem wd_1389 : (.instanceMethod yX10_steps : Cond) ∈ mj_tb := mj_seg_6 (j := 76) (by decide +kernel) rfl
theorem wd_1390 : (.selects "OddsSolver" yX10_steps yX10_steps : Cond) ∈ mj_tb := mj_seg_6 (j := 77) (by decide +kernel) rfl
theorem wd_1391 : (.code yX10_steps cX10_steps 2 (some .int) : Cond) ∈ mj_tb := mj_seg_6 (j := 78) (by decide +kernel) rfl
theorem wd_1396 : (.instanceMethod yX10_within : Cond) ∈ mj_tb := mj_seg_6 (j := 83) (by decide +kernel) rfl
theorem wd_1397 : (.selects "OddsSolver" yX10_within yX10_within : Cond) ∈ mj_tb := mj_seg_6 (j := 84) (by decide +kernel) rfl
theorem wd_1398 : (.code yX10_within cX10_within 3 (some .int) : Cond) ∈ mj_tb := mj_seg_6 (j := 85) (by decide +kernel) rfl
theorem wd_1400 : (.instanceMethod yX9_endedBy : Cond) ∈ mj_tb := mj_seg_6 (j := 87) (by decide +kernel) rfl
theorem wd_1401 : (.selects "OddsSolver$Spread" yX9_endedBy yX9_endedBy : Cond) ∈ mj_tb := mj_seg_6 (j := 88) (by decide +kernel) rfl
theorem wd_1402 : (.code yX9_endedBy cX9_endedBy 4 (some .int) : Cond) ∈ mj_tb := mj_seg_6 (j := 89) (by decide +kernel) rfl
theorem wd_1406 : (.instanceMethod yX9_atEnd : Cond) ∈ mj_tb := mj_seg_6 (j := 93) (by decide +kernel) rfl
theorem wd_1407 : (.code yX9_atEnd cX9_atEnd 4 (some .int) : Cond) ∈ mj_tb := mj_seg_6 (j := 94) (by decide +kernel) rfl
theorem wd_1412 : (.instanceMethod yX9_moveOn : Cond) ∈ mj_tb := mj_seg_6 (j := 99) (by decide +kernel) rfl
theorem wd_1413 : (.code yX9_moveOn cX9_moveOn 6 none : Cond) ∈ mj_tb := mj_seg_6 (j := 100) (by decide +kernel) rfl
theorem wd_1420 : (.instanceMethod yX10_classes : Cond) ∈ mj_tb := mj_seg_6 (j := 107) (by decide +kernel) rfl
theorem wd_1421 : (.selects "OddsSolver" yX10_classes yX10_classes : Cond) ∈ mj_tb := mj_seg_6 (j := 108) (by decide +kernel) rfl
theorem wd_1422 : (.code yX10_classes cX10_classes 2 (some .int) : Cond) ∈ mj_tb := mj_seg_6 (j := 109) (by decide +kernel) rfl
theorem wd_1424 : (.instanceMethod yX6_find : Cond) ∈ mj_tb := mj_seg_6 (j := 111) (by decide +kernel) rfl
theorem wd_1425 : (.selects "OddsSolver$Lumps" yX6_find yX6_find : Cond) ∈ mj_tb := mj_seg_6 (j := 112) (by decide +kernel) rfl
theorem wd_1426 : (.code yX6_find cX6_find 6 none : Cond) ∈ mj_tb := mj_seg_6 (j := 113) (by decide +kernel) rfl
theorem wd_1429 : (.instanceMethod yX6_labelKinds : Cond) ∈ mj_tb := mj_seg_6 (j := 116) (by decide +kernel) rfl
theorem wd_1430 : (.code yX6_labelKinds cX6_labelKinds 6 (some .int) : Cond) ∈ mj_tb := mj_seg_6 (j := 117) (by decide +kernel) rfl
theorem wd_1437 : (.instanceMethod yX6_split : Cond) ∈ mj_tb := mj_seg_6 (j := 124) (by decide +kernel) rfl
theorem wd_1438 : (.code yX6_split cX6_split 7 (some .int) : Cond) ∈ mj_tb := mj_seg_6 (j := 125) (by decide +kernel) rfl
theorem wd_1441 : (.instanceMethod yX6_flowAlike : Cond) ∈ mj_tb := mj_seg_6 (j := 128) (by decide +kernel) rfl
theorem wd_1442 : (.code yX6_flowAlike cX6_flowAlike 6 (some .boolean) : Cond) ∈ mj_tb := mj_seg_6 (j := 129) (by decide +kernel) rfl
theorem wd_1445 : (.instanceMethod yX6_addFlow : Cond) ∈ mj_tb := mj_seg_6 (j := 132) (by decide +kernel) rfl
theorem wd_1446 : (.code yX6_addFlow cX6_addFlow 5 none : Cond) ∈ mj_tb := mj_seg_6 (j := 133) (by decide +kernel) rfl
theorem wd_1449 : (.instanceMethod yX6_countBy : Cond) ∈ mj_tb := mj_seg_6 (j := 136) (by decide +kernel) rfl
theorem wd_1450 : (.selects "OddsSolver$Lumps" yX6_countBy yX6_countBy : Cond) ∈ mj_tb := mj_seg_6 (j := 137) (by decide +kernel) rfl
theorem wd_1451 : (.code yX6_countBy cX6_countBy 2 (some .int) : Cond) ∈ mj_tb := mj_seg_6 (j := 138) (by decide +kernel) rfl
theorem wd_1456 : (.instanceMethod yX10_classOf : Cond) ∈ mj_tb := mj_seg_6 (j := 143) (by decide +kernel) rfl
theorem wd_1457 : (.selects "OddsSolver" yX10_classOf yX10_classOf : Cond) ∈ mj_tb := mj_seg_6 (j := 144) (by decide +kernel) rfl
theorem wd_1458 : (.code yX10_classOf cX10_classOf 3 (some .int) : Cond) ∈ mj_tb := mj_seg_6 (j := 145) (by decide +kernel) rfl
theorem wd_1460 : (.instanceMethod yX6_labelBy : Cond) ∈ mj_tb := mj_seg_6 (j := 147) (by decide +kernel) rfl
theorem wd_1461 : (.selects "OddsSolver$Lumps" yX6_labelBy yX6_labelBy : Cond) ∈ mj_tb := mj_seg_6 (j := 148) (by decide +kernel) rfl
theorem wd_1462 : (.code yX6_labelBy cX6_labelBy 3 (some .int) : Cond) ∈ mj_tb := mj_seg_6 (j := 149) (by decide +kernel) rfl
theorem wd_1467 : (.instanceMethod yX10_run : Cond) ∈ mj_tb := mj_seg_6 (j := 154) (by decide +kernel) rfl
theorem wd_1468 : (.selects "OddsSolver" yX10_run yX10_run : Cond) ∈ mj_tb := mj_seg_6 (j := 155) (by decide +kernel) rfl
theorem wd_1469 : (.code yX10_run cX10_run 2 (some .int) : Cond) ∈ mj_tb := mj_seg_6 (j := 156) (by decide +kernel) rfl
theorem wd_1471 : (.instanceMethod yX5_find : Cond) ∈ mj_tb := mj_seg_6 (j := 158) (by decide +kernel) rfl
theorem wd_1472 : (.selects "OddsSolver$Likeliest" yX5_find yX5_find : Cond) ∈ mj_tb := mj_seg_6 (j := 159) (by decide +kernel) rfl
theorem wd_1473 : (.code yX5_find cX5_find 7 none : Cond) ∈ mj_tb := mj_seg_6 (j := 160) (by decide +kernel) rfl
theorem wd_1475 : (.static yX5_stopFrom : Cond) ∈ mj_tb := mj_seg_6 (j := 162) (by decide +kernel) rfl
theorem wd_1476 : (.code yX5_stopFrom cX5_stopFrom 5 (some .int) : Cond) ∈ mj_tb := mj_seg_6 (j := 163) (by decide +kernel) rfl
theorem wd_1479 : (.static yX5_isDrawn : Cond) ∈ mj_tb := mj_seg_6 (j := 166) (by decide +kernel) rfl
theorem wd_1480 : (.code yX5_isDrawn cX5_isDrawn 4 (some .boolean) : Cond) ∈ mj_tb := mj_seg_6 (j := 167) (by decide +kernel) rfl
theorem wd_1484 : (.instanceMethod yX5_weigh : Cond) ∈ mj_tb := mj_seg_6 (j := 171) (by decide +kernel) rfl
theorem wd_1485 : (.code yX5_weigh cX5_weigh 13 none : Cond) ∈ mj_tb := mj_seg_6 (j := 172) (by decide +kernel) rfl
theorem wd_1489 : (.instanceMethod yX5_trace : Cond) ∈ mj_tb := mj_seg_6 (j := 176) (by decide +kernel) rfl
theorem wd_1490 : (.code yX5_trace cX5_trace 10 none : Cond) ∈ mj_tb := mj_seg_6 (j := 177) (by decide +kernel) rfl
theorem wd_1492 : (.static yX5_drawn : Cond) ∈ mj_tb := mj_seg_6 (j := 179) (by decide +kernel) rfl
theorem wd_1493 : (.code yX5_drawn cX5_drawn 5 (some .int) : Cond) ∈ mj_tb := mj_seg_6 (j := 180) (by decide +kernel) rfl
theorem wd_1495 : (.instanceMethod yX5_exists : Cond) ∈ mj_tb := mj_seg_6 (j := 182) (by decide +kernel) rfl
theorem wd_1496 : (.selects "OddsSolver$Likeliest" yX5_exists yX5_exists : Cond) ∈ mj_tb := mj_seg_6 (j := 183) (by decide +kernel) rfl
theorem wd_1497 : (.code yX5_exists cX5_exists 1 (some .boolean) : Cond) ∈ mj_tb := mj_seg_6 (j := 184) (by decide +kernel) rfl
theorem wd_1502 : (.instanceMethod yX10_worth : Cond) ∈ mj_tb := mj_seg_6 (j := 189) (by decide +kernel) rfl
theorem wd_1503 : (.selects "OddsSolver" yX10_worth yX10_worth : Cond) ∈ mj_tb := mj_seg_6 (j := 190) (by decide +kernel) rfl
theorem wd_1504 : (.code yX10_worth cX10_worth 1 (some .long) : Cond) ∈ mj_tb := mj_seg_6 (j := 191) (by decide +kernel) rfl
theorem wd_1507 : (.instanceMethod yX11_thrown : Cond) ∈ mj_tb := mj_seg_6 (j := 194) (by decide +kernel) rfl
theorem wd_1508 : (.selects "OddsSolverModel" yX11_thrown yX11_thrown : Cond) ∈ mj_tb := mj_seg_6 (j := 195) (by decide +kernel) rfl
theorem wd_1509 : (.code yX11_thrown cX11_thrown 1 (some .int) : Cond) ∈ mj_tb := mj_seg_6 (j := 196) (by decide +kernel) rfl
theorem wd_1511 : (.instanceMethod yX11_feed : Cond) ∈ mj_tb := mj_seg_6 (j := 198) (by decide +kernel) rfl
theorem wd_1512 : (.selects "OddsSolverModel" yX11_feed yX11_feed : Cond) ∈ mj_tb := mj_seg_6 (j := 199) (by decide +kernel) rfl
theorem wd_1513 : (.code yX11_feed cX11_feed 6 (some .int) : Cond) ∈ mj_tb := mj_seg_6 (j := 200) (by decide +kernel) rfl
theorem wd_1516 : (.instanceMethod yX11_puts : Cond) ∈ mj_tb := mj_seg_6 (j := 203) (by decide +kernel) rfl
theorem wd_1518 : (.code yX11_puts cX11_puts 3 none : Cond) ∈ mj_tb := mj_seg_6 (j := 205) (by decide +kernel) rfl
theorem wd_1520 : (.instanceMethod yX11_text : Cond) ∈ mj_tb := mj_seg_6 (j := 207) (by decide +kernel) rfl
theorem wd_1521 : (.selects "OddsSolverModel" yX11_text yX11_text : Cond) ∈ mj_tb := mj_seg_6 (j := 208) (by decide +kernel) rfl
theorem wd_1522 : (.code yX11_text cX11_text 3 (some .int) : Cond) ∈ mj_tb := mj_seg_6 (j := 209) (by decide +kernel) rfl
theorem wd_1524 : (.static yX11_lies : Cond) ∈ mj_tb := mj_seg_6 (j := 211) (by decide +kernel) rfl
theorem wd_1525 : (.code yX11_lies cX11_lies 6 (some .boolean) : Cond) ∈ mj_tb := mj_seg_6 (j := 212) (by decide +kernel) rfl
theorem wd_1528 : (.instanceMethod yX11_isFine : Cond) ∈ mj_tb := mj_seg_6 (j := 215) (by decide +kernel) rfl
theorem wd_1529 : (.code yX11_isFine cX11_isFine 4 (some .boolean) : Cond) ∈ mj_tb := mj_seg_6 (j := 216) (by decide +kernel) rfl
theorem wd_1532 : (.instanceMethod yX11_row : Cond) ∈ mj_tb := mj_seg_6 (j := 219) (by decide +kernel) rfl
theorem wd_1533 : (.code yX11_row cX11_row 5 (some .int) : Cond) ∈ mj_tb := mj_seg_6 (j := 220) (by decide +kernel) rfl
theorem wd_1536 : (.instanceMethod yX11_begins : Cond) ∈ mj_tb := mj_seg_6 (j := 223) (by decide +kernel) rfl
theorem wd_1537 : (.code yX11_begins cX11_begins 1 (some .boolean) : Cond) ∈ mj_tb := mj_seg_6 (j := 224) (by decide +kernel) rfl
theorem wd_1540 : (.instanceMethod yX11_isNameHere : Cond) ∈ mj_tb := mj_seg_6 (j := 227) (by decide +kernel) rfl
theorem wd_1541 : (.code yX11_isNameHere cX11_isNameHere 1 (some .boolean) : Cond) ∈ mj_tb := mj_seg_6 (j := 228) (by decide +kernel) rfl
theorem wd_1544 : (.instanceMethod yX11_sign : Cond) ∈ mj_tb := mj_seg_6 (j := 231) (by decide +kernel) rfl
theorem wd_1545 : (.code yX11_sign cX11_sign 1 (some .int) : Cond) ∈ mj_tb := mj_seg_6 (j := 232) (by decide +kernel) rfl
theorem wd_1548 : (.instanceMethod yX11_isSmall : Cond) ∈ mj_tb := mj_seg_6 (j := 235) (by decide +kernel) rfl
theorem wd_1549 : (.code yX11_isSmall cX11_isSmall 2 (some .boolean) : Cond) ∈ mj_tb := mj_seg_6 (j := 236) (by decide +kernel) rfl
theorem wd_1553 : (.instanceMethod yX11_isHere : Cond) ∈ mj_tb := mj_seg_7 (j := 0) (by decide +kernel) rfl
theorem wd_1554 : (.code yX11_isHere cX11_isHere 3 (some .boolean) : Cond) ∈ mj_tb := mj_seg_7 (j := 1) (by decide +kernel) rfl
theorem wd_1564 : (.instanceMethod yX11_wrong : Cond) ∈ mj_tb := mj_seg_7 (j := 11) (by decide +kernel) rfl
theorem wd_1565 : (.code yX11_wrong cX11_wrong 3 none : Cond) ∈ mj_tb := mj_seg_7 (j := 12) (by decide +kernel) rfl
theorem wd_1568 : (.instanceMethod yX11_joins : Cond) ∈ mj_tb := mj_seg_7 (j := 15) (by decide +kernel) rfl
theorem wd_1569 : (.code yX11_joins cX11_joins 4 none : Cond) ∈ mj_tb := mj_seg_7 (j := 16) (by decide +kernel) rfl
theorem wd_1572 : (.instanceMethod yX11_behind : Cond) ∈ mj_tb := mj_seg_7 (j := 19) (by decide +kernel) rfl
theorem wd_1573 : (.code yX11_behind cX11_behind 2 (some .int) : Cond) ∈ mj_tb := mj_seg_7 (j := 20) (by decide +kernel) rfl
theorem wd_1576 : (.instanceMethod yX11_reads : Cond) ∈ mj_tb := mj_seg_7 (j := 23) (by decide +kernel) rfl
theorem wd_1577 : (.code yX11_reads cX11_reads 4 none : Cond) ∈ mj_tb := mj_seg_7 (j := 24) (by decide +kernel) rfl
theorem wd_1580 : (.instanceMethod yX11_name : Cond) ∈ mj_tb := mj_seg_7 (j := 27) (by decide +kernel) rfl
theorem wd_1581 : (.code yX11_name cX11_name 1 (some .int) : Cond) ∈ mj_tb := mj_seg_7 (j := 28) (by decide +kernel) rfl
theorem wd_1584 : (.instanceMethod yX11_needs : Cond) ∈ mj_tb := mj_seg_7 (j := 31) (by decide +kernel) rfl
theorem wd_1585 : (.code yX11_needs cX11_needs 2 none : Cond) ∈ mj_tb := mj_seg_7 (j := 32) (by decide +kernel) rfl
theorem wd_1588 : (.instanceMethod yX11_takes : Cond) ∈ mj_tb := mj_seg_7 (j := 35) (by decide +kernel) rfl
theorem wd_1589 : (.code yX11_takes cX11_takes 2 (some .boolean) : Cond) ∈ mj_tb := mj_seg_7 (j := 36) (by decide +kernel) rfl
theorem wd_1592 : (.instanceMethod yX11_sum : Cond) ∈ mj_tb := mj_seg_7 (j := 39) (by decide +kernel) rfl
theorem wd_1593 : (.code yX11_sum cX11_sum 4 none : Cond) ∈ mj_tb := mj_seg_7 (j := 40) (by decide +kernel) rfl
theorem wd_1596 : (.instanceMethod yX11_term : Cond) ∈ mj_tb := mj_seg_7 (j := 43) (by decide +kernel) rfl
theorem wd_1597 : (.code yX11_term cX11_term 1 (some .int) : Cond) ∈ mj_tb := mj_seg_7 (j := 44) (by decide +kernel) rfl
theorem wd_1600 : (.instanceMethod yX11_isDigit : Cond) ∈ mj_tb := mj_seg_7 (j := 47) (by decide +kernel) rfl
theorem wd_1601 : (.code yX11_isDigit cX11_isDigit 1 (some .boolean) : Cond) ∈ mj_tb := mj_seg_7 (j := 48) (by decide +kernel) rfl
theorem wd_1604 : (.instanceMethod yX11_numberTo : Cond) ∈ mj_tb := mj_seg_7 (j := 51) (by decide +kernel) rfl
theorem wd_1605 : (.code yX11_numberTo cX11_numberTo 3 (some .int) : Cond) ∈ mj_tb := mj_seg_7 (j := 52) (by decide +kernel) rfl
theorem wd_1608 : (.instanceMethod yX11_number : Cond) ∈ mj_tb := mj_seg_7 (j := 55) (by decide +kernel) rfl
theorem wd_1609 : (.code yX11_number cX11_number 2 (some .int) : Cond) ∈ mj_tb := mj_seg_7 (j := 56) (by decide +kernel) rfl
theorem wd_1614 : (.instanceMethod yX11_passes : Cond) ∈ mj_tb := mj_seg_7 (j := 61) (by decide +kernel) rfl
theorem wd_1615 : (.code yX11_passes cX11_passes 2 (some .boolean) : Cond) ∈ mj_tb := mj_seg_7 (j := 62) (by decide +kernel) rfl
theorem wd_1617 : (.static yX11_isChance : Cond) ∈ mj_tb := mj_seg_7 (j := 64) (by decide +kernel) rfl
theorem wd_1618 : (.code yX11_isChance cX11_isChance 1 (some .boolean) : Cond) ∈ mj_tb := mj_seg_7 (j := 65) (by decide +kernel) rfl
theorem wd_1621 : (.instanceMethod yX11_forks : Cond) ∈ mj_tb := mj_seg_7 (j := 68) (by decide +kernel) rfl
theorem wd_1622 : (.code yX11_forks cX11_forks 4 none : Cond) ∈ mj_tb := mj_seg_7 (j := 69) (by decide +kernel) rfl
theorem wd_1625 : (.instanceMethod yX11_block : Cond) ∈ mj_tb := mj_seg_7 (j := 72) (by decide +kernel) rfl
theorem wd_1626 : (.code yX11_block cX11_block 3 (some .int) : Cond) ∈ mj_tb := mj_seg_7 (j := 73) (by decide +kernel) rfl
theorem wd_1630 : (.instanceMethod yX11_test : Cond) ∈ mj_tb := mj_seg_7 (j := 77) (by decide +kernel) rfl
theorem wd_1631 : (.code yX11_test cX11_test 3 none : Cond) ∈ mj_tb := mj_seg_7 (j := 78) (by decide +kernel) rfl
theorem wd_1634 : (.instanceMethod yX11_stands : Cond) ∈ mj_tb := mj_seg_7 (j := 81) (by decide +kernel) rfl
theorem wd_1635 : (.code yX11_stands cX11_stands 2 none : Cond) ∈ mj_tb := mj_seg_7 (j := 82) (by decide +kernel) rfl
theorem wd_1638 : (.instanceMethod yX11_of : Cond) ∈ mj_tb := mj_seg_7 (j := 85) (by decide +kernel) rfl
theorem wd_1639 : (.code yX11_of cX11_of 3 (some .int) : Cond) ∈ mj_tb := mj_seg_7 (j := 86) (by decide +kernel) rfl
theorem wd_1642 : (.instanceMethod yX11_isOther : Cond) ∈ mj_tb := mj_seg_7 (j := 89) (by decide +kernel) rfl
theorem wd_1643 : (.code yX11_isOther cX11_isOther 1 none : Cond) ∈ mj_tb := mj_seg_7 (j := 90) (by decide +kernel) rfl
theorem wd_1645 : (.instanceMethod yX11_fault : Cond) ∈ mj_tb := mj_seg_7 (j := 92) (by decide +kernel) rfl
theorem wd_1646 : (.selects "OddsSolverModel" yX11_fault yX11_fault : Cond) ∈ mj_tb := mj_seg_7 (j := 93) (by decide +kernel) rfl
theorem wd_1647 : (.code yX11_fault cX11_fault 1 (some .int) : Cond) ∈ mj_tb := mj_seg_7 (j := 94) (by decide +kernel) rfl
theorem wd_1649 : (.instanceMethod yX11_first : Cond) ∈ mj_tb := mj_seg_7 (j := 96) (by decide +kernel) rfl
theorem wd_1650 : (.selects "OddsSolverModel" yX11_first yX11_first : Cond) ∈ mj_tb := mj_seg_7 (j := 97) (by decide +kernel) rfl
theorem wd_1651 : (.code yX11_first cX11_first 4 (some .int) : Cond) ∈ mj_tb := mj_seg_7 (j := 98) (by decide +kernel) rfl
theorem wd_1654 : (.instanceMethod yX11_isName : Cond) ∈ mj_tb := mj_seg_7 (j := 101) (by decide +kernel) rfl
theorem wd_1655 : (.code yX11_isName cX11_isName 2 (some .boolean) : Cond) ∈ mj_tb := mj_seg_7 (j := 102) (by decide +kernel) rfl
theorem wd_1660 : (.instanceMethod yX11_changes : Cond) ∈ mj_tb := mj_seg_7 (j := 107) (by decide +kernel) rfl
theorem wd_1661 : (.code yX11_changes cX11_changes 4 (some .int) : Cond) ∈ mj_tb := mj_seg_7 (j := 108) (by decide +kernel) rfl
theorem wd_1663 : (.instanceMethod yX11_chance : Cond) ∈ mj_tb := mj_seg_7 (j := 110) (by decide +kernel) rfl
theorem wd_1664 : (.selects "OddsSolverModel" yX11_chance yX11_chance : Cond) ∈ mj_tb := mj_seg_7 (j := 111) (by decide +kernel) rfl
theorem wd_1665 : (.code yX11_chance cX11_chance 4 (some .int) : Cond) ∈ mj_tb := mj_seg_7 (j := 112) (by decide +kernel) rfl
theorem wd_1668 : (.instanceMethod yX11_isStatement : Cond) ∈ mj_tb := mj_seg_7 (j := 115) (by decide +kernel) rfl
theorem wd_1669 : (.code yX11_isStatement cX11_isStatement 2 (some .boolean) : Cond) ∈ mj_tb := mj_seg_7 (j := 116) (by decide +kernel) rfl
theorem wd_1672 : (.instanceMethod yX11_undo : Cond) ∈ mj_tb := mj_seg_7 (j := 119) (by decide +kernel) rfl
theorem wd_1673 : (.selects "OddsSolverModel" yX11_undo yX11_undo : Cond) ∈ mj_tb := mj_seg_7 (j := 120) (by decide +kernel) rfl
theorem wd_1674 : (.code yX11_undo cX11_undo 2 (some .int) : Cond) ∈ mj_tb := mj_seg_7 (j := 121) (by decide +kernel) rfl
theorem wd_1676 : (.instanceMethod yX11_told : Cond) ∈ mj_tb := mj_seg_7 (j := 123) (by decide +kernel) rfl
theorem wd_1677 : (.selects "OddsSolverModel" yX11_told yX11_told : Cond) ∈ mj_tb := mj_seg_7 (j := 124) (by decide +kernel) rfl
theorem wd_1678 : (.code yX11_told cX11_told 4 (some .int) : Cond) ∈ mj_tb := mj_seg_7 (j := 125) (by decide +kernel) rfl
theorem wd_1682 : (.instanceMethod yX11_lays : Cond) ∈ mj_tb := mj_seg_7 (j := 129) (by decide +kernel) rfl
theorem wd_1683 : (.code yX11_lays cX11_lays 5 none : Cond) ∈ mj_tb := mj_seg_7 (j := 130) (by decide +kernel) rfl
theorem wd_1686 : (.instanceMethod yX11_with : Cond) ∈ mj_tb := mj_seg_7 (j := 133) (by decide +kernel) rfl
theorem wd_1687 : (.code yX11_with cX11_with 4 (some .int) : Cond) ∈ mj_tb := mj_seg_7 (j := 134) (by decide +kernel) rfl
theorem wd_1690 : (.instanceMethod yX11_valueIn : Cond) ∈ mj_tb := mj_seg_7 (j := 137) (by decide +kernel) rfl
theorem wd_1691 : (.code yX11_valueIn cX11_valueIn 3 (some .int) : Cond) ∈ mj_tb := mj_seg_7 (j := 138) (by decide +kernel) rfl
theorem wd_1694 : (.instanceMethod yX11_stateFor : Cond) ∈ mj_tb := mj_seg_7 (j := 141) (by decide +kernel) rfl
theorem wd_1695 : (.code yX11_stateFor cX11_stateFor 5 (some .int) : Cond) ∈ mj_tb := mj_seg_7 (j := 142) (by decide +kernel) rfl
theorem wd_1698 : (.instanceMethod yX11_goesOn : Cond) ∈ mj_tb := mj_seg_7 (j := 145) (by decide +kernel) rfl
theorem wd_1699 : (.code yX11_goesOn cX11_goesOn 5 none : Cond) ∈ mj_tb := mj_seg_7 (j := 146) (by decide +kernel) rfl
theorem wd_1702 : (.instanceMethod yX11_sumIn : Cond) ∈ mj_tb := mj_seg_7 (j := 149) (by decide +kernel) rfl
theorem wd_1703 : (.code yX11_sumIn cX11_sumIn 3 (some .int) : Cond) ∈ mj_tb := mj_seg_7 (j := 150) (by decide +kernel) rfl
theorem wd_1706 : (.instanceMethod yX11_termIn : Cond) ∈ mj_tb := mj_seg_7 (j := 153) (by decide +kernel) rfl
theorem wd_1707 : (.code yX11_termIn cX11_termIn 3 (some .int) : Cond) ∈ mj_tb := mj_seg_7 (j := 154) (by decide +kernel) rfl
theorem wd_1710 : (.instanceMethod yX11_lead : Cond) ∈ mj_tb := mj_seg_7 (j := 157) (by decide +kernel) rfl
theorem wd_1711 : (.code yX11_lead cX11_lead 6 none : Cond) ∈ mj_tb := mj_seg_7 (j := 158) (by decide +kernel) rfl
theorem wd_1714 : (.instanceMethod yX11_holds : Cond) ∈ mj_tb := mj_seg_7 (j := 161) (by decide +kernel) rfl
theorem wd_1715 : (.code yX11_holds cX11_holds 6 (some .boolean) : Cond) ∈ mj_tb := mj_seg_7 (j := 162) (by decide +kernel) rfl
theorem wd_1718 : (.instanceMethod yX11_isEnd : Cond) ∈ mj_tb := mj_seg_7 (j := 165) (by decide +kernel) rfl
theorem wd_1719 : (.code yX11_isEnd cX11_isEnd 2 (some .boolean) : Cond) ∈ mj_tb := mj_seg_7 (j := 166) (by decide +kernel) rfl
theorem wd_1721 : (.instanceMethod yX11_statement : Cond) ∈ mj_tb := mj_seg_7 (j := 168) (by decide +kernel) rfl
theorem wd_1722 : (.selects "OddsSolverModel" yX11_statement yX11_statement : Cond) ∈ mj_tb := mj_seg_7 (j := 169) (by decide +kernel) rfl
theorem wd_1723 : (.code yX11_statement cX11_statement 3 (some .int) : Cond) ∈ mj_tb := mj_seg_7 (j := 170) (by decide +kernel) rfl
theorem wd_1726 : (.instanceMethod yX11_firstOf : Cond) ∈ mj_tb := mj_seg_7 (j := 173) (by decide +kernel) rfl
theorem wd_1727 : (.selects "OddsSolverModel" yX11_firstOf yX11_firstOf : Cond) ∈ mj_tb := mj_seg_7 (j := 174) (by decide +kernel) rfl
theorem wd_1728 : (.code yX11_firstOf cX11_firstOf 2 (some .int) : Cond) ∈ mj_tb := mj_seg_7 (j := 175) (by decide +kernel) rfl
theorem wd_1730 : (.instanceMethod yX11_state : Cond) ∈ mj_tb := mj_seg_7 (j := 177) (by decide +kernel) rfl
theorem wd_1731 : (.selects "OddsSolverModel" yX11_state yX11_state : Cond) ∈ mj_tb := mj_seg_7 (j := 178) (by decide +kernel) rfl
theorem wd_1732 : (.code yX11_state cX11_state 3 (some .int) : Cond) ∈ mj_tb := mj_seg_7 (j := 179) (by decide +kernel) rfl
theorem wd_1735 : (.instanceMethod yX11_isFew : Cond) ∈ mj_tb := mj_seg_7 (j := 182) (by decide +kernel) rfl
theorem wd_1736 : (.code yX11_isFew cX11_isFew 1 (some .boolean) : Cond) ∈ mj_tb := mj_seg_7 (j := 183) (by decide +kernel) rfl
theorem wd_1739 : (.instanceMethod yX11_isState : Cond) ∈ mj_tb := mj_seg_7 (j := 186) (by decide +kernel) rfl
theorem wd_1740 : (.code yX11_isState cX11_isState 2 (some .boolean) : Cond) ∈ mj_tb := mj_seg_7 (j := 187) (by decide +kernel) rfl
theorem wd_1742 : (.instanceMethod yX11_arc : Cond) ∈ mj_tb := mj_seg_7 (j := 189) (by decide +kernel) rfl
theorem wd_1743 : (.selects "OddsSolverModel" yX11_arc yX11_arc : Cond) ∈ mj_tb := mj_seg_7 (j := 190) (by decide +kernel) rfl
theorem wd_1744 : (.code yX11_arc cX11_arc 4 (some .int) : Cond) ∈ mj_tb := mj_seg_7 (j := 191) (by decide +kernel) rfl
theorem wd_1746 : (.instanceMethod yX11_total : Cond) ∈ mj_tb := mj_seg_7 (j := 193) (by decide +kernel) rfl
theorem wd_1747 : (.selects "OddsSolverModel" yX11_total yX11_total : Cond) ∈ mj_tb := mj_seg_7 (j := 194) (by decide +kernel) rfl
theorem wd_1748 : (.code yX11_total cX11_total 7 (some .int) : Cond) ∈ mj_tb := mj_seg_7 (j := 195) (by decide +kernel) rfl
theorem wd_1752 : (.instanceMethod yX11_isForm : Cond) ∈ mj_tb := mj_seg_7 (j := 199) (by decide +kernel) rfl
theorem wd_1753 : (.code yX11_isForm cX11_isForm 2 (some .boolean) : Cond) ∈ mj_tb := mj_seg_7 (j := 200) (by decide +kernel) rfl
theorem wd_1756 : (.instanceMethod yX11_solves : Cond) ∈ mj_tb := mj_seg_7 (j := 203) (by decide +kernel) rfl
theorem wd_1757 : (.code yX11_solves cX11_solves 2 (some .boolean) : Cond) ∈ mj_tb := mj_seg_7 (j := 204) (by decide +kernel) rfl
theorem wd_1760 : (.instanceMethod yX11_laysGrid : Cond) ∈ mj_tb := mj_seg_7 (j := 207) (by decide +kernel) rfl
theorem wd_1761 : (.code yX11_laysGrid cX11_laysGrid 5 none : Cond) ∈ mj_tb := mj_seg_7 (j := 208) (by decide +kernel) rfl
theorem wd_1766 : (.instanceMethod yX11_simple : Cond) ∈ mj_tb := mj_seg_7 (j := 213) (by decide +kernel) rfl
theorem wd_1767 : (.code yX11_simple cX11_simple 9 (some .boolean) : Cond) ∈ mj_tb := mj_seg_7 (j := 214) (by decide +kernel) rfl
theorem wd_1769 : (.static yX11_inverse : Cond) ∈ mj_tb := mj_seg_7 (j := 216) (by decide +kernel) rfl
theorem wd_1770 : (.code yX11_inverse cX11_inverse 2 (some .long) : Cond) ∈ mj_tb := mj_seg_7 (j := 217) (by decide +kernel) rfl
theorem wd_1773 : (.static yX11_power : Cond) ∈ mj_tb := mj_seg_7 (j := 220) (by decide +kernel) rfl
theorem wd_1774 : (.code yX11_power cX11_power 10 (some .long) : Cond) ∈ mj_tb := mj_seg_7 (j := 221) (by decide +kernel) rfl
theorem wd_1777 : (.instanceMethod yX11_ended : Cond) ∈ mj_tb := mj_seg_7 (j := 224) (by decide +kernel) rfl
theorem wd_1778 : (.code yX11_ended cX11_ended 1 (some .long) : Cond) ∈ mj_tb := mj_seg_7 (j := 225) (by decide +kernel) rfl
theorem wd_1781 : (.instanceMethod yX11_sumAt : Cond) ∈ mj_tb := mj_seg_7 (j := 228) (by decide +kernel) rfl
theorem wd_1782 : (.code yX11_sumAt cX11_sumAt 5 (some .long) : Cond) ∈ mj_tb := mj_seg_7 (j := 229) (by decide +kernel) rfl
theorem wd_1785 : (.static yX11_formed : Cond) ∈ mj_tb := mj_seg_7 (j := 232) (by decide +kernel) rfl
theorem wd_1786 : (.code yX11_formed cX11_formed 5 (some .int) : Cond) ∈ mj_tb := mj_seg_7 (j := 233) (by decide +kernel) rfl
theorem wd_1789 : (.instanceMethod yX11_value : Cond) ∈ mj_tb := mj_seg_7 (j := 236) (by decide +kernel) rfl
theorem wd_1790 : (.selects "OddsSolverModel" yX11_value yX11_value : Cond) ∈ mj_tb := mj_seg_7 (j := 237) (by decide +kernel) rfl
theorem wd_1791 : (.code yX11_value cX11_value 4 (some .int) : Cond) ∈ mj_tb := mj_seg_7 (j := 238) (by decide +kernel) rfl
theorem wd_1794 : (.instanceMethod yX11_hasEnd : Cond) ∈ mj_tb := mj_seg_8 (j := 1) (by decide +kernel) rfl
theorem wd_1795 : (.code yX11_hasEnd cX11_hasEnd 3 (some .boolean) : Cond) ∈ mj_tb := mj_seg_8 (j := 2) (by decide +kernel) rfl
theorem wd_1798 : (.instanceMethod yX11_isSure : Cond) ∈ mj_tb := mj_seg_8 (j := 5) (by decide +kernel) rfl
theorem wd_1799 : (.code yX11_isSure cX11_isSure 1 (some .boolean) : Cond) ∈ mj_tb := mj_seg_8 (j := 6) (by decide +kernel) rfl
theorem wd_1802 : (.instanceMethod yX11_oddsAlone : Cond) ∈ mj_tb := mj_seg_8 (j := 9) (by decide +kernel) rfl
theorem wd_1803 : (.code yX11_oddsAlone cX11_oddsAlone 3 (some .long) : Cond) ∈ mj_tb := mj_seg_8 (j := 10) (by decide +kernel) rfl
theorem wd_1806 : (.instanceMethod yX11_oddsOf : Cond) ∈ mj_tb := mj_seg_8 (j := 13) (by decide +kernel) rfl
theorem wd_1807 : (.code yX11_oddsOf cX11_oddsOf 8 (some .long) : Cond) ∈ mj_tb := mj_seg_8 (j := 14) (by decide +kernel) rfl
theorem wd_1809 : (.instanceMethod yX11_both : Cond) ∈ mj_tb := mj_seg_8 (j := 16) (by decide +kernel) rfl
theorem wd_1810 : (.selects "OddsSolverModel" yX11_both yX11_both : Cond) ∈ mj_tb := mj_seg_8 (j := 17) (by decide +kernel) rfl
theorem wd_1811 : (.code yX11_both cX11_both 6 (some .int) : Cond) ∈ mj_tb := mj_seg_8 (j := 18) (by decide +kernel) rfl
theorem wd_1813 : (.instanceMethod yX11_mean : Cond) ∈ mj_tb := mj_seg_8 (j := 20) (by decide +kernel) rfl
theorem wd_1814 : (.selects "OddsSolverModel" yX11_mean yX11_mean : Cond) ∈ mj_tb := mj_seg_8 (j := 21) (by decide +kernel) rfl
theorem wd_1815 : (.code yX11_mean cX11_mean 6 (some .int) : Cond) ∈ mj_tb := mj_seg_8 (j := 22) (by decide +kernel) rfl
theorem wd_1817 : (.instanceMethod yX11_independent : Cond) ∈ mj_tb := mj_seg_8 (j := 24) (by decide +kernel) rfl
theorem wd_1818 : (.selects "OddsSolverModel" yX11_independent yX11_independent : Cond) ∈ mj_tb := mj_seg_8 (j := 25) (by decide +kernel) rfl
theorem wd_1819 : (.code yX11_independent cX11_independent 5 (some .int) : Cond) ∈ mj_tb := mj_seg_8 (j := 26) (by decide +kernel) rfl
theorem wd_1821 : (.instanceMethod yX11_visits : Cond) ∈ mj_tb := mj_seg_8 (j := 28) (by decide +kernel) rfl
theorem wd_1822 : (.selects "OddsSolverModel" yX11_visits yX11_visits : Cond) ∈ mj_tb := mj_seg_8 (j := 29) (by decide +kernel) rfl
theorem wd_1823 : (.code yX11_visits cX11_visits 3 (some .int) : Cond) ∈ mj_tb := mj_seg_8 (j := 30) (by decide +kernel) rfl
theorem wd_1825 : (.instanceMethod yX11_steps : Cond) ∈ mj_tb := mj_seg_8 (j := 32) (by decide +kernel) rfl
theorem wd_1826 : (.selects "OddsSolverModel" yX11_steps yX11_steps : Cond) ∈ mj_tb := mj_seg_8 (j := 33) (by decide +kernel) rfl
theorem wd_1827 : (.code yX11_steps cX11_steps 6 (some .int) : Cond) ∈ mj_tb := mj_seg_8 (j := 34) (by decide +kernel) rfl
theorem wd_1829 : (.instanceMethod yX11_within : Cond) ∈ mj_tb := mj_seg_8 (j := 36) (by decide +kernel) rfl
theorem wd_1830 : (.selects "OddsSolverModel" yX11_within yX11_within : Cond) ∈ mj_tb := mj_seg_8 (j := 37) (by decide +kernel) rfl
theorem wd_1831 : (.code yX11_within cX11_within 7 (some .int) : Cond) ∈ mj_tb := mj_seg_8 (j := 38) (by decide +kernel) rfl
theorem wd_1834 : (.instanceMethod yX11_classes : Cond) ∈ mj_tb := mj_seg_8 (j := 41) (by decide +kernel) rfl
theorem wd_1835 : (.selects "OddsSolverModel" yX11_classes yX11_classes : Cond) ∈ mj_tb := mj_seg_8 (j := 42) (by decide +kernel) rfl
theorem wd_1836 : (.code yX11_classes cX11_classes 2 (some .int) : Cond) ∈ mj_tb := mj_seg_8 (j := 43) (by decide +kernel) rfl
theorem wd_1839 : (.instanceMethod yX11_parts : Cond) ∈ mj_tb := mj_seg_8 (j := 46) (by decide +kernel) rfl
theorem wd_1840 : (.code yX11_parts cX11_parts 5 none : Cond) ∈ mj_tb := mj_seg_8 (j := 47) (by decide +kernel) rfl
theorem wd_1843 : (.instanceMethod yX11_areNear : Cond) ∈ mj_tb := mj_seg_8 (j := 50) (by decide +kernel) rfl
theorem wd_1844 : (.code yX11_areNear cX11_areNear 4 (some .boolean) : Cond) ∈ mj_tb := mj_seg_8 (j := 51) (by decide +kernel) rfl
theorem wd_1847 : (.instanceMethod yX11_areAlike : Cond) ∈ mj_tb := mj_seg_8 (j := 54) (by decide +kernel) rfl
theorem wd_1848 : (.code yX11_areAlike cX11_areAlike 4 (some .boolean) : Cond) ∈ mj_tb := mj_seg_8 (j := 55) (by decide +kernel) rfl
theorem wd_1851 : (.instanceMethod yX11_rank : Cond) ∈ mj_tb := mj_seg_8 (j := 58) (by decide +kernel) rfl
theorem wd_1852 : (.code yX11_rank cX11_rank 4 (some .int) : Cond) ∈ mj_tb := mj_seg_8 (j := 59) (by decide +kernel) rfl
theorem wd_1854 : (.instanceMethod yX11_classOf : Cond) ∈ mj_tb := mj_seg_8 (j := 61) (by decide +kernel) rfl
theorem wd_1855 : (.selects "OddsSolverModel" yX11_classOf yX11_classOf : Cond) ∈ mj_tb := mj_seg_8 (j := 62) (by decide +kernel) rfl
theorem wd_1856 : (.code yX11_classOf cX11_classOf 3 (some .int) : Cond) ∈ mj_tb := mj_seg_8 (j := 63) (by decide +kernel) rfl
theorem wd_1858 : (.instanceMethod yX11_run : Cond) ∈ mj_tb := mj_seg_8 (j := 65) (by decide +kernel) rfl
theorem wd_1859 : (.selects "OddsSolverModel" yX11_run yX11_run : Cond) ∈ mj_tb := mj_seg_8 (j := 66) (by decide +kernel) rfl
theorem wd_1860 : (.code yX11_run cX11_run 3 (some .int) : Cond) ∈ mj_tb := mj_seg_8 (j := 67) (by decide +kernel) rfl
theorem wd_1863 : (.instanceMethod yX11_length : Cond) ∈ mj_tb := mj_seg_8 (j := 70) (by decide +kernel) rfl
theorem wd_1864 : (.code yX11_length cX11_length 3 (some .int) : Cond) ∈ mj_tb := mj_seg_8 (j := 71) (by decide +kernel) rfl
theorem wd_1867 : (.instanceMethod yX11_weighs : Cond) ∈ mj_tb := mj_seg_8 (j := 74) (by decide +kernel) rfl
theorem wd_1868 : (.code yX11_weighs cX11_weighs 6 none : Cond) ∈ mj_tb := mj_seg_8 (j := 75) (by decide +kernel) rfl
theorem wd_1871 : (.instanceMethod yX11_isDrawn : Cond) ∈ mj_tb := mj_seg_8 (j := 78) (by decide +kernel) rfl
theorem wd_1872 : (.code yX11_isDrawn cX11_isDrawn 2 (some .boolean) : Cond) ∈ mj_tb := mj_seg_8 (j := 79) (by decide +kernel) rfl
theorem wd_1875 : (.instanceMethod yX11_mostOf : Cond) ∈ mj_tb := mj_seg_8 (j := 82) (by decide +kernel) rfl
theorem wd_1876 : (.code yX11_mostOf cX11_mostOf 4 (some .long) : Cond) ∈ mj_tb := mj_seg_8 (j := 83) (by decide +kernel) rfl
theorem wd_1879 : (.instanceMethod yX11_ahead : Cond) ∈ mj_tb := mj_seg_8 (j := 86) (by decide +kernel) rfl
theorem wd_1880 : (.code yX11_ahead cX11_ahead 4 (some .int) : Cond) ∈ mj_tb := mj_seg_8 (j := 87) (by decide +kernel) rfl
theorem wd_1882 : (.static yJ9_max_f86c9 : Cond) ∈ mj_tb := mj_seg_8 (j := 89) (by decide +kernel) rfl
theorem wd_1883 : (.code yJ9_max_f86c9 cJ9_max_f86c9 4 (some .long) : Cond) ∈ mj_tb := mj_seg_8 (j := 90) (by decide +kernel) rfl
theorem wd_1885 : (.static yX11_sixties : Cond) ∈ mj_tb := mj_seg_8 (j := 92) (by decide +kernel) rfl
theorem wd_1886 : (.code yX11_sixties cX11_sixties 4 (some .long) : Cond) ∈ mj_tb := mj_seg_8 (j := 93) (by decide +kernel) rfl
theorem wd_1889 : (.instanceMethod yX11_drawnAt : Cond) ∈ mj_tb := mj_seg_8 (j := 96) (by decide +kernel) rfl
theorem wd_1890 : (.code yX11_drawnAt cX11_drawnAt 6 (some .int) : Cond) ∈ mj_tb := mj_seg_8 (j := 97) (by decide +kernel) rfl
theorem wd_1893 : (.instanceMethod yX11_arcTo : Cond) ∈ mj_tb := mj_seg_8 (j := 100) (by decide +kernel) rfl
theorem wd_1894 : (.code yX11_arcTo cX11_arcTo 3 (some .int) : Cond) ∈ mj_tb := mj_seg_8 (j := 101) (by decide +kernel) rfl
theorem wd_1896 : (.instanceMethod yX11_worth : Cond) ∈ mj_tb := mj_seg_8 (j := 103) (by decide +kernel) rfl
theorem wd_1897 : (.selects "OddsSolverModel" yX11_worth yX11_worth : Cond) ∈ mj_tb := mj_seg_8 (j := 104) (by decide +kernel) rfl
theorem wd_1898 : (.code yX11_worth cX11_worth 2 (some .long) : Cond) ∈ mj_tb := mj_seg_8 (j := 105) (by decide +kernel) rfl
theorem wd_1901 : (.instanceMethod yX11_print : Cond) ∈ mj_tb := mj_seg_8 (j := 108) (by decide +kernel) rfl
theorem wd_1902 : (.selects "OddsSolverModel" yX11_print yX11_print : Cond) ∈ mj_tb := mj_seg_8 (j := 109) (by decide +kernel) rfl
theorem wd_1903 : (.code yX11_print cX11_print 4 (some .long) : Cond) ∈ mj_tb := mj_seg_8 (j := 110) (by decide +kernel) rfl
theorem wd_1906 : (.instanceMethod yX11_status : Cond) ∈ mj_tb := mj_seg_8 (j := 113) (by decide +kernel) rfl
theorem wd_1907 : (.selects "OddsSolverModel" yX11_status yX11_status : Cond) ∈ mj_tb := mj_seg_8 (j := 114) (by decide +kernel) rfl
theorem wd_1908 : (.code yX11_status cX11_status 2 (some .int) : Cond) ∈ mj_tb := mj_seg_8 (j := 115) (by decide +kernel) rfl
theorem wd_1911 : (.instanceMethod yX11_init : Cond) ∈ mj_tb := mj_seg_8 (j := 118) (by decide +kernel) rfl
theorem wd_1912 : (.code yX11_init cX11_init 2 none : Cond) ∈ mj_tb := mj_seg_8 (j := 119) (by decide +kernel) rfl
theorem wd_1915 : (.static yX11_odds : Cond) ∈ mj_tb := mj_seg_8 (j := 122) (by decide +kernel) rfl
theorem wd_1916 : (.code yX11_odds cX11_odds 1 (some .long) : Cond) ∈ mj_tb := mj_seg_8 (j := 123) (by decide +kernel) rfl
theorem k1_0 : mj_K1 0 := ⟨by decide, mj_many [277, 279, 281] (by decide +kernel) (by decide +kernel), tyX0_ok, nmX0⟩
theorem k1_1 : mj_K1 1 := ⟨by decide, mj_many [401, 403, 405, 407, 409, 411, 413, 415, 417, 419, 421, 423, 425, 427, 429] (by decide +kernel) (by decide +kernel), tyX2_ok, nmX2⟩
theorem k1_2 : mj_K1 2 := ⟨by decide, mj_many [342, 344, 346, 348, 350, 352, 354, 356, 358, 360, 362, 364, 366, 368, 370, 372] (by decide +kernel) (by decide +kernel), tyX4_ok, nmX4⟩
theorem k1_3 : mj_K1 3 := ⟨by decide, mj_many [504, 506, 508, 510, 512, 514, 516] (by decide +kernel) (by decide +kernel), tyX5_ok, nmX5⟩
theorem k1_4 : mj_K1 4 := ⟨by decide, mj_many [469, 471, 473, 475, 477, 479, 481, 483, 485] (by decide +kernel) (by decide +kernel), tyX6_ok, nmX6⟩
theorem k1_5 : mj_K1 5 := ⟨by decide, mj_many [196, 198, 200, 202, 204, 206, 208, 210, 212, 214, 216] (by decide +kernel) (by decide +kernel), tyX7_ok, nmX7⟩
theorem k1_6 : mj_K1 6 := ⟨by decide, mj_many [235, 237, 239, 241, 243, 245, 247, 249, 251, 253, 255, 257, 259, 261] (by decide +kernel) (by decide +kernel), tyX8_ok, nmX8⟩
theorem k1_7 : mj_K1 7 := ⟨by decide, mj_many [443, 445, 447, 449, 451] (by decide +kernel) (by decide +kernel), tyX9_ok, nmX9⟩
theorem k1_8 : mj_K1 8 := ⟨by decide, mj_many [531, 533, 535, 537, 539, 541, 543, 545, 547, 549, 551] (by decide +kernel) (by decide +kernel), tyX10_ok, nmX10⟩
theorem k1_9 : mj_K1 9 := ⟨by decide, mj_many [1963, 1965, 1967, 1969, 1971, 1973, 1975, 1977, 1979, 1981, 1983, 1985, 1987, 1989, 1991, 1993, 1995, 1997, 1999, 2001, 2003, 2005, 2007, 2009, 2011, 2013, 2015, 2017, 2019, 2021, 2023, 2025, 2027, 2029, 2031, 2033, 2035, 2037, 2039, 2041, 2043, 2045, 2047, 2049, 2051, 2053] (by decide +kernel) (by decide +kernel), tyX11_ok, nmX11⟩
theorem fl_X10_10 : mj_fl RX10 10 8 0 := ⟨k1_8, by decide, mj_seg_2 (j := 167) (by decide +kernel) rfl⟩
theorem fl_X10_16 : mj_fl RX10 16 8 1 := ⟨k1_8, by decide, mj_seg_2 (j := 168) (by decide +kernel) rfl⟩
theorem fl_X10_23 : mj_fl RX10 23 8 2 := ⟨k1_8, by decide, mj_seg_2 (j := 169) (by decide +kernel) rfl⟩
theorem fl_X10_30 : mj_fl RX10 30 8 4 := ⟨k1_8, by decide, mj_seg_2 (j := 171) (by decide +kernel) rfl⟩
theorem fl_X10_37 : mj_fl RX10 37 8 5 := ⟨k1_8, by decide, mj_seg_2 (j := 172) (by decide +kernel) rfl⟩
theorem fl_X10_44 : mj_fl RX10 44 8 6 := ⟨k1_8, by decide, mj_seg_2 (j := 173) (by decide +kernel) rfl⟩
theorem fl_X10_51 : mj_fl RX10 51 8 7 := ⟨k1_8, by decide, mj_seg_2 (j := 174) (by decide +kernel) rfl⟩
theorem fl_X10_58 : mj_fl RX10 58 8 8 := ⟨k1_8, by decide, mj_seg_2 (j := 175) (by decide +kernel) rfl⟩
theorem fl_X10_65 : mj_fl RX10 65 8 9 := ⟨k1_8, by decide, mj_seg_2 (j := 176) (by decide +kernel) rfl⟩
theorem fl_X10_69 : mj_fl RX10 69 8 10 := ⟨k1_8, by decide, mj_seg_2 (j := 177) (by decide +kernel) rfl⟩
theorem fl_X10_73 : mj_fl RX10 73 6 0 := ⟨k1_6, by decide, mj_seg_1 (j := 107) (by decide +kernel) rfl⟩
theorem fl_X10_95 : mj_fl RX10 95 8 3 := ⟨k1_8, by decide, mj_seg_2 (j := 170) (by decide +kernel) rfl⟩
theorem fl_X10_104 : mj_fl RX10 104 5 0 := ⟨k1_5, by decide, mj_seg_1 (j := 53) (by decide +kernel) rfl⟩
theorem fl_X10_126 : mj_fl RX10 126 5 1 := ⟨k1_5, by decide, mj_seg_1 (j := 57) (by decide +kernel) rfl⟩
theorem fl_X10_132 : mj_fl RX10 132 5 3 := ⟨k1_5, by decide, mj_seg_1 (j := 65) (by decide +kernel) rfl⟩
theorem fl_X10_135 : mj_fl RX10 135 0 0 := ⟨k1_0, by decide, mj_seg_1 (j := 161) (by decide +kernel) rfl⟩
theorem fl_X10_149 : mj_fl RX10 149 2 6 := ⟨k1_2, by decide, mj_seg_1 (j := 196) (by decide +kernel) rfl⟩
theorem fl_X10_153 : mj_fl RX10 153 2 2 := ⟨k1_2, by decide, mj_seg_1 (j := 188) (by decide +kernel) rfl⟩
theorem fl_X10_154 : mj_fl RX10 154 2 4 := ⟨k1_2, by decide, mj_seg_1 (j := 192) (by decide +kernel) rfl⟩
theorem fl_X10_157 : mj_fl RX10 157 2 5 := ⟨k1_2, by decide, mj_seg_1 (j := 193) (by decide +kernel) rfl⟩
theorem fl_X10_160 : mj_fl RX10 160 2 3 := ⟨k1_2, by decide, mj_seg_1 (j := 190) (by decide +kernel) rfl⟩
theorem fl_X10_166 : mj_fl RX10 166 5 2 := ⟨k1_5, by decide, mj_seg_1 (j := 62) (by decide +kernel) rfl⟩
theorem fl_X10_169 : mj_fl RX10 169 5 7 := ⟨k1_5, by decide, mj_seg_1 (j := 77) (by decide +kernel) rfl⟩
theorem fl_X10_172 : mj_fl RX10 172 5 8 := ⟨k1_5, by decide, mj_seg_1 (j := 80) (by decide +kernel) rfl⟩
theorem fl_X10_181 : mj_fl RX10 181 2 8 := ⟨k1_2, by decide, mj_seg_1 (j := 200) (by decide +kernel) rfl⟩
theorem fl_X10_184 : mj_fl RX10 184 2 10 := ⟨k1_2, by decide, mj_seg_1 (j := 206) (by decide +kernel) rfl⟩
theorem fl_X10_187 : mj_fl RX10 187 2 11 := ⟨k1_2, by decide, mj_seg_1 (j := 209) (by decide +kernel) rfl⟩
theorem fl_X10_194 : mj_fl RX10 194 2 9 := ⟨k1_2, by decide, mj_seg_1 (j := 203) (by decide +kernel) rfl⟩
theorem fl_X10_200 : mj_fl RX10 200 2 12 := ⟨k1_2, by decide, mj_seg_1 (j := 215) (by decide +kernel) rfl⟩
theorem fl_X10_203 : mj_fl RX10 203 2 13 := ⟨k1_2, by decide, mj_seg_1 (j := 221) (by decide +kernel) rfl⟩
theorem fl_X10_206 : mj_fl RX10 206 2 14 := ⟨k1_2, by decide, mj_seg_1 (j := 227) (by decide +kernel) rfl⟩
theorem fl_X10_216 : mj_fl RX10 216 1 0 := ⟨k1_1, by decide, mj_seg_2 (j := 30) (by decide +kernel) rfl⟩
theorem fl_X10_224 : mj_fl RX10 224 1 1 := ⟨k1_1, by decide, mj_seg_2 (j := 32) (by decide +kernel) rfl⟩
theorem fl_X10_251 : mj_fl RX10 251 1 3 := ⟨k1_1, by decide, mj_seg_2 (j := 36) (by decide +kernel) rfl⟩
theorem fl_X10_254 : mj_fl RX10 254 1 2 := ⟨k1_1, by decide, mj_seg_2 (j := 34) (by decide +kernel) rfl⟩
theorem fl_X10_277 : mj_fl RX10 277 3 2 := ⟨k1_3, by decide, mj_seg_2 (j := 145) (by decide +kernel) rfl⟩
theorem fl_X10_278 : mj_fl RX10 278 3 3 := ⟨k1_3, by decide, mj_seg_2 (j := 147) (by decide +kernel) rfl⟩
theorem fl_X10_281 : mj_fl RX10 281 3 1 := ⟨k1_3, by decide, mj_seg_2 (j := 143) (by decide +kernel) rfl⟩
theorem fl_X0_9 : mj_fl RX0 9 0 1 := ⟨k1_0, by decide, mj_seg_1 (j := 162) (by decide +kernel) rfl⟩
theorem fl_X0_15 : mj_fl RX0 15 0 2 := ⟨k1_0, by decide, mj_seg_1 (j := 163) (by decide +kernel) rfl⟩
theorem fl_X0_18 : mj_fl RX0 18 0 0 := ⟨k1_0, by decide, mj_seg_1 (j := 160) (by decide +kernel) rfl⟩
theorem fl_X2_9 : mj_fl RX2 9 1 3 := ⟨k1_1, by decide, mj_seg_2 (j := 35) (by decide +kernel) rfl⟩
theorem fl_X2_15 : mj_fl RX2 15 1 7 := ⟨k1_1, by decide, mj_seg_2 (j := 40) (by decide +kernel) rfl⟩
theorem fl_X2_18 : mj_fl RX2 18 1 8 := ⟨k1_1, by decide, mj_seg_2 (j := 41) (by decide +kernel) rfl⟩
theorem fl_X2_21 : mj_fl RX2 21 1 9 := ⟨k1_1, by decide, mj_seg_2 (j := 42) (by decide +kernel) rfl⟩
theorem fl_X2_24 : mj_fl RX2 24 1 10 := ⟨k1_1, by decide, mj_seg_2 (j := 43) (by decide +kernel) rfl⟩
theorem fl_X2_27 : mj_fl RX2 27 1 11 := ⟨k1_1, by decide, mj_seg_2 (j := 44) (by decide +kernel) rfl⟩
theorem fl_X2_30 : mj_fl RX2 30 1 12 := ⟨k1_1, by decide, mj_seg_2 (j := 45) (by decide +kernel) rfl⟩
theorem fl_X2_33 : mj_fl RX2 33 1 13 := ⟨k1_1, by decide, mj_seg_2 (j := 46) (by decide +kernel) rfl⟩
theorem fl_X2_37 : mj_fl RX2 37 1 14 := ⟨k1_1, by decide, mj_seg_2 (j := 47) (by decide +kernel) rfl⟩
theorem fl_X2_40 : mj_fl RX2 40 1 4 := ⟨k1_1, by decide, mj_seg_2 (j := 37) (by decide +kernel) rfl⟩
theorem fl_X2_44 : mj_fl RX2 44 2 0 := ⟨k1_2, by decide, mj_seg_1 (j := 177) (by decide +kernel) rfl⟩
theorem fl_X2_55 : mj_fl RX2 55 1 5 := ⟨k1_1, by decide, mj_seg_2 (j := 38) (by decide +kernel) rfl⟩
theorem fl_X2_72 : mj_fl RX2 72 1 0 := ⟨k1_1, by decide, mj_seg_2 (j := 29) (by decide +kernel) rfl⟩
theorem fl_X2_88 : mj_fl RX2 88 1 1 := ⟨k1_1, by decide, mj_seg_2 (j := 31) (by decide +kernel) rfl⟩
theorem fl_X2_91 : mj_fl RX2 91 1 6 := ⟨k1_1, by decide, mj_seg_2 (j := 39) (by decide +kernel) rfl⟩
theorem fl_X2_94 : mj_fl RX2 94 2 2 := ⟨k1_2, by decide, mj_seg_1 (j := 187) (by decide +kernel) rfl⟩
theorem fl_X2_97 : mj_fl RX2 97 2 11 := ⟨k1_2, by decide, mj_seg_1 (j := 208) (by decide +kernel) rfl⟩
theorem fl_X2_117 : mj_fl RX2 117 2 12 := ⟨k1_2, by decide, mj_seg_1 (j := 213) (by decide +kernel) rfl⟩
theorem fl_X2_120 : mj_fl RX2 120 2 13 := ⟨k1_2, by decide, mj_seg_1 (j := 219) (by decide +kernel) rfl⟩
theorem fl_X2_123 : mj_fl RX2 123 2 14 := ⟨k1_2, by decide, mj_seg_1 (j := 225) (by decide +kernel) rfl⟩
theorem fl_X2_136 : mj_fl RX2 136 1 2 := ⟨k1_1, by decide, mj_seg_2 (j := 33) (by decide +kernel) rfl⟩
theorem fl_X2_146 : mj_fl RX2 146 2 9 := ⟨k1_2, by decide, mj_seg_1 (j := 204) (by decide +kernel) rfl⟩
theorem fl_X4_9 : mj_fl RX4 9 2 8 := ⟨k1_2, by decide, mj_seg_1 (j := 198) (by decide +kernel) rfl⟩
theorem fl_X4_15 : mj_fl RX4 15 2 9 := ⟨k1_2, by decide, mj_seg_1 (j := 201) (by decide +kernel) rfl⟩
theorem fl_X4_18 : mj_fl RX4 18 2 10 := ⟨k1_2, by decide, mj_seg_1 (j := 205) (by decide +kernel) rfl⟩
theorem fl_X4_21 : mj_fl RX4 21 2 11 := ⟨k1_2, by decide, mj_seg_1 (j := 207) (by decide +kernel) rfl⟩
theorem fl_X4_25 : mj_fl RX4 25 2 12 := ⟨k1_2, by decide, mj_seg_1 (j := 210) (by decide +kernel) rfl⟩
theorem fl_X4_28 : mj_fl RX4 28 2 13 := ⟨k1_2, by decide, mj_seg_1 (j := 216) (by decide +kernel) rfl⟩
theorem fl_X4_31 : mj_fl RX4 31 2 14 := ⟨k1_2, by decide, mj_seg_1 (j := 222) (by decide +kernel) rfl⟩
theorem fl_X4_34 : mj_fl RX4 34 2 15 := ⟨k1_2, by decide, mj_seg_1 (j := 228) (by decide +kernel) rfl⟩
theorem fl_X4_37 : mj_fl RX4 37 2 1 := ⟨k1_2, by decide, mj_seg_1 (j := 182) (by decide +kernel) rfl⟩
theorem fl_X4_41 : mj_fl RX4 41 2 0 := ⟨k1_2, by decide, mj_seg_1 (j := 180) (by decide +kernel) rfl⟩
theorem fl_X4_45 : mj_fl RX4 45 2 2 := ⟨k1_2, by decide, mj_seg_1 (j := 184) (by decide +kernel) rfl⟩
theorem fl_X4_48 : mj_fl RX4 48 2 3 := ⟨k1_2, by decide, mj_seg_1 (j := 189) (by decide +kernel) rfl⟩
theorem fl_X4_51 : mj_fl RX4 51 2 6 := ⟨k1_2, by decide, mj_seg_1 (j := 195) (by decide +kernel) rfl⟩
theorem fl_X4_54 : mj_fl RX4 54 5 0 := ⟨k1_5, by decide, mj_seg_1 (j := 52) (by decide +kernel) rfl⟩
theorem fl_X4_57 : mj_fl RX4 57 2 7 := ⟨k1_2, by decide, mj_seg_1 (j := 197) (by decide +kernel) rfl⟩
theorem fl_X4_74 : mj_fl RX4 74 2 4 := ⟨k1_2, by decide, mj_seg_1 (j := 191) (by decide +kernel) rfl⟩
theorem fl_X4_84 : mj_fl RX4 84 5 3 := ⟨k1_5, by decide, mj_seg_1 (j := 66) (by decide +kernel) rfl⟩
theorem fl_X4_87 : mj_fl RX4 87 5 1 := ⟨k1_5, by decide, mj_seg_1 (j := 58) (by decide +kernel) rfl⟩
theorem fl_X4_90 : mj_fl RX4 90 5 7 := ⟨k1_5, by decide, mj_seg_1 (j := 76) (by decide +kernel) rfl⟩
theorem fl_X4_93 : mj_fl RX4 93 5 2 := ⟨k1_5, by decide, mj_seg_1 (j := 61) (by decide +kernel) rfl⟩
theorem fl_X4_109 : mj_fl RX4 109 5 8 := ⟨k1_5, by decide, mj_seg_1 (j := 79) (by decide +kernel) rfl⟩
theorem fl_X4_118 : mj_fl RX4 118 2 5 := ⟨k1_2, by decide, mj_seg_1 (j := 194) (by decide +kernel) rfl⟩
theorem fl_X5_9 : mj_fl RX5 9 3 3 := ⟨k1_3, by decide, mj_seg_2 (j := 146) (by decide +kernel) rfl⟩
theorem fl_X5_15 : mj_fl RX5 15 3 4 := ⟨k1_3, by decide, mj_seg_2 (j := 148) (by decide +kernel) rfl⟩
theorem fl_X5_18 : mj_fl RX5 18 3 5 := ⟨k1_3, by decide, mj_seg_2 (j := 149) (by decide +kernel) rfl⟩
theorem fl_X5_22 : mj_fl RX5 22 3 6 := ⟨k1_3, by decide, mj_seg_2 (j := 150) (by decide +kernel) rfl⟩
theorem fl_X5_25 : mj_fl RX5 25 3 1 := ⟨k1_3, by decide, mj_seg_2 (j := 142) (by decide +kernel) rfl⟩
theorem fl_X5_29 : mj_fl RX5 29 3 0 := ⟨k1_3, by decide, mj_seg_2 (j := 141) (by decide +kernel) rfl⟩
theorem fl_X5_33 : mj_fl RX5 33 2 0 := ⟨k1_2, by decide, mj_seg_1 (j := 179) (by decide +kernel) rfl⟩
theorem fl_X5_36 : mj_fl RX5 36 3 2 := ⟨k1_3, by decide, mj_seg_2 (j := 144) (by decide +kernel) rfl⟩
theorem fl_X5_39 : mj_fl RX5 39 2 2 := ⟨k1_2, by decide, mj_seg_1 (j := 185) (by decide +kernel) rfl⟩
theorem fl_X5_66 : mj_fl RX5 66 2 13 := ⟨k1_2, by decide, mj_seg_1 (j := 217) (by decide +kernel) rfl⟩
theorem fl_X5_69 : mj_fl RX5 69 2 12 := ⟨k1_2, by decide, mj_seg_1 (j := 212) (by decide +kernel) rfl⟩
theorem fl_X5_72 : mj_fl RX5 72 2 8 := ⟨k1_2, by decide, mj_seg_1 (j := 199) (by decide +kernel) rfl⟩
theorem fl_X5_75 : mj_fl RX5 75 5 0 := ⟨k1_5, by decide, mj_seg_1 (j := 54) (by decide +kernel) rfl⟩
theorem fl_X5_78 : mj_fl RX5 78 5 1 := ⟨k1_5, by decide, mj_seg_1 (j := 56) (by decide +kernel) rfl⟩
theorem fl_X5_81 : mj_fl RX5 81 2 14 := ⟨k1_2, by decide, mj_seg_1 (j := 224) (by decide +kernel) rfl⟩
theorem fl_X5_88 : mj_fl RX5 88 5 3 := ⟨k1_5, by decide, mj_seg_1 (j := 67) (by decide +kernel) rfl⟩
theorem fl_X6_9 : mj_fl RX6 9 4 0 := ⟨k1_4, by decide, mj_seg_2 (j := 107) (by decide +kernel) rfl⟩
theorem fl_X6_15 : mj_fl RX6 15 4 1 := ⟨k1_4, by decide, mj_seg_2 (j := 108) (by decide +kernel) rfl⟩
theorem fl_X6_18 : mj_fl RX6 18 4 2 := ⟨k1_4, by decide, mj_seg_2 (j := 109) (by decide +kernel) rfl⟩
theorem fl_X6_21 : mj_fl RX6 21 4 3 := ⟨k1_4, by decide, mj_seg_2 (j := 110) (by decide +kernel) rfl⟩
theorem fl_X6_24 : mj_fl RX6 24 4 4 := ⟨k1_4, by decide, mj_seg_2 (j := 111) (by decide +kernel) rfl⟩
theorem fl_X6_27 : mj_fl RX6 27 4 5 := ⟨k1_4, by decide, mj_seg_2 (j := 112) (by decide +kernel) rfl⟩
theorem fl_X6_30 : mj_fl RX6 30 4 6 := ⟨k1_4, by decide, mj_seg_2 (j := 113) (by decide +kernel) rfl⟩
theorem fl_X6_33 : mj_fl RX6 33 4 7 := ⟨k1_4, by decide, mj_seg_2 (j := 114) (by decide +kernel) rfl⟩
theorem fl_X6_36 : mj_fl RX6 36 4 8 := ⟨k1_4, by decide, mj_seg_2 (j := 115) (by decide +kernel) rfl⟩
theorem fl_X6_39 : mj_fl RX6 39 2 0 := ⟨k1_2, by decide, mj_seg_1 (j := 181) (by decide +kernel) rfl⟩
theorem fl_X6_52 : mj_fl RX6 52 2 2 := ⟨k1_2, by decide, mj_seg_1 (j := 186) (by decide +kernel) rfl⟩
theorem fl_X6_71 : mj_fl RX6 71 2 9 := ⟨k1_2, by decide, mj_seg_1 (j := 202) (by decide +kernel) rfl⟩
theorem fl_X6_91 : mj_fl RX6 91 2 12 := ⟨k1_2, by decide, mj_seg_1 (j := 214) (by decide +kernel) rfl⟩
theorem fl_X6_94 : mj_fl RX6 94 2 13 := ⟨k1_2, by decide, mj_seg_1 (j := 220) (by decide +kernel) rfl⟩
theorem fl_X6_97 : mj_fl RX6 97 2 14 := ⟨k1_2, by decide, mj_seg_1 (j := 226) (by decide +kernel) rfl⟩
theorem fl_X7_9 : mj_fl RX7 9 5 1 := ⟨k1_5, by decide, mj_seg_1 (j := 55) (by decide +kernel) rfl⟩
theorem fl_X7_15 : mj_fl RX7 15 5 2 := ⟨k1_5, by decide, mj_seg_1 (j := 60) (by decide +kernel) rfl⟩
theorem fl_X7_18 : mj_fl RX7 18 5 3 := ⟨k1_5, by decide, mj_seg_1 (j := 64) (by decide +kernel) rfl⟩
theorem fl_X7_21 : mj_fl RX7 21 5 4 := ⟨k1_5, by decide, mj_seg_1 (j := 69) (by decide +kernel) rfl⟩
theorem fl_X7_24 : mj_fl RX7 24 5 5 := ⟨k1_5, by decide, mj_seg_1 (j := 71) (by decide +kernel) rfl⟩
theorem fl_X7_27 : mj_fl RX7 27 5 6 := ⟨k1_5, by decide, mj_seg_1 (j := 73) (by decide +kernel) rfl⟩
theorem fl_X7_30 : mj_fl RX7 30 5 7 := ⟨k1_5, by decide, mj_seg_1 (j := 75) (by decide +kernel) rfl⟩
theorem fl_X7_33 : mj_fl RX7 33 5 8 := ⟨k1_5, by decide, mj_seg_1 (j := 78) (by decide +kernel) rfl⟩
theorem fl_X7_36 : mj_fl RX7 36 5 9 := ⟨k1_5, by decide, mj_seg_1 (j := 81) (by decide +kernel) rfl⟩
theorem fl_X7_39 : mj_fl RX7 39 5 10 := ⟨k1_5, by decide, mj_seg_1 (j := 82) (by decide +kernel) rfl⟩
theorem fl_X7_42 : mj_fl RX7 42 5 0 := ⟨k1_5, by decide, mj_seg_1 (j := 51) (by decide +kernel) rfl⟩
theorem fl_X8_9 : mj_fl RX8 9 6 1 := ⟨k1_6, by decide, mj_seg_1 (j := 109) (by decide +kernel) rfl⟩
theorem fl_X8_18 : mj_fl RX8 18 6 2 := ⟨k1_6, by decide, mj_seg_1 (j := 110) (by decide +kernel) rfl⟩
theorem fl_X8_22 : mj_fl RX8 22 6 9 := ⟨k1_6, by decide, mj_seg_1 (j := 117) (by decide +kernel) rfl⟩
theorem fl_X8_26 : mj_fl RX8 26 6 11 := ⟨k1_6, by decide, mj_seg_1 (j := 119) (by decide +kernel) rfl⟩
theorem fl_X8_29 : mj_fl RX8 29 6 12 := ⟨k1_6, by decide, mj_seg_1 (j := 120) (by decide +kernel) rfl⟩
theorem fl_X8_32 : mj_fl RX8 32 6 13 := ⟨k1_6, by decide, mj_seg_1 (j := 121) (by decide +kernel) rfl⟩
theorem fl_X8_36 : mj_fl RX8 36 6 0 := ⟨k1_6, by decide, mj_seg_1 (j := 108) (by decide +kernel) rfl⟩
theorem fl_X8_45 : mj_fl RX8 45 6 3 := ⟨k1_6, by decide, mj_seg_1 (j := 111) (by decide +kernel) rfl⟩
theorem fl_X8_48 : mj_fl RX8 48 6 6 := ⟨k1_6, by decide, mj_seg_1 (j := 114) (by decide +kernel) rfl⟩
theorem fl_X8_51 : mj_fl RX8 51 6 8 := ⟨k1_6, by decide, mj_seg_1 (j := 116) (by decide +kernel) rfl⟩
theorem fl_X8_54 : mj_fl RX8 54 6 10 := ⟨k1_6, by decide, mj_seg_1 (j := 118) (by decide +kernel) rfl⟩
theorem fl_X8_63 : mj_fl RX8 63 6 4 := ⟨k1_6, by decide, mj_seg_1 (j := 112) (by decide +kernel) rfl⟩
theorem fl_X8_79 : mj_fl RX8 79 6 5 := ⟨k1_6, by decide, mj_seg_1 (j := 113) (by decide +kernel) rfl⟩
theorem fl_X8_82 : mj_fl RX8 82 6 7 := ⟨k1_6, by decide, mj_seg_1 (j := 115) (by decide +kernel) rfl⟩
theorem fl_X8_128 : mj_fl RX8 128 5 2 := ⟨k1_5, by decide, mj_seg_1 (j := 63) (by decide +kernel) rfl⟩
theorem fl_X8_137 : mj_fl RX8 137 5 4 := ⟨k1_5, by decide, mj_seg_1 (j := 70) (by decide +kernel) rfl⟩
theorem fl_X8_151 : mj_fl RX8 151 5 3 := ⟨k1_5, by decide, mj_seg_1 (j := 68) (by decide +kernel) rfl⟩
theorem fl_X8_158 : mj_fl RX8 158 5 5 := ⟨k1_5, by decide, mj_seg_1 (j := 72) (by decide +kernel) rfl⟩
theorem fl_X8_164 : mj_fl RX8 164 5 6 := ⟨k1_5, by decide, mj_seg_1 (j := 74) (by decide +kernel) rfl⟩
theorem fl_X8_167 : mj_fl RX8 167 5 1 := ⟨k1_5, by decide, mj_seg_1 (j := 59) (by decide +kernel) rfl⟩
theorem fl_X9_9 : mj_fl RX9 9 7 2 := ⟨k1_7, by decide, mj_seg_2 (j := 87) (by decide +kernel) rfl⟩
theorem fl_X9_15 : mj_fl RX9 15 7 3 := ⟨k1_7, by decide, mj_seg_2 (j := 88) (by decide +kernel) rfl⟩
theorem fl_X9_18 : mj_fl RX9 18 7 4 := ⟨k1_7, by decide, mj_seg_2 (j := 89) (by decide +kernel) rfl⟩
theorem fl_X9_21 : mj_fl RX9 21 7 0 := ⟨k1_7, by decide, mj_seg_2 (j := 85) (by decide +kernel) rfl⟩
theorem fl_X9_25 : mj_fl RX9 25 2 0 := ⟨k1_2, by decide, mj_seg_1 (j := 178) (by decide +kernel) rfl⟩
theorem fl_X9_38 : mj_fl RX9 38 7 1 := ⟨k1_7, by decide, mj_seg_2 (j := 86) (by decide +kernel) rfl⟩
theorem fl_X9_51 : mj_fl RX9 51 2 2 := ⟨k1_2, by decide, mj_seg_1 (j := 183) (by decide +kernel) rfl⟩
theorem fl_X9_62 : mj_fl RX9 62 2 12 := ⟨k1_2, by decide, mj_seg_1 (j := 211) (by decide +kernel) rfl⟩
theorem fl_X9_65 : mj_fl RX9 65 2 13 := ⟨k1_2, by decide, mj_seg_1 (j := 218) (by decide +kernel) rfl⟩
theorem fl_X9_68 : mj_fl RX9 68 2 14 := ⟨k1_2, by decide, mj_seg_1 (j := 223) (by decide +kernel) rfl⟩
theorem fl_X11_1 : mj_fl RX11 1 9 0 := ⟨k1_9, by decide, mj_seg_8 (j := 124) (by decide +kernel) rfl⟩
theorem fl_X11_7 : mj_fl RX11 7 9 1 := ⟨k1_9, by decide, mj_seg_8 (j := 125) (by decide +kernel) rfl⟩
theorem fl_X11_11 : mj_fl RX11 11 9 2 := ⟨k1_9, by decide, mj_seg_8 (j := 126) (by decide +kernel) rfl⟩
theorem fl_X11_14 : mj_fl RX11 14 9 9 := ⟨k1_9, by decide, mj_seg_8 (j := 133) (by decide +kernel) rfl⟩
theorem fl_X11_21 : mj_fl RX11 21 9 7 := ⟨k1_9, by decide, mj_seg_8 (j := 131) (by decide +kernel) rfl⟩
theorem fl_X11_25 : mj_fl RX11 25 9 14 := ⟨k1_9, by decide, mj_seg_8 (j := 138) (by decide +kernel) rfl⟩
theorem fl_X11_28 : mj_fl RX11 28 9 15 := ⟨k1_9, by decide, mj_seg_8 (j := 139) (by decide +kernel) rfl⟩
theorem fl_X11_31 : mj_fl RX11 31 9 11 := ⟨k1_9, by decide, mj_seg_8 (j := 135) (by decide +kernel) rfl⟩
theorem fl_X11_34 : mj_fl RX11 34 9 10 := ⟨k1_9, by decide, mj_seg_8 (j := 134) (by decide +kernel) rfl⟩
theorem fl_X11_37 : mj_fl RX11 37 9 8 := ⟨k1_9, by decide, mj_seg_8 (j := 132) (by decide +kernel) rfl⟩
theorem fl_X11_75 : mj_fl RX11 75 9 12 := ⟨k1_9, by decide, mj_seg_8 (j := 136) (by decide +kernel) rfl⟩
theorem fl_X11_95 : mj_fl RX11 95 9 3 := ⟨k1_9, by decide, mj_seg_8 (j := 127) (by decide +kernel) rfl⟩
theorem fl_X11_119 : mj_fl RX11 119 9 5 := ⟨k1_9, by decide, mj_seg_8 (j := 129) (by decide +kernel) rfl⟩
theorem fl_X11_131 : mj_fl RX11 131 9 13 := ⟨k1_9, by decide, mj_seg_8 (j := 137) (by decide +kernel) rfl⟩
theorem fl_X11_165 : mj_fl RX11 165 9 16 := ⟨k1_9, by decide, mj_seg_8 (j := 140) (by decide +kernel) rfl⟩
theorem fl_X11_172 : mj_fl RX11 172 9 4 := ⟨k1_9, by decide, mj_seg_8 (j := 128) (by decide +kernel) rfl⟩
theorem fl_X11_178 : mj_fl RX11 178 9 6 := ⟨k1_9, by decide, mj_seg_8 (j := 130) (by decide +kernel) rfl⟩
theorem fl_X11_181 : mj_fl RX11 181 9 17 := ⟨k1_9, by decide, mj_seg_8 (j := 141) (by decide +kernel) rfl⟩
theorem fl_X11_187 : mj_fl RX11 187 9 18 := ⟨k1_9, by decide, mj_seg_8 (j := 142) (by decide +kernel) rfl⟩
theorem fl_X11_190 : mj_fl RX11 190 9 19 := ⟨k1_9, by decide, mj_seg_8 (j := 143) (by decide +kernel) rfl⟩
theorem fl_X11_208 : mj_fl RX11 208 9 20 := ⟨k1_9, by decide, mj_seg_8 (j := 144) (by decide +kernel) rfl⟩
theorem fl_X11_212 : mj_fl RX11 212 9 22 := ⟨k1_9, by decide, mj_seg_8 (j := 146) (by decide +kernel) rfl⟩
theorem fl_X11_215 : mj_fl RX11 215 9 34 := ⟨k1_9, by decide, mj_seg_8 (j := 158) (by decide +kernel) rfl⟩
theorem fl_X11_227 : mj_fl RX11 227 9 24 := ⟨k1_9, by decide, mj_seg_8 (j := 148) (by decide +kernel) rfl⟩
theorem fl_X11_230 : mj_fl RX11 230 9 27 := ⟨k1_9, by decide, mj_seg_8 (j := 151) (by decide +kernel) rfl⟩
theorem fl_X11_233 : mj_fl RX11 233 9 28 := ⟨k1_9, by decide, mj_seg_8 (j := 152) (by decide +kernel) rfl⟩
theorem fl_X11_236 : mj_fl RX11 236 9 21 := ⟨k1_9, by decide, mj_seg_8 (j := 145) (by decide +kernel) rfl⟩
theorem fl_X11_239 : mj_fl RX11 239 9 29 := ⟨k1_9, by decide, mj_seg_8 (j := 153) (by decide +kernel) rfl⟩
theorem fl_X11_242 : mj_fl RX11 242 9 26 := ⟨k1_9, by decide, mj_seg_8 (j := 150) (by decide +kernel) rfl⟩
theorem fl_X11_248 : mj_fl RX11 248 9 31 := ⟨k1_9, by decide, mj_seg_8 (j := 155) (by decide +kernel) rfl⟩
theorem fl_X11_251 : mj_fl RX11 251 9 30 := ⟨k1_9, by decide, mj_seg_8 (j := 154) (by decide +kernel) rfl⟩
theorem fl_X11_254 : mj_fl RX11 254 9 32 := ⟨k1_9, by decide, mj_seg_8 (j := 156) (by decide +kernel) rfl⟩
theorem fl_X11_257 : mj_fl RX11 257 9 25 := ⟨k1_9, by decide, mj_seg_8 (j := 149) (by decide +kernel) rfl⟩
theorem fl_X11_275 : mj_fl RX11 275 9 33 := ⟨k1_9, by decide, mj_seg_8 (j := 157) (by decide +kernel) rfl⟩
theorem fl_X11_293 : mj_fl RX11 293 9 38 := ⟨k1_9, by decide, mj_seg_8 (j := 162) (by decide +kernel) rfl⟩
theorem fl_X11_296 : mj_fl RX11 296 9 35 := ⟨k1_9, by decide, mj_seg_8 (j := 159) (by decide +kernel) rfl⟩
theorem fl_X11_300 : mj_fl RX11 300 9 36 := ⟨k1_9, by decide, mj_seg_8 (j := 160) (by decide +kernel) rfl⟩
theorem fl_X11_304 : mj_fl RX11 304 9 45 := ⟨k1_9, by decide, mj_seg_8 (j := 169) (by decide +kernel) rfl⟩
theorem fl_X11_307 : mj_fl RX11 307 9 23 := ⟨k1_9, by decide, mj_seg_8 (j := 147) (by decide +kernel) rfl⟩
theorem fl_X11_316 : mj_fl RX11 316 9 37 := ⟨k1_9, by decide, mj_seg_8 (j := 161) (by decide +kernel) rfl⟩
theorem fl_X11_373 : mj_fl RX11 373 9 39 := ⟨k1_9, by decide, mj_seg_8 (j := 163) (by decide +kernel) rfl⟩
theorem fl_X11_376 : mj_fl RX11 376 9 40 := ⟨k1_9, by decide, mj_seg_8 (j := 164) (by decide +kernel) rfl⟩
theorem fl_X11_379 : mj_fl RX11 379 9 41 := ⟨k1_9, by decide, mj_seg_8 (j := 165) (by decide +kernel) rfl⟩
theorem fl_X11_382 : mj_fl RX11 382 9 43 := ⟨k1_9, by decide, mj_seg_8 (j := 167) (by decide +kernel) rfl⟩
theorem fl_X11_389 : mj_fl RX11 389 9 42 := ⟨k1_9, by decide, mj_seg_8 (j := 166) (by decide +kernel) rfl⟩
theorem fl_X11_407 : mj_fl RX11 407 9 44 := ⟨k1_9, by decide, mj_seg_8 (j := 168) (by decide +kernel) rfl⟩
theorem cw_X10_76 : mj_cv RX10 76 yX8_put cX8_put 3 none 1 6 := ⟨⟨wd_561, wd_115, mj_seg_2 (j := 205) (w := .methodLink RX10 76 yX8_put) (by decide +kernel) rfl, by decide +kernel, by decide⟩, wd_559, wd_560, by decide⟩
theorem cw_X10_80 : mj_cv RX10 80 yX10_needNumber cX10_needNumber 4 none 3 8 := ⟨⟨wd_660, wd_114, mj_seg_3 (j := 64) (w := .methodLink RX10 80 yX10_needNumber) (by decide +kernel) rfl, by decide +kernel, by decide⟩, wd_659, wd_5, by decide⟩
theorem cw_X10_84 : mj_cv RX10 84 yX8_read cX8_read 3 (some .int) 1 6 := ⟨⟨wd_736, wd_115, mj_seg_3 (j := 140) (w := .methodLink RX10 84 yX8_read) (by decide +kernel) rfl, by decide +kernel, by decide⟩, wd_734, wd_735, by decide⟩
theorem cw_X10_88 : mj_cv RX10 88 yX8_faultPlace cX8_faultPlace 1 (some .int) 0 6 := ⟨⟨wd_885, wd_115, mj_seg_4 (j := 49) (w := .methodLink RX10 88 yX8_faultPlace) (by decide +kernel) rfl, by decide +kernel, by decide⟩, wd_883, wd_884, by decide⟩
theorem cw_X10_91 : mj_cv RX10 91 yX8_exchange cX8_exchange 3 (some (.object "OddsSolver$Program")) 1 6 := ⟨⟨wd_889, wd_115, mj_seg_4 (j := 53) (w := .methodLink RX10 91 yX8_exchange) (by decide +kernel) rfl, by decide +kernel, by decide⟩, wd_887, wd_888, by decide⟩
theorem cw_X10_98 : mj_cv RX10 98 yX0_clear cX0_clear 1 none 0 0 := ⟨⟨wd_893, wd_117, mj_seg_4 (j := 57) (w := .methodLink RX10 98 yX0_clear) (by decide +kernel) rfl, by decide +kernel, by decide⟩, wd_891, wd_892, by decide⟩
theorem cw_X10_101 : mj_cv RX10 101 yX4_forget cX4_forget 1 none 0 2 := ⟨⟨wd_593, wd_118, mj_seg_2 (j := 237) (w := .methodLink RX10 101 yX4_forget) (by decide +kernel) rfl, by decide +kernel, by decide⟩, wd_591, wd_592, by decide⟩
theorem cw_X10_107 : mj_cv RX10 107 yX10_needVariable cX10_needVariable 2 none 1 8 := ⟨⟨wd_905, wd_114, mj_seg_4 (j := 69) (w := .methodLink RX10 107 yX10_needVariable) (by decide +kernel) rfl, by decide +kernel, by decide⟩, wd_904, wd_25, by decide⟩
theorem cw_X10_110 : mj_cs RX10 110 yX1_get cX1_get 2 (some .int) 2 := ⟨⟨wd_587, wd_134, mj_seg_4 (j := 93) (w := .methodLink RX10 110 yX1_get) (by decide +kernel) rfl, by decide +kernel, by decide⟩, wd_586⟩
theorem cw_X10_116 : mj_cv RX10 116 yX0_keep cX0_keep 3 none 2 0 := ⟨⟨wd_930, wd_117, mj_seg_4 (j := 94) (w := .methodLink RX10 116 yX0_keep) (by decide +kernel) rfl, by decide +kernel, by decide⟩, wd_928, wd_929, by decide⟩
theorem cw_X10_120 : mj_cs RX10 120 yX1_put cX1_put 3 (some .int) 3 := ⟨⟨wd_584, wd_134, mj_seg_2 (j := 229) (w := .methodLink RX10 120 yX1_put) (by decide +kernel) rfl, by decide +kernel, by decide⟩, wd_583⟩
theorem cw_X10_123 : mj_cv RX10 123 yX10_needStatement cX10_needStatement 2 none 1 8 := ⟨⟨wd_944, wd_114, mj_seg_4 (j := 108) (w := .methodLink RX10 123 yX10_needStatement) (by decide +kernel) rfl, by decide +kernel, by decide⟩, wd_943, wd_27, by decide⟩
theorem cw_X10_129 : mj_cv RX10 129 yX10_refuseArgument cX10_refuseArgument 1 none 0 8 := ⟨⟨wd_664, wd_114, mj_seg_3 (j := 68) (w := .methodLink RX10 129 yX10_refuseArgument) (by decide +kernel) rfl, by decide +kernel, by decide⟩, wd_663, wd_6, by decide⟩
theorem cw_X10_136 : mj_cv RX10 136 yX0_latestWhere cX0_latestWhere 1 (some .int) 0 0 := ⟨⟨wd_573, wd_117, mj_seg_2 (j := 217) (w := .methodLink RX10 136 yX0_latestWhere) (by decide +kernel) rfl, by decide +kernel, by decide⟩, wd_571, wd_572, by decide⟩
theorem cw_X10_139 : mj_cv RX10 139 yX0_latestWas cX0_latestWas 1 (some .int) 0 0 := ⟨⟨wd_577, wd_117, mj_seg_2 (j := 221) (w := .methodLink RX10 139 yX0_latestWas) (by decide +kernel) rfl, by decide +kernel, by decide⟩, wd_575, wd_576, by decide⟩
theorem cw_X10_142 : mj_cv RX10 142 yX0_drop cX0_drop 1 none 0 0 := ⟨⟨wd_581, wd_117, mj_seg_2 (j := 225) (w := .methodLink RX10 142 yX0_drop) (by decide +kernel) rfl, by decide +kernel, by decide⟩, wd_579, wd_580, by decide⟩
theorem cw_X10_145 : mj_cv RX10 145 yX4_explore cX4_explore 4 none 2 2 := ⟨⟨wd_601, wd_118, mj_seg_3 (j := 5) (w := .methodLink RX10 145 yX4_explore) (by decide +kernel) rfl, by decide +kernel, by decide⟩, wd_599, wd_600, by decide⟩
theorem cw_X10_163 : mj_cv RX10 163 yX4_greatestLevel cX4_greatestLevel 1 (some .int) 0 2 := ⟨⟨wd_955, wd_118, mj_seg_4 (j := 119) (w := .methodLink RX10 163 yX4_greatestLevel) (by decide +kernel) rfl, by decide +kernel, by decide⟩, wd_953, wd_954, by decide⟩
theorem cw_X10_175 : mj_cv RX10 175 yX10_needStates cX10_needStates 1 none 0 8 := ⟨⟨wd_981, wd_114, mj_seg_4 (j := 145) (w := .methodLink RX10 175 yX10_needStates) (by decide +kernel) rfl, by decide +kernel, by decide⟩, wd_980, wd_28, by decide⟩
theorem cw_X10_178 : mj_cv RX10 178 yX10_needState cX10_needState 2 none 1 8 := ⟨⟨wd_1005, wd_114, mj_seg_4 (j := 169) (w := .methodLink RX10 178 yX10_needState) (by decide +kernel) rfl, by decide +kernel, by decide⟩, wd_1004, wd_30, by decide⟩
theorem cw_X10_191 : mj_cv RX10 191 yX4_arcsOf cX4_arcsOf 2 (some .int) 1 2 := ⟨⟨wd_1009, wd_118, mj_seg_4 (j := 173) (w := .methodLink RX10 191 yX4_arcsOf) (by decide +kernel) rfl, by decide +kernel, by decide⟩, wd_1007, wd_1008, by decide⟩
theorem cw_X10_197 : mj_cv RX10 197 yX10_refuseElement cX10_refuseElement 1 none 0 8 := ⟨⟨wd_909, wd_114, mj_seg_4 (j := 73) (w := .methodLink RX10 197 yX10_refuseElement) (by decide +kernel) rfl, by decide +kernel, by decide⟩, wd_908, wd_26, by decide⟩
theorem cw_X10_209 : mj_cv RX10 209 yX10_needForm cX10_needForm 2 none 1 8 := ⟨⟨wd_1027, wd_114, mj_seg_4 (j := 191) (w := .methodLink RX10 209 yX10_needForm) (by decide +kernel) rfl, by decide +kernel, by decide⟩, wd_1026, wd_31, by decide⟩
theorem cw_X10_212 : mj_cv RX10 212 yX2_solve cX2_solve 2 (some .boolean) 1 1 := ⟨⟨wd_1031, wd_119, mj_seg_4 (j := 195) (w := .methodLink RX10 212 yX2_solve) (by decide +kernel) rfl, by decide +kernel, by decide⟩, wd_1029, wd_1030, by decide⟩
theorem cw_X10_219 : mj_cs RX10 219 yX3_inForm cX3_inForm 17 (some .int) 2 := ⟨⟨wd_1313, wd_143, mj_seg_5 (j := 238) (w := .methodLink RX10 219 yX3_inForm) (by decide +kernel) rfl, by decide +kernel, by decide⟩, wd_1312⟩
theorem cw_X10_227 : mj_cv RX10 227 yX2_forEver cX2_forEver 1 (some .int) 0 1 := ⟨⟨wd_1318, wd_119, mj_seg_6 (j := 2) (w := .methodLink RX10 227 yX2_forEver) (by decide +kernel) rfl, by decide +kernel, by decide⟩, wd_1316, wd_1317, by decide⟩
theorem cw_X10_230 : mj_cv RX10 230 yX10_needEnd cX10_needEnd 1 none 0 8 := ⟨⟨wd_1329, wd_114, mj_seg_6 (j := 13) (w := .methodLink RX10 230 yX10_needEnd) (by decide +kernel) rfl, by decide +kernel, by decide⟩, wd_1328, wd_40, by decide⟩
theorem cw_X10_233 : mj_cv RX10 233 yX10_coupleInForm cX10_coupleInForm 6 (some .int) 5 8 := ⟨⟨wd_1333, wd_114, mj_seg_6 (j := 17) (w := .methodLink RX10 233 yX10_coupleInForm) (by decide +kernel) rfl, by decide +kernel, by decide⟩, wd_1332, wd_41, by decide⟩
theorem cw_X10_237 : mj_cv RX10 237 yX2_canDivide cX2_canDivide 2 (some .boolean) 1 1 := ⟨⟨wd_1337, wd_119, mj_seg_6 (j := 21) (w := .methodLink RX10 237 yX2_canDivide) (by decide +kernel) rfl, by decide +kernel, by decide⟩, wd_1335, wd_1336, by decide⟩
theorem cw_X10_240 : mj_cv RX10 240 yX2_valuesTogether cX2_valuesTogether 5 (some .int) 2 1 := ⟨⟨wd_1365, wd_119, mj_seg_6 (j := 49) (w := .methodLink RX10 240 yX2_valuesTogether) (by decide +kernel) rfl, by decide +kernel, by decide⟩, wd_1363, wd_1364, by decide⟩
theorem cw_X10_244 : mj_cv RX10 244 yX2_shareOfEnded cX2_shareOfEnded 2 (some .int) 1 1 := ⟨⟨wd_1347, wd_119, mj_seg_6 (j := 31) (w := .methodLink RX10 244 yX2_shareOfEnded) (by decide +kernel) rfl, by decide +kernel, by decide⟩, wd_1345, wd_1346, by decide⟩
theorem cw_X10_247 : mj_cv RX10 247 yX2_areIndependent cX2_areIndependent 7 (some .boolean) 3 1 := ⟨⟨wd_1376, wd_119, mj_seg_6 (j := 60) (w := .methodLink RX10 247 yX2_areIndependent) (by decide +kernel) rfl, by decide +kernel, by decide⟩, wd_1374, wd_1375, by decide⟩
theorem cw_X10_257 : mj_cv RX10 257 yX9_endedBy cX9_endedBy 4 (some .int) 2 7 := ⟨⟨wd_1402, wd_120, mj_seg_6 (j := 86) (w := .methodLink RX10 257 yX9_endedBy) (by decide +kernel) rfl, by decide +kernel, by decide⟩, wd_1400, wd_1401, by decide⟩
theorem cw_X10_260 : mj_cv RX10 260 yX6_find cX6_find 6 none 2 4 := ⟨⟨wd_1426, wd_121, mj_seg_6 (j := 110) (w := .methodLink RX10 260 yX6_find) (by decide +kernel) rfl, by decide +kernel, by decide⟩, wd_1424, wd_1425, by decide⟩
theorem cw_X10_264 : mj_cv RX10 264 yX6_countBy cX6_countBy 2 (some .int) 1 4 := ⟨⟨wd_1451, wd_121, mj_seg_6 (j := 135) (w := .methodLink RX10 264 yX6_countBy) (by decide +kernel) rfl, by decide +kernel, by decide⟩, wd_1449, wd_1450, by decide⟩
theorem cw_X10_267 : mj_cv RX10 267 yX6_labelBy cX6_labelBy 3 (some .int) 2 4 := ⟨⟨wd_1462, wd_121, mj_seg_6 (j := 146) (w := .methodLink RX10 267 yX6_labelBy) (by decide +kernel) rfl, by decide +kernel, by decide⟩, wd_1460, wd_1461, by decide⟩
theorem cw_X10_270 : mj_cv RX10 270 yX5_find cX5_find 7 none 2 3 := ⟨⟨wd_1473, wd_122, mj_seg_6 (j := 157) (w := .methodLink RX10 270 yX5_find) (by decide +kernel) rfl, by decide +kernel, by decide⟩, wd_1471, wd_1472, by decide⟩
theorem cw_X10_273 : mj_cv RX10 273 yX5_exists cX5_exists 1 (some .boolean) 0 3 := ⟨⟨wd_1497, wd_122, mj_seg_6 (j := 181) (w := .methodLink RX10 273 yX5_exists) (by decide +kernel) rfl, by decide +kernel, by decide⟩, wd_1495, wd_1496, by decide⟩
theorem cw_X10_289 : mj_cv RX10 289 yX10_refuseState cX10_refuseState 1 none 0 8 := ⟨⟨wd_985, wd_114, mj_seg_4 (j := 149) (w := .methodLink RX10 289 yX10_refuseState) (by decide +kernel) rfl, by decide +kernel, by decide⟩, wd_984, wd_29, by decide⟩
theorem cw_X10_309 : mj_cv RX10 309 yX2_coupleTogether cX2_coupleTogether 8 (some .int) 5 1 := ⟨⟨wd_1342, wd_119, mj_seg_6 (j := 26) (w := .methodLink RX10 309 yX2_coupleTogether) (by decide +kernel) rfl, by decide +kernel, by decide⟩, wd_1340, wd_1341, by decide⟩
theorem cw_X1_15 : mj_cs RX1 15 yX1_get cX1_get 2 (some .int) 2 := ⟨⟨wd_587, wd_134, mj_seg_2 (j := 232) (w := .methodLink RX1 15 yX1_get) (by decide +kernel) rfl, by decide +kernel, by decide⟩, wd_586⟩
theorem cw_X2_47 : mj_cv RX2 47 yX2_write cX2_write 4 none 1 1 := ⟨⟨wd_1035, wd_119, mj_seg_4 (j := 199) (w := .methodLink RX2 47 yX2_write) (by decide +kernel) rfl, by decide +kernel, by decide⟩, wd_1034, wd_32, by decide⟩
theorem cw_X2_51 : mj_cv RX2 51 yX2_eliminate cX2_eliminate 6 (some .boolean) 0 1 := ⟨⟨wd_1280, wd_119, mj_seg_5 (j := 204) (w := .methodLink RX2 51 yX2_eliminate) (by decide +kernel) rfl, by decide +kernel, by decide⟩, wd_1279, wd_34, by decide⟩
theorem cw_X2_59 : mj_cv RX2 59 yX2_substitute cX2_substitute 5 none 0 1 := ⟨⟨wd_1297, wd_119, mj_seg_5 (j := 221) (w := .methodLink RX2 59 yX2_substitute) (by decide +kernel) rfl, by decide +kernel, by decide⟩, wd_1296, wd_37, by decide⟩
theorem cw_X2_62 : mj_cv RX2 62 yX2_passOn cX2_passOn 7 none 1 1 := ⟨⟨wd_1301, wd_119, mj_seg_5 (j := 225) (w := .methodLink RX2 62 yX2_passOn) (by decide +kernel) rfl, by decide +kernel, by decide⟩, wd_1300, wd_38, by decide⟩
theorem cw_X2_65 : mj_cv RX2 65 yX2_addUp cX2_addUp 3 none 1 1 := ⟨⟨wd_1305, wd_119, mj_seg_5 (j := 229) (w := .methodLink RX2 65 yX2_addUp) (by decide +kernel) rfl, by decide +kernel, by decide⟩, wd_1304, wd_39, by decide⟩
theorem cw_X2_68 : mj_cv RX2 68 yX2_solve cX2_solve 2 (some .boolean) 1 1 := ⟨⟨wd_1031, wd_119, mj_seg_6 (j := 25) (w := .methodLink RX2 68 yX2_solve) (by decide +kernel) rfl, by decide +kernel, by decide⟩, wd_1029, wd_1030, by decide⟩
theorem cw_X2_75 : mj_cs RX2 75 yX3_inverse cX3_inverse 4 (some .int) 1 := ⟨⟨wd_1287, wd_143, mj_seg_5 (j := 212) (w := .methodLink RX2 75 yX3_inverse) (by decide +kernel) rfl, by decide +kernel, by decide⟩, wd_1286⟩
theorem cw_X2_81 : mj_cs RX2 81 yX3_times cX3_times 2 (some .int) 2 := ⟨⟨wd_1272, wd_143, mj_seg_5 (j := 216) (w := .methodLink RX2 81 yX3_times) (by decide +kernel) rfl, by decide +kernel, by decide⟩, wd_1271⟩
theorem cw_X2_85 : mj_cs RX2 85 yX3_less cX3_less 2 (some .int) 2 := ⟨⟨wd_1276, wd_143, mj_seg_5 (j := 201) (w := .methodLink RX2 85 yX3_less) (by decide +kernel) rfl, by decide +kernel, by decide⟩, wd_1275⟩
theorem cw_X2_101 : mj_cv RX2 101 yX4_arcsOf cX4_arcsOf 2 (some .int) 1 2 := ⟨⟨wd_1009, wd_118, mj_seg_4 (j := 203) (w := .methodLink RX2 101 yX4_arcsOf) (by decide +kernel) rfl, by decide +kernel, by decide⟩, wd_1007, wd_1008, by decide⟩
theorem cw_X2_104 : mj_cs RX2 104 yJ7_fill_fda19 cJ7_fill_fda19 5 none 4 := ⟨⟨wd_1039, wd_136, mj_seg_4 (j := 204) (w := .methodLink RX2 104 yJ7_fill_fda19) (by decide +kernel) rfl, by decide +kernel, by decide⟩, wd_1038⟩
theorem cw_X2_110 : mj_cs RX2 110 yX3_plus cX3_plus 3 (some .int) 2 := ⟨⟨wd_1260, wd_143, mj_seg_5 (j := 185) (w := .methodLink RX2 110 yX3_plus) (by decide +kernel) rfl, by decide +kernel, by decide⟩, wd_1259⟩
theorem cw_X2_113 : mj_cv RX2 113 yX2_writeArcs cX2_writeArcs 7 none 2 1 := ⟨⟨wd_1265, wd_119, mj_seg_5 (j := 189) (w := .methodLink RX2 113 yX2_writeArcs) (by decide +kernel) rfl, by decide +kernel, by decide⟩, wd_1264, wd_33, by decide⟩
theorem cw_X2_126 : mj_cs RX2 126 yX3_sixtieth cX3_sixtieth 1 (some .int) 1 := ⟨⟨wd_1268, wd_143, mj_seg_5 (j := 193) (w := .methodLink RX2 126 yX3_sixtieth) (by decide +kernel) rfl, by decide +kernel, by decide⟩, wd_1267⟩
theorem cw_X2_129 : mj_cv RX2 129 yX2_normalise cX2_normalise 6 (some .int) 2 1 := ⟨⟨wd_1284, wd_119, mj_seg_5 (j := 208) (w := .methodLink RX2 129 yX2_normalise) (by decide +kernel) rfl, by decide +kernel, by decide⟩, wd_1283, wd_35, by decide⟩
theorem cw_X2_132 : mj_cv RX2 132 yX2_takeAway cX2_takeAway 8 none 4 1 := ⟨⟨wd_1293, wd_119, mj_seg_5 (j := 217) (w := .methodLink RX2 132 yX2_takeAway) (by decide +kernel) rfl, by decide +kernel, by decide⟩, wd_1292, wd_36, by decide⟩
theorem cw_X2_139 : mj_cv RX2 139 yX4_isEnd cX4_isEnd 2 (some .boolean) 1 2 := ⟨⟨wd_635, wd_118, mj_seg_5 (j := 233) (w := .methodLink RX2 139 yX4_isEnd) (by decide +kernel) rfl, by decide +kernel, by decide⟩, wd_633, wd_634, by decide⟩
theorem cw_X2_143 : mj_cv RX2 143 yX4_isBroken cX4_isBroken 2 (some .boolean) 1 2 := ⟨⟨wd_1310, wd_118, mj_seg_5 (j := 234) (w := .methodLink RX2 143 yX4_isBroken) (by decide +kernel) rfl, by decide +kernel, by decide⟩, wd_1308, wd_1309, by decide⟩
theorem cw_X2_149 : mj_cs RX2 149 yX1_get cX1_get 2 (some .int) 2 := ⟨⟨wd_587, wd_134, mj_seg_6 (j := 30) (w := .methodLink RX2 149 yX1_get) (by decide +kernel) rfl, by decide +kernel, by decide⟩, wd_586⟩
theorem cw_X2_154 : mj_cs RX2 154 yJ7_fill_53178 cJ7_fill_53178 4 none 2 := ⟨⟨wd_604, wd_136, mj_seg_6 (j := 64) (w := .methodLink RX2 154 yJ7_fill_53178) (by decide +kernel) rfl, by decide +kernel, by decide⟩, wd_603⟩
theorem cw_X3_15 : mj_cs RX3 15 yX3_times cX3_times 2 (some .int) 2 := ⟨⟨wd_1272, wd_143, mj_seg_5 (j := 197) (w := .methodLink RX3 15 yX3_times) (by decide +kernel) rfl, by decide +kernel, by decide⟩, wd_1271⟩
theorem cw_X4_60 : mj_cs RX4 60 yJ7_fill_53178 cJ7_fill_53178 4 none 2 := ⟨⟨wd_604, wd_136, mj_seg_3 (j := 9) (w := .methodLink RX4 60 yJ7_fill_53178) (by decide +kernel) rfl, by decide +kernel, by decide⟩, wd_603⟩
theorem cw_X4_66 : mj_cv RX4 66 yX4_stateAt cX4_stateAt 7 (some .int) 3 2 := ⟨⟨wd_608, wd_118, mj_seg_3 (j := 12) (w := .methodLink RX4 66 yX4_stateAt) (by decide +kernel) rfl, by decide +kernel, by decide⟩, wd_607, wd_0, by decide⟩
theorem cw_X4_70 : mj_cv RX4 70 yX4_leave cX4_leave 7 none 2 2 := ⟨⟨wd_614, wd_118, mj_seg_3 (j := 18) (w := .methodLink RX4 70 yX4_leave) (by decide +kernel) rfl, by decide +kernel, by decide⟩, wd_613, wd_1, by decide⟩
theorem cw_X4_77 : mj_cv RX4 77 yX4_isEnd cX4_isEnd 2 (some .boolean) 1 2 := ⟨⟨wd_635, wd_118, mj_seg_3 (j := 39) (w := .methodLink RX4 77 yX4_isEnd) (by decide +kernel) rfl, by decide +kernel, by decide⟩, wd_633, wd_634, by decide⟩
theorem cw_X4_81 : mj_cv RX4 81 yX4_findTrapped cX4_findTrapped 4 none 0 2 := ⟨⟨wd_639, wd_118, mj_seg_3 (j := 43) (w := .methodLink RX4 81 yX4_findTrapped) (by decide +kernel) rfl, by decide +kernel, by decide⟩, wd_638, wd_3, by decide⟩
theorem cw_X4_96 : mj_cv RX4 96 yX7_assigned cX7_assigned 3 (some .int) 2 5 := ⟨⟨wd_618, wd_116, mj_seg_3 (j := 22) (w := .methodLink RX4 96 yX7_assigned) (by decide +kernel) rfl, by decide +kernel, by decide⟩, wd_616, wd_617, by decide⟩
theorem cw_X4_100 : mj_cs RX4 100 yX1_put cX1_put 3 (some .int) 3 := ⟨⟨wd_584, wd_134, mj_seg_3 (j := 30) (w := .methodLink RX4 100 yX1_put) (by decide +kernel) rfl, by decide +kernel, by decide⟩, wd_583⟩
theorem cw_X4_105 : mj_cv RX4 105 yX4_lead cX4_lead 6 none 4 2 := ⟨⟨wd_627, wd_118, mj_seg_3 (j := 31) (w := .methodLink RX4 105 yX4_lead) (by decide +kernel) rfl, by decide +kernel, by decide⟩, wd_626, wd_2, by decide⟩
theorem cw_X4_112 : mj_cv RX4 112 yX7_holds cX7_holds 5 (some .boolean) 2 5 := ⟨⟨wd_631, wd_116, mj_seg_3 (j := 35) (w := .methodLink RX4 112 yX7_holds) (by decide +kernel) rfl, by decide +kernel, by decide⟩, wd_629, wd_630, by decide⟩
theorem cw_X4_121 : mj_cv RX4 121 yX4_leadsOut cX4_leadsOut 3 (some .boolean) 1 2 := ⟨⟨wd_643, wd_118, mj_seg_3 (j := 47) (w := .methodLink RX4 121 yX4_leadsOut) (by decide +kernel) rfl, by decide +kernel, by decide⟩, wd_642, wd_4, by decide⟩
theorem cw_X5_40 : mj_cs RX5 40 yX5_stopFrom cX5_stopFrom 5 (some .int) 3 := ⟨⟨wd_1476, wd_122, mj_seg_6 (j := 161) (w := .methodLink RX5 40 yX5_stopFrom) (by decide +kernel) rfl, by decide +kernel, by decide⟩, wd_1475⟩
theorem cw_X5_44 : mj_cv RX5 44 yX5_weigh cX5_weigh 13 none 4 3 := ⟨⟨wd_1485, wd_122, mj_seg_6 (j := 169) (w := .methodLink RX5 44 yX5_weigh) (by decide +kernel) rfl, by decide +kernel, by decide⟩, wd_1484, wd_48, by decide⟩
theorem cw_X5_50 : mj_cv RX5 50 yX5_trace cX5_trace 10 none 2 3 := ⟨⟨wd_1490, wd_122, mj_seg_6 (j := 174) (w := .methodLink RX5 50 yX5_trace) (by decide +kernel) rfl, by decide +kernel, by decide⟩, wd_1489, wd_49, by decide⟩
theorem cw_X5_54 : mj_cv RX5 54 yX4_isEnd cX4_isEnd 2 (some .boolean) 1 2 := ⟨⟨wd_635, wd_118, mj_seg_6 (j := 164) (w := .methodLink RX5 54 yX4_isEnd) (by decide +kernel) rfl, by decide +kernel, by decide⟩, wd_633, wd_634, by decide⟩
theorem cw_X5_58 : mj_cs RX5 58 yX5_isDrawn cX5_isDrawn 4 (some .boolean) 3 := ⟨⟨wd_1480, wd_122, mj_seg_6 (j := 165) (w := .methodLink RX5 58 yX5_isDrawn) (by decide +kernel) rfl, by decide +kernel, by decide⟩, wd_1479⟩
theorem cw_X5_62 : mj_cv RX5 62 yX4_arcsOf cX4_arcsOf 2 (some .int) 1 2 := ⟨⟨wd_1009, wd_118, mj_seg_6 (j := 168) (w := .methodLink RX5 62 yX4_arcsOf) (by decide +kernel) rfl, by decide +kernel, by decide⟩, wd_1007, wd_1008, by decide⟩
theorem cw_X5_84 : mj_cs RX5 84 yX5_drawn cX5_drawn 5 (some .int) 4 := ⟨⟨wd_1493, wd_122, mj_seg_6 (j := 178) (w := .methodLink RX5 84 yX5_drawn) (by decide +kernel) rfl, by decide +kernel, by decide⟩, wd_1492⟩
theorem cw_X6_45 : mj_cv RX6 45 yX6_labelKinds cX6_labelKinds 6 (some .int) 2 4 := ⟨⟨wd_1430, wd_121, mj_seg_6 (j := 114) (w := .methodLink RX6 45 yX6_labelKinds) (by decide +kernel) rfl, by decide +kernel, by decide⟩, wd_1429, wd_44, by decide⟩
theorem cw_X6_49 : mj_cv RX6 49 yX6_split cX6_split 7 (some .int) 2 4 := ⟨⟨wd_1438, wd_121, mj_seg_6 (j := 122) (w := .methodLink RX6 49 yX6_split) (by decide +kernel) rfl, by decide +kernel, by decide⟩, wd_1437, wd_45, by decide⟩
theorem cw_X6_61 : mj_cs RX6 61 yJ7_fill_fda19 cJ7_fill_fda19 5 none 4 := ⟨⟨wd_1039, wd_136, mj_seg_6 (j := 118) (w := .methodLink RX6 61 yJ7_fill_fda19) (by decide +kernel) rfl, by decide +kernel, by decide⟩, wd_1038⟩
theorem cw_X6_67 : mj_cv RX6 67 yX4_isEnd cX4_isEnd 2 (some .boolean) 1 2 := ⟨⟨wd_635, wd_118, mj_seg_6 (j := 119) (w := .methodLink RX6 67 yX4_isEnd) (by decide +kernel) rfl, by decide +kernel, by decide⟩, wd_633, wd_634, by decide⟩
theorem cw_X6_74 : mj_cs RX6 74 yX1_get cX1_get 2 (some .int) 2 := ⟨⟨wd_587, wd_134, mj_seg_6 (j := 120) (w := .methodLink RX6 74 yX1_get) (by decide +kernel) rfl, by decide +kernel, by decide⟩, wd_586⟩
theorem cw_X6_80 : mj_cv RX6 80 yX4_isBroken cX4_isBroken 2 (some .boolean) 1 2 := ⟨⟨wd_1310, wd_118, mj_seg_6 (j := 121) (w := .methodLink RX6 80 yX4_isBroken) (by decide +kernel) rfl, by decide +kernel, by decide⟩, wd_1308, wd_1309, by decide⟩
theorem cw_X6_83 : mj_cv RX6 83 yX6_flowAlike cX6_flowAlike 6 (some .boolean) 3 4 := ⟨⟨wd_1442, wd_121, mj_seg_6 (j := 126) (w := .methodLink RX6 83 yX6_flowAlike) (by decide +kernel) rfl, by decide +kernel, by decide⟩, wd_1441, wd_46, by decide⟩
theorem cw_X6_87 : mj_cv RX6 87 yX6_addFlow cX6_addFlow 5 none 3 4 := ⟨⟨wd_1446, wd_121, mj_seg_6 (j := 130) (w := .methodLink RX6 87 yX6_addFlow) (by decide +kernel) rfl, by decide +kernel, by decide⟩, wd_1445, wd_47, by decide⟩
theorem cw_X7_46 : mj_cv RX7 46 yX7_placeBehind cX7_placeBehind 3 (some .int) 1 5 := ⟨⟨wd_881, wd_116, mj_seg_4 (j := 45) (w := .methodLink RX7 46 yX7_placeBehind) (by decide +kernel) rfl, by decide +kernel, by decide⟩, wd_880, wd_24, by decide⟩
theorem cw_X7_50 : mj_cs RX7 50 yX7_sumOf cX7_sumOf 5 (some .int) 2 := ⟨⟨wd_621, wd_116, mj_seg_3 (j := 26) (w := .methodLink RX7 50 yX7_sumOf) (by decide +kernel) rfl, by decide +kernel, by decide⟩, wd_620⟩
theorem cw_X7_54 : mj_cs RX7 54 yX1_get cX1_get 2 (some .int) 2 := ⟨⟨wd_587, wd_134, mj_seg_3 (j := 29) (w := .methodLink RX7 54 yX1_get) (by decide +kernel) rfl, by decide +kernel, by decide⟩, wd_586⟩
theorem cw_X8_39 : mj_cs RX8 39 yJ9_min_7cf53 cJ9_min_7cf53 2 (some .int) 2 := ⟨⟨wd_739, wd_128, mj_seg_3 (j := 144) (w := .methodLink RX8 39 yJ9_min_7cf53) (by decide +kernel) rfl, by decide +kernel, by decide⟩, wd_738⟩
theorem cw_X8_57 : mj_cv RX8 57 yX7_clear cX7_clear 1 none 0 5 := ⟨⟨wd_743, wd_116, mj_seg_3 (j := 147) (w := .methodLink RX8 57 yX7_clear) (by decide +kernel) rfl, by decide +kernel, by decide⟩, wd_741, wd_742, by decide⟩
theorem cw_X8_60 : mj_cv RX8 60 yX8_goOn cX8_goOn 1 none 0 6 := ⟨⟨wd_747, wd_115, mj_seg_3 (j := 151) (w := .methodLink RX8 60 yX8_goOn) (by decide +kernel) rfl, by decide +kernel, by decide⟩, wd_746, wd_8, by decide⟩
theorem cw_X8_66 : mj_cv RX8 66 yX8_isSign cX8_isSign 2 (some .boolean) 1 6 := ⟨⟨wd_751, wd_115, mj_seg_3 (j := 155) (w := .methodLink RX8 66 yX8_isSign) (by decide +kernel) rfl, by decide +kernel, by decide⟩, wd_750, wd_9, by decide⟩
theorem cw_X8_70 : mj_cv RX8 70 yX8_closeBlock cX8_closeBlock 3 none 0 6 := ⟨⟨wd_755, wd_115, mj_seg_3 (j := 159) (w := .methodLink RX8 70 yX8_closeBlock) (by decide +kernel) rfl, by decide +kernel, by decide⟩, wd_754, wd_10, by decide⟩
theorem cw_X8_73 : mj_cv RX8 73 yX8_readStatement cX8_readStatement 3 none 0 6 := ⟨⟨wd_824, wd_115, mj_seg_3 (j := 228) (w := .methodLink RX8 73 yX8_readStatement) (by decide +kernel) rfl, by decide +kernel, by decide⟩, wd_823, wd_15, by decide⟩
theorem cw_X8_76 : mj_cv RX8 76 yX7_link cX7_link 3 none 0 5 := ⟨⟨wd_877, wd_116, mj_seg_4 (j := 41) (w := .methodLink RX8 76 yX7_link) (by decide +kernel) rfl, by decide +kernel, by decide⟩, wd_875, wd_876, by decide⟩
theorem cw_X8_94 : mj_cv RX8 94 yX8_variableHere cX8_variableHere 1 (some .int) 0 6 := ⟨⟨wd_832, wd_115, mj_seg_3 (j := 236) (w := .methodLink RX8 94 yX8_variableHere) (by decide +kernel) rfl, by decide +kernel, by decide⟩, wd_831, wd_17, by decide⟩
theorem cw_X8_99 : mj_cv RX8 99 yX8_isWord cX8_isWord 3 (some .boolean) 1 6 := ⟨⟨wd_760, wd_115, mj_seg_3 (j := 164) (w := .methodLink RX8 99 yX8_isWord) (by decide +kernel) rfl, by decide +kernel, by decide⟩, wd_759, wd_11, by decide⟩
theorem cw_X8_113 : mj_cv RX8 113 yX8_kindHere cX8_kindHere 1 (some .int) 0 6 := ⟨⟨wd_828, wd_115, mj_seg_3 (j := 232) (w := .methodLink RX8 113 yX8_kindHere) (by decide +kernel) rfl, by decide +kernel, by decide⟩, wd_827, wd_16, by decide⟩
theorem cw_X8_116 : mj_cv RX8 116 yX8_fail cX8_fail 2 none 1 6 := ⟨⟨wd_816, wd_115, mj_seg_3 (j := 220) (w := .methodLink RX8 116 yX8_fail) (by decide +kernel) rfl, by decide +kernel, by decide⟩, wd_815, wd_13, by decide⟩
theorem cw_X8_120 : mj_cv RX8 120 yX7_isFull cX7_isFull 1 (some .boolean) 0 5 := ⟨⟨wd_842, wd_116, mj_seg_4 (j := 6) (w := .methodLink RX8 120 yX7_isFull) (by decide +kernel) rfl, by decide +kernel, by decide⟩, wd_840, wd_841, by decide⟩
theorem cw_X8_124 : mj_cv RX8 124 yX7_begin cX7_begin 6 (some .int) 4 5 := ⟨⟨wd_846, wd_116, mj_seg_4 (j := 10) (w := .methodLink RX8 124 yX7_begin) (by decide +kernel) rfl, by decide +kernel, by decide⟩, wd_844, wd_845, by decide⟩
theorem cw_X8_131 : mj_cv RX8 131 yX8_readVariable cX8_readVariable 2 (some .int) 0 6 := ⟨⟨wd_850, wd_115, mj_seg_4 (j := 14) (w := .methodLink RX8 131 yX8_readVariable) (by decide +kernel) rfl, by decide +kernel, by decide⟩, wd_849, wd_18, by decide⟩
theorem cw_X8_134 : mj_cv RX8 134 yX8_readSign cX8_readSign 2 none 1 6 := ⟨⟨wd_820, wd_115, mj_seg_3 (j := 224) (w := .methodLink RX8 134 yX8_readSign) (by decide +kernel) rfl, by decide +kernel, by decide⟩, wd_819, wd_14, by decide⟩
theorem cw_X8_140 : mj_cv RX8 140 yX8_readSum cX8_readSum 3 (some .int) 0 6 := ⟨⟨wd_854, wd_115, mj_seg_4 (j := 18) (w := .methodLink RX8 140 yX8_readSum) (by decide +kernel) rfl, by decide +kernel, by decide⟩, wd_853, wd_19, by decide⟩
theorem cw_X8_143 : mj_cv RX8 143 yX8_readBehindWord cX8_readBehindWord 3 none 2 6 := ⟨⟨wd_869, wd_115, mj_seg_4 (j := 33) (w := .methodLink RX8 143 yX8_readBehindWord) (by decide +kernel) rfl, by decide +kernel, by decide⟩, wd_868, wd_22, by decide⟩
theorem cw_X8_147 : mj_cv RX8 147 yX8_openBlock cX8_openBlock 3 none 2 6 := ⟨⟨wd_812, wd_115, mj_seg_3 (j := 216) (w := .methodLink RX8 147 yX8_openBlock) (by decide +kernel) rfl, by decide +kernel, by decide⟩, wd_811, wd_12, by decide⟩
theorem cw_X8_154 : mj_cv RX8 154 yX8_readNumber cX8_readNumber 4 (some .int) 1 6 := ⟨⟨wd_862, wd_115, mj_seg_4 (j := 26) (w := .methodLink RX8 154 yX8_readNumber) (by decide +kernel) rfl, by decide +kernel, by decide⟩, wd_861, wd_21, by decide⟩
theorem cw_X8_161 : mj_cv RX8 161 yX8_readRelation cX8_readRelation 2 (some .int) 0 6 := ⟨⟨wd_873, wd_115, mj_seg_4 (j := 37) (w := .methodLink RX8 161 yX8_readRelation) (by decide +kernel) rfl, by decide +kernel, by decide⟩, wd_872, wd_23, by decide⟩
theorem cw_X8_172 : mj_cv RX8 172 yX8_readTerm cX8_readTerm 1 (some .int) 0 6 := ⟨⟨wd_858, wd_115, mj_seg_4 (j := 22) (w := .methodLink RX8 172 yX8_readTerm) (by decide +kernel) rfl, by decide +kernel, by decide⟩, wd_857, wd_20, by decide⟩
theorem cw_X8_175 : mj_cs RX8 175 yX7_sum cX7_sum 3 (some .int) 3 := ⟨⟨wd_865, wd_116, mj_seg_4 (j := 30) (w := .methodLink RX8 175 yX7_sum) (by decide +kernel) rfl, by decide +kernel, by decide⟩, wd_864⟩
theorem cw_X9_28 : mj_cs RX9 28 yJ7_fill_53178 cJ7_fill_53178 4 none 2 := ⟨⟨wd_604, wd_136, mj_seg_6 (j := 90) (w := .methodLink RX9 28 yJ7_fill_53178) (by decide +kernel) rfl, by decide +kernel, by decide⟩, wd_603⟩
theorem cw_X9_34 : mj_cv RX9 34 yX9_atEnd cX9_atEnd 4 (some .int) 1 7 := ⟨⟨wd_1407, wd_120, mj_seg_6 (j := 91) (w := .methodLink RX9 34 yX9_atEnd) (by decide +kernel) rfl, by decide +kernel, by decide⟩, wd_1406, wd_42, by decide⟩
theorem cw_X9_41 : mj_cv RX9 41 yX9_moveOn cX9_moveOn 6 none 1 7 := ⟨⟨wd_1413, wd_120, mj_seg_6 (j := 97) (w := .methodLink RX9 41 yX9_moveOn) (by decide +kernel) rfl, by decide +kernel, by decide⟩, wd_1412, wd_43, by decide⟩
theorem cw_X9_45 : mj_cs RX9 45 yX3_plus cX3_plus 3 (some .int) 2 := ⟨⟨wd_1260, wd_143, mj_seg_6 (j := 96) (w := .methodLink RX9 45 yX3_plus) (by decide +kernel) rfl, by decide +kernel, by decide⟩, wd_1259⟩
theorem cw_X9_54 : mj_cv RX9 54 yX4_isEnd cX4_isEnd 2 (some .boolean) 1 2 := ⟨⟨wd_635, wd_118, mj_seg_6 (j := 95) (w := .methodLink RX9 54 yX4_isEnd) (by decide +kernel) rfl, by decide +kernel, by decide⟩, wd_633, wd_634, by decide⟩
theorem cw_X9_58 : mj_cs RX9 58 yX3_sixtieth cX3_sixtieth 1 (some .int) 1 := ⟨⟨wd_1268, wd_143, mj_seg_6 (j := 101) (w := .methodLink RX9 58 yX3_sixtieth) (by decide +kernel) rfl, by decide +kernel, by decide⟩, wd_1267⟩
theorem cw_X9_71 : mj_cs RX9 71 yX3_times cX3_times 2 (some .int) 2 := ⟨⟨wd_1272, wd_143, mj_seg_6 (j := 102) (w := .methodLink RX9 71 yX3_times) (by decide +kernel) rfl, by decide +kernel, by decide⟩, wd_1271⟩
theorem cw_L_7 : mj_cv RL 7 yX10_text cX10_text 3 (some .int) 1 8 := ⟨⟨wd_656, wd_114, mj_seg_3 (j := 60) (w := .methodLink RL 7 yX10_text) (by decide +kernel) rfl, by decide +kernel, by decide⟩, wd_654, wd_655, by decide⟩
theorem cw_L_15 : mj_cv RL 15 yX10_first cX10_first 4 (some .int) 2 8 := ⟨⟨wd_901, wd_114, mj_seg_4 (j := 65) (w := .methodLink RL 15 yX10_first) (by decide +kernel) rfl, by decide +kernel, by decide⟩, wd_899, wd_900, by decide⟩
theorem cw_L_21 : mj_cv RL 21 yX10_chance cX10_chance 4 (some .int) 2 8 := ⟨⟨wd_940, wd_114, mj_seg_4 (j := 104) (w := .methodLink RL 21 yX10_chance) (by decide +kernel) rfl, by decide +kernel, by decide⟩, wd_938, wd_939, by decide⟩
theorem cw_L_24 : mj_cv RL 24 yX10_told cX10_told 2 (some .int) 1 8 := ⟨⟨wd_951, wd_114, mj_seg_4 (j := 115) (w := .methodLink RL 24 yX10_told) (by decide +kernel) rfl, by decide +kernel, by decide⟩, wd_949, wd_950, by decide⟩
theorem cw_L_27 : mj_cv RL 27 yX10_statement cX10_statement 4 (some .int) 2 8 := ⟨⟨wd_962, wd_114, mj_seg_4 (j := 126) (w := .methodLink RL 27 yX10_statement) (by decide +kernel) rfl, by decide +kernel, by decide⟩, wd_960, wd_961, by decide⟩
theorem cw_L_30 : mj_cv RL 30 yX10_firstOf cX10_firstOf 2 (some .int) 1 8 := ⟨⟨wd_969, wd_114, mj_seg_4 (j := 133) (w := .methodLink RL 30 yX10_firstOf) (by decide +kernel) rfl, by decide +kernel, by decide⟩, wd_967, wd_968, by decide⟩
theorem cw_L_33 : mj_cv RL 33 yX10_state cX10_state 3 (some .int) 2 8 := ⟨⟨wd_977, wd_114, mj_seg_4 (j := 141) (w := .methodLink RL 33 yX10_state) (by decide +kernel) rfl, by decide +kernel, by decide⟩, wd_975, wd_976, by decide⟩
theorem cw_L_38 : mj_cv RL 38 yX10_arc cX10_arc 5 (some .int) 3 8 := ⟨⟨wd_1016, wd_114, mj_seg_4 (j := 180) (w := .methodLink RL 38 yX10_arc) (by decide +kernel) rfl, by decide +kernel, by decide⟩, wd_1014, wd_1015, by decide⟩
theorem cw_L_42 : mj_cv RL 42 yX10_total cX10_total 3 (some .int) 2 8 := ⟨⟨wd_1023, wd_114, mj_seg_4 (j := 187) (w := .methodLink RL 42 yX10_total) (by decide +kernel) rfl, by decide +kernel, by decide⟩, wd_1021, wd_1022, by decide⟩
theorem cw_L_45 : mj_cv RL 45 yX10_value cX10_value 4 (some .int) 3 8 := ⟨⟨wd_1325, wd_114, mj_seg_6 (j := 9) (w := .methodLink RL 45 yX10_value) (by decide +kernel) rfl, by decide +kernel, by decide⟩, wd_1323, wd_1324, by decide⟩
theorem cw_L_48 : mj_cv RL 48 yX10_both cX10_both 6 (some .int) 5 8 := ⟨⟨wd_1354, wd_114, mj_seg_6 (j := 38) (w := .methodLink RL 48 yX10_both) (by decide +kernel) rfl, by decide +kernel, by decide⟩, wd_1352, wd_1353, by decide⟩
theorem cw_L_52 : mj_cv RL 52 yX10_mean cX10_mean 3 (some .int) 2 8 := ⟨⟨wd_1361, wd_114, mj_seg_6 (j := 45) (w := .methodLink RL 52 yX10_mean) (by decide +kernel) rfl, by decide +kernel, by decide⟩, wd_1359, wd_1360, by decide⟩
theorem cw_L_55 : mj_cv RL 55 yX10_independent cX10_independent 3 (some .int) 2 8 := ⟨⟨wd_1372, wd_114, mj_seg_6 (j := 56) (w := .methodLink RL 55 yX10_independent) (by decide +kernel) rfl, by decide +kernel, by decide⟩, wd_1370, wd_1371, by decide⟩
theorem cw_L_58 : mj_cv RL 58 yX10_visits cX10_visits 3 (some .int) 2 8 := ⟨⟨wd_1384, wd_114, mj_seg_6 (j := 68) (w := .methodLink RL 58 yX10_visits) (by decide +kernel) rfl, by decide +kernel, by decide⟩, wd_1382, wd_1383, by decide⟩
theorem cw_L_61 : mj_cv RL 61 yX10_steps cX10_steps 2 (some .int) 1 8 := ⟨⟨wd_1391, wd_114, mj_seg_6 (j := 75) (w := .methodLink RL 61 yX10_steps) (by decide +kernel) rfl, by decide +kernel, by decide⟩, wd_1389, wd_1390, by decide⟩
theorem cw_L_64 : mj_cv RL 64 yX10_within cX10_within 3 (some .int) 2 8 := ⟨⟨wd_1398, wd_114, mj_seg_6 (j := 82) (w := .methodLink RL 64 yX10_within) (by decide +kernel) rfl, by decide +kernel, by decide⟩, wd_1396, wd_1397, by decide⟩
theorem cw_L_67 : mj_cv RL 67 yX10_classes cX10_classes 2 (some .int) 1 8 := ⟨⟨wd_1422, wd_114, mj_seg_6 (j := 106) (w := .methodLink RL 67 yX10_classes) (by decide +kernel) rfl, by decide +kernel, by decide⟩, wd_1420, wd_1421, by decide⟩
theorem cw_L_70 : mj_cv RL 70 yX10_classOf cX10_classOf 3 (some .int) 2 8 := ⟨⟨wd_1458, wd_114, mj_seg_6 (j := 142) (w := .methodLink RL 70 yX10_classOf) (by decide +kernel) rfl, by decide +kernel, by decide⟩, wd_1456, wd_1457, by decide⟩
theorem cw_L_73 : mj_cv RL 73 yX10_run cX10_run 2 (some .int) 1 8 := ⟨⟨wd_1469, wd_114, mj_seg_6 (j := 153) (w := .methodLink RL 73 yX10_run) (by decide +kernel) rfl, by decide +kernel, by decide⟩, wd_1467, wd_1468, by decide⟩
theorem cw_L_76 : mj_cv RL 76 yX10_worth cX10_worth 1 (some .long) 0 8 := ⟨⟨wd_1504, wd_114, mj_seg_6 (j := 188) (w := .methodLink RL 76 yX10_worth) (by decide +kernel) rfl, by decide +kernel, by decide⟩, wd_1502, wd_1503, by decide⟩
theorem cw_L_84 : mj_cv RL 84 yX10_feed cX10_feed 6 (some .int) 5 8 := ⟨⟨wd_557, wd_114, mj_seg_2 (j := 201) (w := .methodLink RL 84 yX10_feed) (by decide +kernel) rfl, by decide +kernel, by decide⟩, wd_555, wd_556, by decide⟩
theorem cw_L_87 : mj_cv RL 87 yX11_feed cX11_feed 6 (some .int) 5 9 := ⟨⟨wd_1513, wd_123, mj_seg_6 (j := 197) (w := .methodLink RL 87 yX11_feed) (by decide +kernel) rfl, by decide +kernel, by decide⟩, wd_1511, wd_1512, by decide⟩
theorem cw_L_93 : mj_cv RL 93 yX11_text cX11_text 3 (some .int) 1 9 := ⟨⟨wd_1522, wd_123, mj_seg_6 (j := 206) (w := .methodLink RL 93 yX11_text) (by decide +kernel) rfl, by decide +kernel, by decide⟩, wd_1520, wd_1521, by decide⟩
theorem cw_L_94 : mj_cv RL 94 yX11_thrown cX11_thrown 1 (some .int) 0 9 := ⟨⟨wd_1509, wd_123, mj_seg_6 (j := 193) (w := .methodLink RL 94 yX11_thrown) (by decide +kernel) rfl, by decide +kernel, by decide⟩, wd_1507, wd_1508, by decide⟩
theorem cw_L_98 : mj_cv RL 98 yX10_fault cX10_fault 1 (some .int) 0 8 := ⟨⟨wd_565, wd_114, mj_seg_2 (j := 209) (w := .methodLink RL 98 yX10_fault) (by decide +kernel) rfl, by decide +kernel, by decide⟩, wd_563, wd_564, by decide⟩
theorem cw_L_101 : mj_cv RL 101 yX11_fault cX11_fault 1 (some .int) 0 9 := ⟨⟨wd_1647, wd_123, mj_seg_7 (j := 91) (w := .methodLink RL 101 yX11_fault) (by decide +kernel) rfl, by decide +kernel, by decide⟩, wd_1645, wd_1646, by decide⟩
theorem cw_L_105 : mj_cv RL 105 yX11_first cX11_first 4 (some .int) 2 9 := ⟨⟨wd_1651, wd_123, mj_seg_7 (j := 95) (w := .methodLink RL 105 yX11_first) (by decide +kernel) rfl, by decide +kernel, by decide⟩, wd_1649, wd_1650, by decide⟩
theorem cw_L_108 : mj_cv RL 108 yX11_chance cX11_chance 4 (some .int) 2 9 := ⟨⟨wd_1665, wd_123, mj_seg_7 (j := 109) (w := .methodLink RL 108 yX11_chance) (by decide +kernel) rfl, by decide +kernel, by decide⟩, wd_1663, wd_1664, by decide⟩
theorem cw_L_109 : mj_cv RL 109 yX10_undo cX10_undo 3 (some .int) 0 8 := ⟨⟨wd_569, wd_114, mj_seg_2 (j := 213) (w := .methodLink RL 109 yX10_undo) (by decide +kernel) rfl, by decide +kernel, by decide⟩, wd_567, wd_568, by decide⟩
theorem cw_L_112 : mj_cv RL 112 yX11_undo cX11_undo 2 (some .int) 0 9 := ⟨⟨wd_1674, wd_123, mj_seg_7 (j := 118) (w := .methodLink RL 112 yX11_undo) (by decide +kernel) rfl, by decide +kernel, by decide⟩, wd_1672, wd_1673, by decide⟩
theorem cw_L_115 : mj_cv RL 115 yX11_told cX11_told 4 (some .int) 1 9 := ⟨⟨wd_1678, wd_123, mj_seg_7 (j := 122) (w := .methodLink RL 115 yX11_told) (by decide +kernel) rfl, by decide +kernel, by decide⟩, wd_1676, wd_1677, by decide⟩
theorem cw_L_118 : mj_cv RL 118 yX11_statement cX11_statement 3 (some .int) 2 9 := ⟨⟨wd_1723, wd_123, mj_seg_7 (j := 167) (w := .methodLink RL 118 yX11_statement) (by decide +kernel) rfl, by decide +kernel, by decide⟩, wd_1721, wd_1722, by decide⟩
theorem cw_L_121 : mj_cv RL 121 yX11_firstOf cX11_firstOf 2 (some .int) 1 9 := ⟨⟨wd_1728, wd_123, mj_seg_7 (j := 172) (w := .methodLink RL 121 yX11_firstOf) (by decide +kernel) rfl, by decide +kernel, by decide⟩, wd_1726, wd_1727, by decide⟩
theorem cw_L_124 : mj_cv RL 124 yX11_state cX11_state 3 (some .int) 2 9 := ⟨⟨wd_1732, wd_123, mj_seg_7 (j := 176) (w := .methodLink RL 124 yX11_state) (by decide +kernel) rfl, by decide +kernel, by decide⟩, wd_1730, wd_1731, by decide⟩
theorem cw_L_128 : mj_cv RL 128 yX11_arc cX11_arc 4 (some .int) 3 9 := ⟨⟨wd_1744, wd_123, mj_seg_7 (j := 188) (w := .methodLink RL 128 yX11_arc) (by decide +kernel) rfl, by decide +kernel, by decide⟩, wd_1742, wd_1743, by decide⟩
theorem cw_L_131 : mj_cv RL 131 yX11_total cX11_total 7 (some .int) 2 9 := ⟨⟨wd_1748, wd_123, mj_seg_7 (j := 192) (w := .methodLink RL 131 yX11_total) (by decide +kernel) rfl, by decide +kernel, by decide⟩, wd_1746, wd_1747, by decide⟩
theorem cw_L_134 : mj_cv RL 134 yX11_value cX11_value 4 (some .int) 3 9 := ⟨⟨wd_1791, wd_123, mj_seg_7 (j := 235) (w := .methodLink RL 134 yX11_value) (by decide +kernel) rfl, by decide +kernel, by decide⟩, wd_1789, wd_1790, by decide⟩
theorem cw_L_138 : mj_cv RL 138 yX11_both cX11_both 6 (some .int) 5 9 := ⟨⟨wd_1811, wd_123, mj_seg_8 (j := 15) (w := .methodLink RL 138 yX11_both) (by decide +kernel) rfl, by decide +kernel, by decide⟩, wd_1809, wd_1810, by decide⟩
theorem cw_L_141 : mj_cv RL 141 yX11_mean cX11_mean 6 (some .int) 2 9 := ⟨⟨wd_1815, wd_123, mj_seg_8 (j := 19) (w := .methodLink RL 141 yX11_mean) (by decide +kernel) rfl, by decide +kernel, by decide⟩, wd_1813, wd_1814, by decide⟩
theorem cw_L_144 : mj_cv RL 144 yX11_independent cX11_independent 5 (some .int) 2 9 := ⟨⟨wd_1819, wd_123, mj_seg_8 (j := 23) (w := .methodLink RL 144 yX11_independent) (by decide +kernel) rfl, by decide +kernel, by decide⟩, wd_1817, wd_1818, by decide⟩
theorem cw_L_147 : mj_cv RL 147 yX11_visits cX11_visits 3 (some .int) 2 9 := ⟨⟨wd_1823, wd_123, mj_seg_8 (j := 27) (w := .methodLink RL 147 yX11_visits) (by decide +kernel) rfl, by decide +kernel, by decide⟩, wd_1821, wd_1822, by decide⟩
theorem cw_L_150 : mj_cv RL 150 yX11_steps cX11_steps 6 (some .int) 1 9 := ⟨⟨wd_1827, wd_123, mj_seg_8 (j := 31) (w := .methodLink RL 150 yX11_steps) (by decide +kernel) rfl, by decide +kernel, by decide⟩, wd_1825, wd_1826, by decide⟩
theorem cw_L_153 : mj_cv RL 153 yX11_within cX11_within 7 (some .int) 2 9 := ⟨⟨wd_1831, wd_123, mj_seg_8 (j := 35) (w := .methodLink RL 153 yX11_within) (by decide +kernel) rfl, by decide +kernel, by decide⟩, wd_1829, wd_1830, by decide⟩
theorem cw_L_156 : mj_cv RL 156 yX11_classes cX11_classes 2 (some .int) 1 9 := ⟨⟨wd_1836, wd_123, mj_seg_8 (j := 40) (w := .methodLink RL 156 yX11_classes) (by decide +kernel) rfl, by decide +kernel, by decide⟩, wd_1834, wd_1835, by decide⟩
theorem cw_L_159 : mj_cv RL 159 yX11_classOf cX11_classOf 3 (some .int) 2 9 := ⟨⟨wd_1856, wd_123, mj_seg_8 (j := 60) (w := .methodLink RL 159 yX11_classOf) (by decide +kernel) rfl, by decide +kernel, by decide⟩, wd_1854, wd_1855, by decide⟩
theorem cw_L_162 : mj_cv RL 162 yX11_run cX11_run 3 (some .int) 1 9 := ⟨⟨wd_1860, wd_123, mj_seg_8 (j := 64) (w := .methodLink RL 162 yX11_run) (by decide +kernel) rfl, by decide +kernel, by decide⟩, wd_1858, wd_1859, by decide⟩
theorem cw_L_166 : mj_cv RL 166 yX11_worth cX11_worth 2 (some .long) 0 9 := ⟨⟨wd_1898, wd_123, mj_seg_8 (j := 102) (w := .methodLink RL 166 yX11_worth) (by decide +kernel) rfl, by decide +kernel, by decide⟩, wd_1896, wd_1897, by decide⟩
theorem cw_L_167 : mj_cv RL 167 yX10_print cX10_print 4 (some .long) 0 8 := ⟨⟨wd_597, wd_114, mj_seg_3 (j := 1) (w := .methodLink RL 167 yX10_print) (by decide +kernel) rfl, by decide +kernel, by decide⟩, wd_595, wd_596, by decide⟩
theorem cw_L_170 : mj_cv RL 170 yX11_print cX11_print 4 (some .long) 0 9 := ⟨⟨wd_1903, wd_123, mj_seg_8 (j := 107) (w := .methodLink RL 170 yX11_print) (by decide +kernel) rfl, by decide +kernel, by decide⟩, wd_1901, wd_1902, by decide⟩
theorem cw_L_171 : mj_cv RL 171 yX10_status cX10_status 2 (some .int) 1 8 := ⟨⟨wd_648, wd_114, mj_seg_3 (j := 52) (w := .methodLink RL 171 yX10_status) (by decide +kernel) rfl, by decide +kernel, by decide⟩, wd_646, wd_647, by decide⟩
theorem cw_L_174 : mj_cv RL 174 yX11_status cX11_status 2 (some .int) 1 9 := ⟨⟨wd_1908, wd_123, mj_seg_8 (j := 112) (w := .methodLink RL 174 yX11_status) (by decide +kernel) rfl, by decide +kernel, by decide⟩, wd_1906, wd_1907, by decide⟩
theorem cw_X11_17 : mj_cv RX11 17 yX11_puts cX11_puts 3 none 1 9 := ⟨⟨wd_1518, wd_123, mj_seg_6 (j := 201) (w := .methodLink RX11 17 yX11_puts) (by decide +kernel) rfl, by decide +kernel, by decide⟩, wd_1516, wd_50, by decide⟩
theorem cw_X11_40 : mj_cv RX11 40 yX11_sign cX11_sign 1 (some .int) 0 9 := ⟨⟨wd_1545, wd_123, mj_seg_6 (j := 229) (w := .methodLink RX11 40 yX11_sign) (by decide +kernel) rfl, by decide +kernel, by decide⟩, wd_1544, wd_55, by decide⟩
theorem cw_X11_49 : mj_cv RX11 49 yX11_isSmall cX11_isSmall 2 (some .boolean) 1 9 := ⟨⟨wd_1549, wd_123, mj_seg_6 (j := 233) (w := .methodLink RX11 49 yX11_isSmall) (by decide +kernel) rfl, by decide +kernel, by decide⟩, wd_1548, wd_56, by decide⟩
theorem cw_X11_57 : mj_cv RX11 57 yX11_isHere cX11_isHere 3 (some .boolean) 1 9 := ⟨⟨wd_1554, wd_123, mj_seg_6 (j := 238) (w := .methodLink RX11 57 yX11_isHere) (by decide +kernel) rfl, by decide +kernel, by decide⟩, wd_1553, wd_57, by decide⟩
theorem cw_X11_61 : mj_cv RX11 61 yX11_takes cX11_takes 2 (some .boolean) 1 9 := ⟨⟨wd_1589, wd_123, mj_seg_7 (j := 33) (w := .methodLink RX11 61 yX11_takes) (by decide +kernel) rfl, by decide +kernel, by decide⟩, wd_1588, wd_64, by decide⟩
theorem cw_X11_64 : mj_cv RX11 64 yX11_wrong cX11_wrong 3 none 2 9 := ⟨⟨wd_1565, wd_123, mj_seg_7 (j := 9) (w := .methodLink RX11 64 yX11_wrong) (by decide +kernel) rfl, by decide +kernel, by decide⟩, wd_1564, wd_58, by decide⟩
theorem cw_X11_68 : mj_cv RX11 68 yX11_isNameHere cX11_isNameHere 1 (some .boolean) 0 9 := ⟨⟨wd_1541, wd_123, mj_seg_6 (j := 225) (w := .methodLink RX11 68 yX11_isNameHere) (by decide +kernel) rfl, by decide +kernel, by decide⟩, wd_1540, wd_54, by decide⟩
theorem cw_X11_72 : mj_cv RX11 72 yX11_isDigit cX11_isDigit 1 (some .boolean) 0 9 := ⟨⟨wd_1601, wd_123, mj_seg_7 (j := 45) (w := .methodLink RX11 72 yX11_isDigit) (by decide +kernel) rfl, by decide +kernel, by decide⟩, wd_1600, wd_67, by decide⟩
theorem cw_X11_79 : mj_cs RX11 79 yJ9_min_7cf53 cJ9_min_7cf53 2 (some .int) 2 := ⟨⟨wd_739, wd_128, mj_seg_7 (j := 58) (w := .methodLink RX11 79 yJ9_min_7cf53) (by decide +kernel) rfl, by decide +kernel, by decide⟩, wd_738⟩
theorem cw_X11_85 : mj_cv RX11 85 yX11_number cX11_number 2 (some .int) 0 9 := ⟨⟨wd_1609, wd_123, mj_seg_7 (j := 53) (w := .methodLink RX11 85 yX11_number) (by decide +kernel) rfl, by decide +kernel, by decide⟩, wd_1608, wd_69, by decide⟩
theorem cw_X11_88 : mj_cv RX11 88 yX11_numberTo cX11_numberTo 3 (some .int) 1 9 := ⟨⟨wd_1605, wd_123, mj_seg_7 (j := 49) (w := .methodLink RX11 88 yX11_numberTo) (by decide +kernel) rfl, by decide +kernel, by decide⟩, wd_1604, wd_68, by decide⟩
theorem cw_X11_92 : mj_cv RX11 92 yX11_name cX11_name 1 (some .int) 0 9 := ⟨⟨wd_1581, wd_123, mj_seg_7 (j := 25) (w := .methodLink RX11 92 yX11_name) (by decide +kernel) rfl, by decide +kernel, by decide⟩, wd_1580, wd_62, by decide⟩
theorem cw_X11_98 : mj_cv RX11 98 yX11_term cX11_term 1 (some .int) 0 9 := ⟨⟨wd_1597, wd_123, mj_seg_7 (j := 41) (w := .methodLink RX11 98 yX11_term) (by decide +kernel) rfl, by decide +kernel, by decide⟩, wd_1596, wd_66, by decide⟩
theorem cw_X11_101 : mj_cv RX11 101 yX11_sum cX11_sum 4 none 1 9 := ⟨⟨wd_1593, wd_123, mj_seg_7 (j := 37) (w := .methodLink RX11 101 yX11_sum) (by decide +kernel) rfl, by decide +kernel, by decide⟩, wd_1592, wd_65, by decide⟩
theorem cw_X11_116 : mj_cv RX11 116 yX11_begins cX11_begins 1 (some .boolean) 0 9 := ⟨⟨wd_1537, wd_123, mj_seg_6 (j := 221) (w := .methodLink RX11 116 yX11_begins) (by decide +kernel) rfl, by decide +kernel, by decide⟩, wd_1536, wd_53, by decide⟩
theorem cw_X11_122 : mj_cv RX11 122 yX11_joins cX11_joins 4 none 2 9 := ⟨⟨wd_1569, wd_123, mj_seg_7 (j := 13) (w := .methodLink RX11 122 yX11_joins) (by decide +kernel) rfl, by decide +kernel, by decide⟩, wd_1568, wd_59, by decide⟩
theorem cw_X11_125 : mj_cv RX11 125 yX11_reads cX11_reads 4 none 1 9 := ⟨⟨wd_1577, wd_123, mj_seg_7 (j := 21) (w := .methodLink RX11 125 yX11_reads) (by decide +kernel) rfl, by decide +kernel, by decide⟩, wd_1576, wd_61, by decide⟩
theorem cw_X11_128 : mj_cv RX11 128 yX11_behind cX11_behind 2 (some .int) 1 9 := ⟨⟨wd_1573, wd_123, mj_seg_7 (j := 17) (w := .methodLink RX11 128 yX11_behind) (by decide +kernel) rfl, by decide +kernel, by decide⟩, wd_1572, wd_60, by decide⟩
theorem cw_X11_134 : mj_cv RX11 134 yX11_needs cX11_needs 2 none 1 9 := ⟨⟨wd_1585, wd_123, mj_seg_7 (j := 29) (w := .methodLink RX11 134 yX11_needs) (by decide +kernel) rfl, by decide +kernel, by decide⟩, wd_1584, wd_63, by decide⟩
theorem cw_X11_137 : mj_cv RX11 137 yX11_row cX11_row 5 (some .int) 1 9 := ⟨⟨wd_1533, wd_123, mj_seg_6 (j := 217) (w := .methodLink RX11 137 yX11_row) (by decide +kernel) rfl, by decide +kernel, by decide⟩, wd_1532, wd_52, by decide⟩
theorem cw_X11_140 : mj_cv RX11 140 yX11_passes cX11_passes 2 (some .boolean) 1 9 := ⟨⟨wd_1615, wd_123, mj_seg_7 (j := 59) (w := .methodLink RX11 140 yX11_passes) (by decide +kernel) rfl, by decide +kernel, by decide⟩, wd_1614, wd_70, by decide⟩
theorem cw_X11_143 : mj_cs RX11 143 yX11_isChance cX11_isChance 1 (some .boolean) 1 := ⟨⟨wd_1618, wd_123, mj_seg_7 (j := 63) (w := .methodLink RX11 143 yX11_isChance) (by decide +kernel) rfl, by decide +kernel, by decide⟩, wd_1617⟩
theorem cw_X11_146 : mj_cv RX11 146 yX11_forks cX11_forks 4 none 1 9 := ⟨⟨wd_1622, wd_123, mj_seg_7 (j := 66) (w := .methodLink RX11 146 yX11_forks) (by decide +kernel) rfl, by decide +kernel, by decide⟩, wd_1621, wd_71, by decide⟩
theorem cw_X11_149 : mj_cv RX11 149 yX11_test cX11_test 3 none 1 9 := ⟨⟨wd_1631, wd_123, mj_seg_7 (j := 75) (w := .methodLink RX11 149 yX11_test) (by decide +kernel) rfl, by decide +kernel, by decide⟩, wd_1630, wd_73, by decide⟩
theorem cw_X11_152 : mj_cv RX11 152 yX11_block cX11_block 3 (some .int) 1 9 := ⟨⟨wd_1626, wd_123, mj_seg_7 (j := 70) (w := .methodLink RX11 152 yX11_block) (by decide +kernel) rfl, by decide +kernel, by decide⟩, wd_1625, wd_72, by decide⟩
theorem cw_X11_157 : mj_cs RX11 157 yX11_lies cX11_lies 6 (some .boolean) 3 := ⟨⟨wd_1525, wd_123, mj_seg_6 (j := 210) (w := .methodLink RX11 157 yX11_lies) (by decide +kernel) rfl, by decide +kernel, by decide⟩, wd_1524⟩
theorem cw_X11_161 : mj_cv RX11 161 yX11_isFine cX11_isFine 4 (some .boolean) 3 9 := ⟨⟨wd_1529, wd_123, mj_seg_6 (j := 213) (w := .methodLink RX11 161 yX11_isFine) (by decide +kernel) rfl, by decide +kernel, by decide⟩, wd_1528, wd_51, by decide⟩
theorem cw_X11_168 : mj_cv RX11 168 yX11_stands cX11_stands 2 none 0 9 := ⟨⟨wd_1635, wd_123, mj_seg_7 (j := 79) (w := .methodLink RX11 168 yX11_stands) (by decide +kernel) rfl, by decide +kernel, by decide⟩, wd_1634, wd_74, by decide⟩
theorem cw_X11_175 : mj_cv RX11 175 yX11_of cX11_of 3 (some .int) 2 9 := ⟨⟨wd_1639, wd_123, mj_seg_7 (j := 83) (w := .methodLink RX11 175 yX11_of) (by decide +kernel) rfl, by decide +kernel, by decide⟩, wd_1638, wd_75, by decide⟩
theorem cw_X11_184 : mj_cv RX11 184 yX11_isOther cX11_isOther 1 none 0 9 := ⟨⟨wd_1643, wd_123, mj_seg_7 (j := 87) (w := .methodLink RX11 184 yX11_isOther) (by decide +kernel) rfl, by decide +kernel, by decide⟩, wd_1642, wd_76, by decide⟩
theorem cw_X11_195 : mj_cv RX11 195 yX11_isName cX11_isName 2 (some .boolean) 1 9 := ⟨⟨wd_1655, wd_123, mj_seg_7 (j := 99) (w := .methodLink RX11 195 yX11_isName) (by decide +kernel) rfl, by decide +kernel, by decide⟩, wd_1654, wd_77, by decide⟩
theorem cw_X11_200 : mj_cv RX11 200 yX11_changes cX11_changes 4 (some .int) 2 9 := ⟨⟨wd_1661, wd_123, mj_seg_7 (j := 105) (w := .methodLink RX11 200 yX11_changes) (by decide +kernel) rfl, by decide +kernel, by decide⟩, wd_1660, wd_78, by decide⟩
theorem cw_X11_203 : mj_cv RX11 203 yX11_isStatement cX11_isStatement 2 (some .boolean) 1 9 := ⟨⟨wd_1669, wd_123, mj_seg_7 (j := 113) (w := .methodLink RX11 203 yX11_isStatement) (by decide +kernel) rfl, by decide +kernel, by decide⟩, wd_1668, wd_79, by decide⟩
theorem cw_X11_218 : mj_cv RX11 218 yX11_valueIn cX11_valueIn 3 (some .int) 2 9 := ⟨⟨wd_1691, wd_123, mj_seg_7 (j := 135) (w := .methodLink RX11 218 yX11_valueIn) (by decide +kernel) rfl, by decide +kernel, by decide⟩, wd_1690, wd_82, by decide⟩
theorem cw_X11_221 : mj_cv RX11 221 yX11_termIn cX11_termIn 3 (some .int) 2 9 := ⟨⟨wd_1707, wd_123, mj_seg_7 (j := 151) (w := .methodLink RX11 221 yX11_termIn) (by decide +kernel) rfl, by decide +kernel, by decide⟩, wd_1706, wd_86, by decide⟩
theorem cw_X11_224 : mj_cv RX11 224 yX11_sumIn cX11_sumIn 3 (some .int) 2 9 := ⟨⟨wd_1703, wd_123, mj_seg_7 (j := 147) (w := .methodLink RX11 224 yX11_sumIn) (by decide +kernel) rfl, by decide +kernel, by decide⟩, wd_1702, wd_85, by decide⟩
theorem cw_X11_245 : mj_cv RX11 245 yX11_stateFor cX11_stateFor 5 (some .int) 2 9 := ⟨⟨wd_1695, wd_123, mj_seg_7 (j := 139) (w := .methodLink RX11 245 yX11_stateFor) (by decide +kernel) rfl, by decide +kernel, by decide⟩, wd_1694, wd_83, by decide⟩
theorem cw_X11_260 : mj_cv RX11 260 yX11_with cX11_with 4 (some .int) 3 9 := ⟨⟨wd_1687, wd_123, mj_seg_7 (j := 131) (w := .methodLink RX11 260 yX11_with) (by decide +kernel) rfl, by decide +kernel, by decide⟩, wd_1686, wd_81, by decide⟩
theorem cw_X11_264 : mj_cv RX11 264 yX11_lead cX11_lead 6 none 4 9 := ⟨⟨wd_1711, wd_123, mj_seg_7 (j := 155) (w := .methodLink RX11 264 yX11_lead) (by decide +kernel) rfl, by decide +kernel, by decide⟩, wd_1710, wd_87, by decide⟩
theorem cw_X11_268 : mj_cv RX11 268 yX11_holds cX11_holds 6 (some .boolean) 2 9 := ⟨⟨wd_1715, wd_123, mj_seg_7 (j := 159) (w := .methodLink RX11 268 yX11_holds) (by decide +kernel) rfl, by decide +kernel, by decide⟩, wd_1714, wd_88, by decide⟩
theorem cw_X11_272 : mj_cv RX11 272 yX11_goesOn cX11_goesOn 5 none 1 9 := ⟨⟨wd_1699, wd_123, mj_seg_7 (j := 143) (w := .methodLink RX11 272 yX11_goesOn) (by decide +kernel) rfl, by decide +kernel, by decide⟩, wd_1698, wd_84, by decide⟩
theorem cw_X11_285 : mj_cs RX11 285 yX11_power cX11_power 10 (some .long) 2 := ⟨⟨wd_1774, wd_123, mj_seg_7 (j := 219) (w := .methodLink RX11 285 yX11_power) (by decide +kernel) rfl, by decide +kernel, by decide⟩, wd_1773⟩
theorem cw_X11_289 : mj_cs RX11 289 yX11_inverse cX11_inverse 2 (some .long) 1 := ⟨⟨wd_1770, wd_123, mj_seg_7 (j := 215) (w := .methodLink RX11 289 yX11_inverse) (by decide +kernel) rfl, by decide +kernel, by decide⟩, wd_1769⟩
theorem cw_X11_310 : mj_cv RX11 310 yX11_laysGrid cX11_laysGrid 5 none 0 9 := ⟨⟨wd_1761, wd_123, mj_seg_7 (j := 205) (w := .methodLink RX11 310 yX11_laysGrid) (by decide +kernel) rfl, by decide +kernel, by decide⟩, wd_1760, wd_94, by decide⟩
theorem cw_X11_313 : mj_cv RX11 313 yX11_simple cX11_simple 9 (some .boolean) 0 9 := ⟨⟨wd_1767, wd_123, mj_seg_7 (j := 211) (w := .methodLink RX11 313 yX11_simple) (by decide +kernel) rfl, by decide +kernel, by decide⟩, wd_1766, wd_95, by decide⟩
theorem cw_X11_319 : mj_cv RX11 319 yX11_sumAt cX11_sumAt 5 (some .long) 1 9 := ⟨⟨wd_1782, wd_123, mj_seg_7 (j := 226) (w := .methodLink RX11 319 yX11_sumAt) (by decide +kernel) rfl, by decide +kernel, by decide⟩, wd_1781, wd_97, by decide⟩
theorem cw_X11_325 : mj_cv RX11 325 yX11_lays cX11_lays 5 none 0 9 := ⟨⟨wd_1683, wd_123, mj_seg_7 (j := 127) (w := .methodLink RX11 325 yX11_lays) (by decide +kernel) rfl, by decide +kernel, by decide⟩, wd_1682, wd_80, by decide⟩
theorem cw_X11_330 : mj_cv RX11 330 yX11_isEnd cX11_isEnd 2 (some .boolean) 1 9 := ⟨⟨wd_1719, wd_123, mj_seg_7 (j := 163) (w := .methodLink RX11 330 yX11_isEnd) (by decide +kernel) rfl, by decide +kernel, by decide⟩, wd_1718, wd_89, by decide⟩
theorem cw_X11_335 : mj_cv RX11 335 yX11_isFew cX11_isFew 1 (some .boolean) 0 9 := ⟨⟨wd_1736, wd_123, mj_seg_7 (j := 180) (w := .methodLink RX11 335 yX11_isFew) (by decide +kernel) rfl, by decide +kernel, by decide⟩, wd_1735, wd_90, by decide⟩
theorem cw_X11_338 : mj_cv RX11 338 yX11_isState cX11_isState 2 (some .boolean) 1 9 := ⟨⟨wd_1740, wd_123, mj_seg_7 (j := 184) (w := .methodLink RX11 338 yX11_isState) (by decide +kernel) rfl, by decide +kernel, by decide⟩, wd_1739, wd_91, by decide⟩
theorem cw_X11_341 : mj_cv RX11 341 yX11_isForm cX11_isForm 2 (some .boolean) 1 9 := ⟨⟨wd_1753, wd_123, mj_seg_7 (j := 197) (w := .methodLink RX11 341 yX11_isForm) (by decide +kernel) rfl, by decide +kernel, by decide⟩, wd_1752, wd_92, by decide⟩
theorem cw_X11_344 : mj_cv RX11 344 yX11_solves cX11_solves 2 (some .boolean) 0 9 := ⟨⟨wd_1757, wd_123, mj_seg_7 (j := 201) (w := .methodLink RX11 344 yX11_solves) (by decide +kernel) rfl, by decide +kernel, by decide⟩, wd_1756, wd_93, by decide⟩
theorem cw_X11_347 : mj_cv RX11 347 yX11_ended cX11_ended 1 (some .long) 0 9 := ⟨⟨wd_1778, wd_123, mj_seg_7 (j := 222) (w := .methodLink RX11 347 yX11_ended) (by decide +kernel) rfl, by decide +kernel, by decide⟩, wd_1777, wd_96, by decide⟩
theorem cw_X11_353 : mj_cs RX11 353 yX11_formed cX11_formed 5 (some .int) 2 := ⟨⟨wd_1786, wd_123, mj_seg_7 (j := 231) (w := .methodLink RX11 353 yX11_formed) (by decide +kernel) rfl, by decide +kernel, by decide⟩, wd_1785⟩
theorem cw_X11_357 : mj_cv RX11 357 yX11_oddsOf cX11_oddsOf 8 (some .long) 4 9 := ⟨⟨wd_1807, wd_123, mj_seg_8 (j := 11) (w := .methodLink RX11 357 yX11_oddsOf) (by decide +kernel) rfl, by decide +kernel, by decide⟩, wd_1806, wd_101, by decide⟩
theorem cw_X11_361 : mj_cv RX11 361 yX11_hasEnd cX11_hasEnd 3 (some .boolean) 0 9 := ⟨⟨wd_1795, wd_123, mj_seg_7 (j := 239) (w := .methodLink RX11 361 yX11_hasEnd) (by decide +kernel) rfl, by decide +kernel, by decide⟩, wd_1794, wd_98, by decide⟩
theorem cw_X11_364 : mj_cv RX11 364 yX11_isSure cX11_isSure 1 (some .boolean) 0 9 := ⟨⟨wd_1799, wd_123, mj_seg_8 (j := 3) (w := .methodLink RX11 364 yX11_isSure) (by decide +kernel) rfl, by decide +kernel, by decide⟩, wd_1798, wd_99, by decide⟩
theorem cw_X11_367 : mj_cv RX11 367 yX11_oddsAlone cX11_oddsAlone 3 (some .long) 2 9 := ⟨⟨wd_1803, wd_123, mj_seg_8 (j := 7) (w := .methodLink RX11 367 yX11_oddsAlone) (by decide +kernel) rfl, by decide +kernel, by decide⟩, wd_1802, wd_100, by decide⟩
theorem cw_X11_385 : mj_cv RX11 385 yX11_areNear cX11_areNear 4 (some .boolean) 3 9 := ⟨⟨wd_1844, wd_123, mj_seg_8 (j := 48) (w := .methodLink RX11 385 yX11_areNear) (by decide +kernel) rfl, by decide +kernel, by decide⟩, wd_1843, wd_103, by decide⟩
theorem cw_X11_392 : mj_cv RX11 392 yX11_areAlike cX11_areAlike 4 (some .boolean) 2 9 := ⟨⟨wd_1848, wd_123, mj_seg_8 (j := 52) (w := .methodLink RX11 392 yX11_areAlike) (by decide +kernel) rfl, by decide +kernel, by decide⟩, wd_1847, wd_104, by decide⟩
theorem cw_X11_395 : mj_cv RX11 395 yX11_parts cX11_parts 5 none 1 9 := ⟨⟨wd_1840, wd_123, mj_seg_8 (j := 44) (w := .methodLink RX11 395 yX11_parts) (by decide +kernel) rfl, by decide +kernel, by decide⟩, wd_1839, wd_102, by decide⟩
theorem cw_X11_398 : mj_cv RX11 398 yX11_rank cX11_rank 4 (some .int) 1 9 := ⟨⟨wd_1852, wd_123, mj_seg_8 (j := 56) (w := .methodLink RX11 398 yX11_rank) (by decide +kernel) rfl, by decide +kernel, by decide⟩, wd_1851, wd_105, by decide⟩
theorem cw_X11_401 : mj_cv RX11 401 yX11_isDrawn cX11_isDrawn 2 (some .boolean) 1 9 := ⟨⟨wd_1872, wd_123, mj_seg_8 (j := 76) (w := .methodLink RX11 401 yX11_isDrawn) (by decide +kernel) rfl, by decide +kernel, by decide⟩, wd_1871, wd_108, by decide⟩
theorem cw_X11_404 : mj_cv RX11 404 yX11_ahead cX11_ahead 4 (some .int) 1 9 := ⟨⟨wd_1880, wd_123, mj_seg_8 (j := 84) (w := .methodLink RX11 404 yX11_ahead) (by decide +kernel) rfl, by decide +kernel, by decide⟩, wd_1879, wd_110, by decide⟩
theorem cw_X11_410 : mj_cv RX11 410 yX11_mostOf cX11_mostOf 4 (some .long) 2 9 := ⟨⟨wd_1876, wd_123, mj_seg_8 (j := 80) (w := .methodLink RX11 410 yX11_mostOf) (by decide +kernel) rfl, by decide +kernel, by decide⟩, wd_1875, wd_109, by decide⟩
theorem cw_X11_413 : mj_cs RX11 413 yJ9_max_f86c9 cJ9_max_f86c9 4 (some .long) 2 := ⟨⟨wd_1883, wd_128, mj_seg_8 (j := 88) (w := .methodLink RX11 413 yJ9_max_f86c9) (by decide +kernel) rfl, by decide +kernel, by decide⟩, wd_1882⟩
theorem cw_X11_416 : mj_cv RX11 416 yX11_weighs cX11_weighs 6 none 0 9 := ⟨⟨wd_1868, wd_123, mj_seg_8 (j := 72) (w := .methodLink RX11 416 yX11_weighs) (by decide +kernel) rfl, by decide +kernel, by decide⟩, wd_1867, wd_107, by decide⟩
theorem cw_X11_419 : mj_cs RX11 419 yX11_sixties cX11_sixties 4 (some .long) 1 := ⟨⟨wd_1886, wd_123, mj_seg_8 (j := 91) (w := .methodLink RX11 419 yX11_sixties) (by decide +kernel) rfl, by decide +kernel, by decide⟩, wd_1885⟩
theorem cw_X11_422 : mj_cv RX11 422 yX11_arcTo cX11_arcTo 3 (some .int) 2 9 := ⟨⟨wd_1894, wd_123, mj_seg_8 (j := 98) (w := .methodLink RX11 422 yX11_arcTo) (by decide +kernel) rfl, by decide +kernel, by decide⟩, wd_1893, wd_112, by decide⟩
theorem cw_X11_424 : mj_cv RX11 424 yX11_length cX11_length 3 (some .int) 0 9 := ⟨⟨wd_1864, wd_123, mj_seg_8 (j := 68) (w := .methodLink RX11 424 yX11_length) (by decide +kernel) rfl, by decide +kernel, by decide⟩, wd_1863, wd_106, by decide⟩
theorem cw_X11_425 : mj_cv RX11 425 yX11_drawnAt cX11_drawnAt 6 (some .int) 2 9 := ⟨⟨wd_1890, wd_123, mj_seg_8 (j := 94) (w := .methodLink RX11 425 yX11_drawnAt) (by decide +kernel) rfl, by decide +kernel, by decide⟩, wd_1889, wd_111, by decide⟩
theorem cw_X11_437 : mj_cs RX11 437 yX11_odds cX11_odds 1 (some .long) 1 := ⟨⟨wd_1916, wd_123, mj_seg_8 (j := 121) (w := .methodLink RX11 437 yX11_odds) (by decide +kernel) rfl, by decide +kernel, by decide⟩, wd_1915⟩
theorem kk_X10_285 : Cond.constantLong RX10 285 (-1) ∈ mj_tb := mj_seg_6 (j := 192) (by decide +kernel) rfl
theorem kk_X10_287 : Cond.constantLong RX10 287 (31) ∈ mj_tb := mj_seg_3 (j := 51) (by decide +kernel) rfl
theorem kk_X2_36 : Cond.constant RX2 36 (40200) ∈ mj_tb := mj_seg_2 (j := 28) (by decide +kernel) rfl
theorem kk_X3_11 : Cond.constant RX3 11 (998244353) ∈ mj_tb := mj_seg_5 (j := 188) (by decide +kernel) rfl
theorem kk_X3_12 : Cond.constantLong RX3 12 (998244353) ∈ mj_tb := mj_seg_5 (j := 200) (by decide +kernel) rfl
theorem kk_X3_14 : Cond.constant RX3 14 (715408453) ∈ mj_tb := mj_seg_5 (j := 196) (by decide +kernel) rfl
theorem kk_X3_19 : Cond.constant RX3 19 (998244351) ∈ mj_tb := mj_seg_5 (j := 215) (by decide +kernel) rfl
theorem kk_X3_20 : Cond.constantLong RX3 20 (20000) ∈ mj_tb := mj_seg_6 (j := 1) (by decide +kernel) rfl
theorem kk_X4_116 : Cond.constant RX4 116 (1000000) ∈ mj_tb := mj_seg_3 (j := 16) (by decide +kernel) rfl
theorem kk_X4_117 : Cond.constant RX4 117 (-1640531535) ∈ mj_tb := mj_seg_3 (j := 17) (by decide +kernel) rfl
theorem kk_X5_48 : Cond.constantLong RX5 48 (60) ∈ mj_tb := mj_seg_6 (j := 173) (by decide +kernel) rfl
theorem kk_X11_78 : Cond.constant RX11 78 (100000) ∈ mj_tb := mj_seg_7 (j := 57) (by decide +kernel) rfl
theorem kk_X11_193 : Cond.constantLong RX11 193 (5) ∈ mj_tb := mj_seg_7 (j := 103) (by decide +kernel) rfl
theorem kk_X11_198 : Cond.constantLong RX11 198 (9) ∈ mj_tb := mj_seg_7 (j := 104) (by decide +kernel) rfl
theorem kk_X11_206 : Cond.constantLong RX11 206 (60) ∈ mj_tb := mj_seg_7 (j := 117) (by decide +kernel) rfl
theorem kk_X11_279 : Cond.constantLong RX11 279 (998244353) ∈ mj_tb := mj_seg_7 (j := 210) (by decide +kernel) rfl
theorem kk_X11_281 : Cond.constantLong RX11 281 (2) ∈ mj_tb := mj_seg_7 (j := 196) (by decide +kernel) rfl
theorem kk_X11_283 : Cond.constantLong RX11 283 (998244351) ∈ mj_tb := mj_seg_7 (j := 218) (by decide +kernel) rfl
theorem kk_X11_299 : Cond.constant RX11 299 (40200) ∈ mj_tb := mj_seg_7 (j := 209) (by decide +kernel) rfl
theorem kk_X11_323 : Cond.constantLong RX11 323 (20000) ∈ mj_tb := mj_seg_7 (j := 234) (by decide +kernel) rfl
theorem kk_X11_328 : Cond.constantLong RX11 328 (7) ∈ mj_tb := mj_seg_7 (j := 126) (by decide +kernel) rfl
theorem kk_X11_333 : Cond.constantLong RX11 333 (4) ∈ mj_tb := mj_seg_7 (j := 171) (by decide +kernel) rfl
theorem kk_X11_351 : Cond.constantLong RX11 351 (1996488707) ∈ mj_tb := mj_seg_7 (j := 230) (by decide +kernel) rfl
theorem kk_X11_371 : Cond.constantLong RX11 371 (200) ∈ mj_tb := mj_seg_8 (j := 39) (by decide +kernel) rfl
theorem kk_X11_428 : Cond.constantLong RX11 428 (-1) ∈ mj_tb := mj_seg_8 (j := 106) (by decide +kernel) rfl
theorem kk_X11_430 : Cond.constantLong RX11 430 (31) ∈ mj_tb := mj_seg_8 (j := 111) (by decide +kernel) rfl
theorem un_X1_9 : Cond.fieldLink RX1 9 "OddsSolver$Digits" "UNITS" "[I" ∈ mj_tb := mj_seg_2 (j := 235) (by decide +kernel) rfl
