/-! The methods' words. -/
set_option maxRecDepth 100000 in
theorem zcw_0 : lw_tbl[375]? = some (zcw zPr zMt 0) := rfl
set_option maxRecDepth 100000 in
theorem zcw_1 : lw_tbl[541]? = some (zcw zPr zMt 1) := rfl
set_option maxRecDepth 100000 in
theorem zcw_4 : lw_tbl[191]? = some (zcw zPr zMt 4) := rfl
set_option maxRecDepth 100000 in
theorem zcw_6 : lw_tbl[744]? = some (zcw zPr zMt 6) := rfl
set_option maxRecDepth 100000 in
theorem zcw_7 : lw_tbl[551]? = some (zcw zPr zMt 7) := rfl
set_option maxRecDepth 100000 in
theorem zcw_8 : lw_tbl[586]? = some (zcw zPr zMt 8) := rfl
set_option maxRecDepth 100000 in
theorem zcw_9 : lw_tbl[604]? = some (zcw zPr zMt 9) := rfl
set_option maxRecDepth 100000 in
theorem zcw_10 : lw_tbl[599]? = some (zcw zPr zMt 10) := rfl
set_option maxRecDepth 100000 in
theorem zcw_11 : lw_tbl[694]? = some (zcw zPr zMt 11) := rfl
set_option maxRecDepth 100000 in
theorem zcw_12 : lw_tbl[722]? = some (zcw zPr zMt 12) := rfl
set_option maxRecDepth 100000 in
theorem zcw_13 : lw_tbl[718]? = some (zcw zPr zMt 13) := rfl
set_option maxRecDepth 100000 in
theorem zcw_14 : lw_tbl[726]? = some (zcw zPr zMt 14) := rfl
set_option maxRecDepth 100000 in
theorem zcw_17 : lw_tbl[115]? = some (zcw zPr zMt 17) := rfl
set_option maxRecDepth 100000 in
theorem zcw_18 : lw_tbl[670]? = some (zcw zPr zMt 18) := rfl
set_option maxRecDepth 100000 in
theorem zcw_19 : lw_tbl[918]? = some (zcw zPr zMt 19) := rfl
set_option maxRecDepth 100000 in
theorem zcw_20 : lw_tbl[936]? = some (zcw zPr zMt 20) := rfl
set_option maxRecDepth 100000 in
theorem zcw_21 : lw_tbl[785]? = some (zcw zPr zMt 21) := rfl
set_option maxRecDepth 100000 in
theorem zcw_22 : lw_tbl[984]? = some (zcw zPr zMt 22) := rfl
set_option maxRecDepth 100000 in
theorem zcw_23 : lw_tbl[789]? = some (zcw zPr zMt 23) := rfl
set_option maxRecDepth 100000 in
theorem zcw_24 : lw_tbl[100]? = some (zcw zPr zMt 24) := rfl
set_option maxRecDepth 100000 in
theorem zcw_25 : lw_tbl[685]? = some (zcw zPr zMt 25) := rfl
set_option maxRecDepth 100000 in
theorem zcw_26 : lw_tbl[812]? = some (zcw zPr zMt 26) := rfl
set_option maxRecDepth 100000 in
theorem zcw_27 : lw_tbl[109]? = some (zcw zPr zMt 27) := rfl
set_option maxRecDepth 100000 in
theorem zcw_28 : lw_tbl[735]? = some (zcw zPr zMt 28) := rfl
set_option maxRecDepth 100000 in
theorem zcw_29 : lw_tbl[666]? = some (zcw zPr zMt 29) := rfl
set_option maxRecDepth 100000 in
theorem zcw_30 : lw_tbl[673]? = some (zcw zPr zMt 30) := rfl
set_option maxRecDepth 100000 in
theorem zcw_31 : lw_tbl[914]? = some (zcw zPr zMt 31) := rfl
set_option maxRecDepth 100000 in
theorem zcw_32 : lw_tbl[910]? = some (zcw zPr zMt 32) := rfl
set_option maxRecDepth 100000 in
theorem zcw_33 : lw_tbl[932]? = some (zcw zPr zMt 33) := rfl
set_option maxRecDepth 100000 in
theorem zcw_34 : lw_tbl[781]? = some (zcw zPr zMt 34) := rfl
set_option maxRecDepth 100000 in
theorem zcw_35 : lw_tbl[980]? = some (zcw zPr zMt 35) := rfl
set_option maxRecDepth 100000 in
theorem zcw_36 : lw_tbl[793]? = some (zcw zPr zMt 36) := rfl
set_option maxRecDepth 100000 in
theorem zcw_37 : lw_tbl[797]? = some (zcw zPr zMt 37) := rfl
set_option maxRecDepth 100000 in
theorem zcw_39 : lw_tbl[63]? = some (zcw zPr zMt 39) := rfl
set_option maxRecDepth 100000 in
theorem zcw_40 : lw_tbl[265]? = some (zcw zPr zMt 40) := rfl
set_option maxRecDepth 100000 in
theorem zcw_41 : lw_tbl[339]? = some (zcw zPr zMt 41) := rfl
set_option maxRecDepth 100000 in
theorem zcw_43 : lw_tbl[495]? = some (zcw zPr zMt 43) := rfl
set_option maxRecDepth 100000 in
theorem zcw_44 : lw_tbl[996]? = some (zcw zPr zMt 44) := rfl
set_option maxRecDepth 100000 in
theorem zcw_45 : lw_tbl[773]? = some (zcw zPr zMt 45) := rfl
set_option maxRecDepth 100000 in
theorem zcw_46 : lw_tbl[681]? = some (zcw zPr zMt 46) := rfl
set_option maxRecDepth 100000 in
theorem zcw_47 : lw_tbl[777]? = some (zcw zPr zMt 47) := rfl
set_option maxRecDepth 100000 in
theorem zcw_48 : lw_tbl[537]? = some (zcw zPr zMt 48) := rfl
set_option maxRecDepth 100000 in
theorem zcw_49 : lw_tbl[545]? = some (zcw zPr zMt 49) := rfl
set_option maxRecDepth 100000 in
theorem zcw_50 : lw_tbl[577]? = some (zcw zPr zMt 50) := rfl
set_option maxRecDepth 100000 in
theorem zcw_51 : lw_tbl[580]? = some (zcw zPr zMt 51) := rfl
set_option maxRecDepth 100000 in
theorem zcw_52 : lw_tbl[590]? = some (zcw zPr zMt 52) := rfl
set_option maxRecDepth 100000 in
theorem zcw_53 : lw_tbl[594]? = some (zcw zPr zMt 53) := rfl
set_option maxRecDepth 100000 in
theorem zcw_55 : lw_tbl[653]? = some (zcw zPr zMt 55) := rfl
set_option maxRecDepth 100000 in
theorem zcw_56 : lw_tbl[658]? = some (zcw zPr zMt 56) := rfl
set_option maxRecDepth 100000 in
theorem zcw_57 : lw_tbl[677]? = some (zcw zPr zMt 57) := rfl
set_option maxRecDepth 100000 in
theorem zcw_58 : lw_tbl[662]? = some (zcw zPr zMt 58) := rfl
set_option maxRecDepth 100000 in
theorem zcw_59 : lw_tbl[690]? = some (zcw zPr zMt 59) := rfl
set_option maxRecDepth 100000 in
theorem zcw_60 : lw_tbl[698]? = some (zcw zPr zMt 60) := rfl
set_option maxRecDepth 100000 in
theorem zcw_61 : lw_tbl[702]? = some (zcw zPr zMt 61) := rfl
set_option maxRecDepth 100000 in
theorem zcw_62 : lw_tbl[706]? = some (zcw zPr zMt 62) := rfl
set_option maxRecDepth 100000 in
theorem zcw_63 : lw_tbl[710]? = some (zcw zPr zMt 63) := rfl
set_option maxRecDepth 100000 in
theorem zcw_64 : lw_tbl[714]? = some (zcw zPr zMt 64) := rfl
set_option maxRecDepth 100000 in
theorem zcw_65 : lw_tbl[731]? = some (zcw zPr zMt 65) := rfl
set_option maxRecDepth 100000 in
theorem zcw_66 : lw_tbl[748]? = some (zcw zPr zMt 66) := rfl
set_option maxRecDepth 100000 in
theorem zcw_67 : lw_tbl[739]? = some (zcw zPr zMt 67) := rfl
set_option maxRecDepth 100000 in
theorem zcw_68 : lw_tbl[752]? = some (zcw zPr zMt 68) := rfl
set_option maxRecDepth 100000 in
theorem zcw_69 : lw_tbl[756]? = some (zcw zPr zMt 69) := rfl
set_option maxRecDepth 100000 in
theorem zcw_70 : lw_tbl[759]? = some (zcw zPr zMt 70) := rfl
set_option maxRecDepth 100000 in
theorem zcw_71 : lw_tbl[763]? = some (zcw zPr zMt 71) := rfl
set_option maxRecDepth 100000 in
theorem zcw_72 : lw_tbl[803]? = some (zcw zPr zMt 72) := rfl
set_option maxRecDepth 100000 in
theorem zcw_73 : lw_tbl[807]? = some (zcw zPr zMt 73) := rfl
set_option maxRecDepth 100000 in
theorem zcw_74 : lw_tbl[817]? = some (zcw zPr zMt 74) := rfl
set_option maxRecDepth 100000 in
theorem zcw_75 : lw_tbl[822]? = some (zcw zPr zMt 75) := rfl
set_option maxRecDepth 100000 in
theorem zcw_76 : lw_tbl[826]? = some (zcw zPr zMt 76) := rfl
set_option maxRecDepth 100000 in
theorem zcw_77 : lw_tbl[830]? = some (zcw zPr zMt 77) := rfl
set_option maxRecDepth 100000 in
theorem zcw_78 : lw_tbl[834]? = some (zcw zPr zMt 78) := rfl
set_option maxRecDepth 100000 in
theorem zcw_79 : lw_tbl[838]? = some (zcw zPr zMt 79) := rfl
set_option maxRecDepth 100000 in
theorem zcw_80 : lw_tbl[842]? = some (zcw zPr zMt 80) := rfl
set_option maxRecDepth 100000 in
theorem zcw_81 : lw_tbl[846]? = some (zcw zPr zMt 81) := rfl
set_option maxRecDepth 100000 in
theorem zcw_82 : lw_tbl[851]? = some (zcw zPr zMt 82) := rfl
set_option maxRecDepth 100000 in
theorem zcw_83 : lw_tbl[856]? = some (zcw zPr zMt 83) := rfl
set_option maxRecDepth 100000 in
theorem zcw_84 : lw_tbl[860]? = some (zcw zPr zMt 84) := rfl
set_option maxRecDepth 100000 in
theorem zcw_85 : lw_tbl[864]? = some (zcw zPr zMt 85) := rfl
set_option maxRecDepth 100000 in
theorem zcw_86 : lw_tbl[875]? = some (zcw zPr zMt 86) := rfl
set_option maxRecDepth 100000 in
theorem zcw_87 : lw_tbl[968]? = some (zcw zPr zMt 87) := rfl
set_option maxRecDepth 100000 in
theorem zcw_88 : lw_tbl[879]? = some (zcw zPr zMt 88) := rfl
set_option maxRecDepth 100000 in
theorem zcw_89 : lw_tbl[883]? = some (zcw zPr zMt 89) := rfl
set_option maxRecDepth 100000 in
theorem zcw_90 : lw_tbl[890]? = some (zcw zPr zMt 90) := rfl
set_option maxRecDepth 100000 in
theorem zcw_91 : lw_tbl[894]? = some (zcw zPr zMt 91) := rfl
set_option maxRecDepth 100000 in
theorem zcw_92 : lw_tbl[899]? = some (zcw zPr zMt 92) := rfl
set_option maxRecDepth 100000 in
theorem zcw_93 : lw_tbl[992]? = some (zcw zPr zMt 93) := rfl
set_option maxRecDepth 100000 in
theorem zcw_101 : lw_tbl[904]? = some (zcw zPr zMt 101) := rfl
set_option maxRecDepth 100000 in
theorem zcw_102 : lw_tbl[988]? = some (zcw zPr zMt 102) := rfl
set_option maxRecDepth 100000 in
theorem zcw_103 : lw_tbl[972]? = some (zcw zPr zMt 103) := rfl
set_option maxRecDepth 100000 in
theorem zcw_104 : lw_tbl[976]? = some (zcw zPr zMt 104) := rfl
set_option maxRecDepth 100000 in
theorem zcw_106 : lw_tbl[942]? = some (zcw zPr zMt 106) := rfl
set_option maxRecDepth 100000 in
theorem zcw_109 : lw_tbl[946]? = some (zcw zPr zMt 109) := rfl
set_option maxRecDepth 100000 in
theorem zcw_110 : lw_tbl[950]? = some (zcw zPr zMt 110) := rfl
set_option maxRecDepth 100000 in
theorem zcw_111 : lw_tbl[954]? = some (zcw zPr zMt 111) := rfl
set_option maxRecDepth 100000 in
theorem zcw_130 : lw_tbl[498]? = some (zcw zPr zMt 130) := rfl
set_option maxRecDepth 100000 in
theorem zcw_131 : lw_tbl[268]? = some (zcw zPr zMt 131) := rfl
set_option maxRecDepth 100000 in
theorem zcw_132 : lw_tbl[868]? = some (zcw zPr zMt 132) := rfl
set_option maxRecDepth 100000 in
theorem zcw_133 : lw_tbl[343]? = some (zcw zPr zMt 133) := rfl
set_option maxRecDepth 100000 in
theorem zcw_134 : lw_tbl[871]? = some (zcw zPr zMt 134) := rfl
set_option maxRecDepth 100000 in
theorem zcw_135 : lw_tbl[886]? = some (zcw zPr zMt 135) := rfl
set_option maxRecDepth 100000 in
theorem zcw_241 : lw_tbl[957]? = some (zcw zPr zMt 241) := rfl
set_option maxRecDepth 100000 in
theorem zcw_242 : lw_tbl[960]? = some (zcw zPr zMt 242) := rfl
set_option maxRecDepth 100000 in
theorem zcw_243 : lw_tbl[964]? = some (zcw zPr zMt 243) := rfl
set_option maxRecDepth 100000 in
theorem zcw_292 : lw_tbl[766]? = some (zcw zPr zMt 292) := rfl
set_option maxRecDepth 100000 in
theorem zcw_293 : lw_tbl[486]? = some (zcw zPr zMt 293) := rfl
