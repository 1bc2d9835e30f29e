/-! The methods' words. -/
set_option maxRecDepth 100000 in
theorem zcw_0 : lw_tbl[485]? = some (zcw zPr zMt 0) := rfl
set_option maxRecDepth 100000 in
theorem zcw_1 : lw_tbl[365]? = some (zcw zPr zMt 1) := rfl
set_option maxRecDepth 100000 in
theorem zcw_2 : lw_tbl[1396]? = some (zcw zPr zMt 2) := rfl
set_option maxRecDepth 100000 in
theorem zcw_3 : lw_tbl[1439]? = some (zcw zPr zMt 3) := rfl
set_option maxRecDepth 100000 in
theorem zcw_4 : lw_tbl[251]? = some (zcw zPr zMt 4) := rfl
set_option maxRecDepth 100000 in
theorem zcw_5 : lw_tbl[1214]? = some (zcw zPr zMt 5) := rfl
set_option maxRecDepth 100000 in
theorem zcw_6 : lw_tbl[894]? = some (zcw zPr zMt 6) := rfl
set_option maxRecDepth 100000 in
theorem zcw_7 : lw_tbl[678]? = some (zcw zPr zMt 7) := rfl
set_option maxRecDepth 100000 in
theorem zcw_8 : lw_tbl[716]? = some (zcw zPr zMt 8) := rfl
set_option maxRecDepth 100000 in
theorem zcw_9 : lw_tbl[737]? = some (zcw zPr zMt 9) := rfl
set_option maxRecDepth 100000 in
theorem zcw_10 : lw_tbl[732]? = some (zcw zPr zMt 10) := rfl
set_option maxRecDepth 100000 in
theorem zcw_11 : lw_tbl[835]? = some (zcw zPr zMt 11) := rfl
set_option maxRecDepth 100000 in
theorem zcw_12 : lw_tbl[872]? = some (zcw zPr zMt 12) := rfl
set_option maxRecDepth 100000 in
theorem zcw_13 : lw_tbl[868]? = some (zcw zPr zMt 13) := rfl
set_option maxRecDepth 100000 in
theorem zcw_14 : lw_tbl[876]? = some (zcw zPr zMt 14) := rfl
set_option maxRecDepth 100000 in
theorem zcw_15 : lw_tbl[1323]? = some (zcw zPr zMt 15) := rfl
set_option maxRecDepth 100000 in
theorem zcw_16 : lw_tbl[1376]? = some (zcw zPr zMt 16) := rfl
set_option maxRecDepth 100000 in
theorem zcw_17 : lw_tbl[168]? = some (zcw zPr zMt 17) := rfl
set_option maxRecDepth 100000 in
theorem zcw_18 : lw_tbl[820]? = some (zcw zPr zMt 18) := rfl
set_option maxRecDepth 100000 in
theorem zcw_19 : lw_tbl[1138]? = some (zcw zPr zMt 19) := rfl
set_option maxRecDepth 100000 in
theorem zcw_20 : lw_tbl[1156]? = some (zcw zPr zMt 20) := rfl
set_option maxRecDepth 100000 in
theorem zcw_21 : lw_tbl[921]? = some (zcw zPr zMt 21) := rfl
set_option maxRecDepth 100000 in
theorem zcw_22 : lw_tbl[1187]? = some (zcw zPr zMt 22) := rfl
set_option maxRecDepth 100000 in
theorem zcw_23 : lw_tbl[925]? = some (zcw zPr zMt 23) := rfl
set_option maxRecDepth 100000 in
theorem zcw_24 : lw_tbl[153]? = some (zcw zPr zMt 24) := rfl
set_option maxRecDepth 100000 in
theorem zcw_25 : lw_tbl[660]? = some (zcw zPr zMt 25) := rfl
set_option maxRecDepth 100000 in
theorem zcw_26 : lw_tbl[951]? = some (zcw zPr zMt 26) := rfl
set_option maxRecDepth 100000 in
theorem zcw_27 : lw_tbl[162]? = some (zcw zPr zMt 27) := rfl
set_option maxRecDepth 100000 in
theorem zcw_28 : lw_tbl[885]? = some (zcw zPr zMt 28) := rfl
set_option maxRecDepth 100000 in
theorem zcw_29 : lw_tbl[816]? = some (zcw zPr zMt 29) := rfl
set_option maxRecDepth 100000 in
theorem zcw_30 : lw_tbl[823]? = some (zcw zPr zMt 30) := rfl
set_option maxRecDepth 100000 in
theorem zcw_31 : lw_tbl[1134]? = some (zcw zPr zMt 31) := rfl
set_option maxRecDepth 100000 in
theorem zcw_32 : lw_tbl[1130]? = some (zcw zPr zMt 32) := rfl
set_option maxRecDepth 100000 in
theorem zcw_33 : lw_tbl[1152]? = some (zcw zPr zMt 33) := rfl
set_option maxRecDepth 100000 in
theorem zcw_34 : lw_tbl[917]? = some (zcw zPr zMt 34) := rfl
set_option maxRecDepth 100000 in
theorem zcw_35 : lw_tbl[1183]? = some (zcw zPr zMt 35) := rfl
set_option maxRecDepth 100000 in
theorem zcw_36 : lw_tbl[929]? = some (zcw zPr zMt 36) := rfl
set_option maxRecDepth 100000 in
theorem zcw_37 : lw_tbl[933]? = some (zcw zPr zMt 37) := rfl
set_option maxRecDepth 100000 in
theorem zcw_38 : lw_tbl[1273]? = some (zcw zPr zMt 38) := rfl
set_option maxRecDepth 100000 in
theorem zcw_39 : lw_tbl[116]? = some (zcw zPr zMt 39) := rfl
set_option maxRecDepth 100000 in
theorem zcw_40 : lw_tbl[386]? = some (zcw zPr zMt 40) := rfl
set_option maxRecDepth 100000 in
theorem zcw_41 : lw_tbl[460]? = some (zcw zPr zMt 41) := rfl
set_option maxRecDepth 100000 in
theorem zcw_42 : lw_tbl[615]? = some (zcw zPr zMt 42) := rfl
set_option maxRecDepth 100000 in
theorem zcw_43 : lw_tbl[641]? = some (zcw zPr zMt 43) := rfl
set_option maxRecDepth 100000 in
theorem zcw_44 : lw_tbl[648]? = some (zcw zPr zMt 44) := rfl
set_option maxRecDepth 100000 in
theorem zcw_45 : lw_tbl[652]? = some (zcw zPr zMt 45) := rfl
set_option maxRecDepth 100000 in
theorem zcw_46 : lw_tbl[656]? = some (zcw zPr zMt 46) := rfl
set_option maxRecDepth 100000 in
theorem zcw_47 : lw_tbl[665]? = some (zcw zPr zMt 47) := rfl
set_option maxRecDepth 100000 in
theorem zcw_48 : lw_tbl[331]? = some (zcw zPr zMt 48) := rfl
set_option maxRecDepth 100000 in
theorem zcw_49 : lw_tbl[672]? = some (zcw zPr zMt 49) := rfl
set_option maxRecDepth 100000 in
theorem zcw_50 : lw_tbl[707]? = some (zcw zPr zMt 50) := rfl
set_option maxRecDepth 100000 in
theorem zcw_51 : lw_tbl[710]? = some (zcw zPr zMt 51) := rfl
set_option maxRecDepth 100000 in
theorem zcw_52 : lw_tbl[723]? = some (zcw zPr zMt 52) := rfl
set_option maxRecDepth 100000 in
theorem zcw_53 : lw_tbl[727]? = some (zcw zPr zMt 53) := rfl
set_option maxRecDepth 100000 in
theorem zcw_54 : lw_tbl[789]? = some (zcw zPr zMt 54) := rfl
set_option maxRecDepth 100000 in
theorem zcw_55 : lw_tbl[803]? = some (zcw zPr zMt 55) := rfl
set_option maxRecDepth 100000 in
theorem zcw_56 : lw_tbl[808]? = some (zcw zPr zMt 56) := rfl
set_option maxRecDepth 100000 in
theorem zcw_57 : lw_tbl[827]? = some (zcw zPr zMt 57) := rfl
set_option maxRecDepth 100000 in
theorem zcw_58 : lw_tbl[812]? = some (zcw zPr zMt 58) := rfl
set_option maxRecDepth 100000 in
theorem zcw_59 : lw_tbl[831]? = some (zcw zPr zMt 59) := rfl
set_option maxRecDepth 100000 in
theorem zcw_60 : lw_tbl[839]? = some (zcw zPr zMt 60) := rfl
set_option maxRecDepth 100000 in
theorem zcw_61 : lw_tbl[846]? = some (zcw zPr zMt 61) := rfl
set_option maxRecDepth 100000 in
theorem zcw_62 : lw_tbl[853]? = some (zcw zPr zMt 62) := rfl
set_option maxRecDepth 100000 in
theorem zcw_63 : lw_tbl[860]? = some (zcw zPr zMt 63) := rfl
set_option maxRecDepth 100000 in
theorem zcw_64 : lw_tbl[864]? = some (zcw zPr zMt 64) := rfl
set_option maxRecDepth 100000 in
theorem zcw_65 : lw_tbl[881]? = some (zcw zPr zMt 65) := rfl
set_option maxRecDepth 100000 in
theorem zcw_66 : lw_tbl[898]? = some (zcw zPr zMt 66) := rfl
set_option maxRecDepth 100000 in
theorem zcw_67 : lw_tbl[889]? = some (zcw zPr zMt 67) := rfl
set_option maxRecDepth 100000 in
theorem zcw_68 : lw_tbl[902]? = some (zcw zPr zMt 68) := rfl
set_option maxRecDepth 100000 in
theorem zcw_69 : lw_tbl[906]? = some (zcw zPr zMt 69) := rfl
set_option maxRecDepth 100000 in
theorem zcw_70 : lw_tbl[909]? = some (zcw zPr zMt 70) := rfl
set_option maxRecDepth 100000 in
theorem zcw_71 : lw_tbl[913]? = some (zcw zPr zMt 71) := rfl
set_option maxRecDepth 100000 in
theorem zcw_72 : lw_tbl[939]? = some (zcw zPr zMt 72) := rfl
set_option maxRecDepth 100000 in
theorem zcw_73 : lw_tbl[946]? = some (zcw zPr zMt 73) := rfl
set_option maxRecDepth 100000 in
theorem zcw_74 : lw_tbl[956]? = some (zcw zPr zMt 74) := rfl
set_option maxRecDepth 100000 in
theorem zcw_75 : lw_tbl[961]? = some (zcw zPr zMt 75) := rfl
set_option maxRecDepth 100000 in
theorem zcw_76 : lw_tbl[965]? = some (zcw zPr zMt 76) := rfl
set_option maxRecDepth 100000 in
theorem zcw_77 : lw_tbl[969]? = some (zcw zPr zMt 77) := rfl
set_option maxRecDepth 100000 in
theorem zcw_78 : lw_tbl[973]? = some (zcw zPr zMt 78) := rfl
set_option maxRecDepth 100000 in
theorem zcw_79 : lw_tbl[977]? = some (zcw zPr zMt 79) := rfl
set_option maxRecDepth 100000 in
theorem zcw_80 : lw_tbl[981]? = some (zcw zPr zMt 80) := rfl
set_option maxRecDepth 100000 in
theorem zcw_81 : lw_tbl[988]? = some (zcw zPr zMt 81) := rfl
set_option maxRecDepth 100000 in
theorem zcw_82 : lw_tbl[996]? = some (zcw zPr zMt 82) := rfl
set_option maxRecDepth 100000 in
theorem zcw_83 : lw_tbl[369]? = some (zcw zPr zMt 83) := rfl
set_option maxRecDepth 100000 in
theorem zcw_84 : lw_tbl[373]? = some (zcw zPr zMt 84) := rfl
set_option maxRecDepth 100000 in
theorem zcw_85 : lw_tbl[1004]? = some (zcw zPr zMt 85) := rfl
set_option maxRecDepth 100000 in
theorem zcw_86 : lw_tbl[1018]? = some (zcw zPr zMt 86) := rfl
set_option maxRecDepth 100000 in
theorem zcw_87 : lw_tbl[1025]? = some (zcw zPr zMt 87) := rfl
set_option maxRecDepth 100000 in
theorem zcw_88 : lw_tbl[1032]? = some (zcw zPr zMt 88) := rfl
set_option maxRecDepth 100000 in
theorem zcw_89 : lw_tbl[1036]? = some (zcw zPr zMt 89) := rfl
set_option maxRecDepth 100000 in
theorem zcw_90 : lw_tbl[1046]? = some (zcw zPr zMt 90) := rfl
set_option maxRecDepth 100000 in
theorem zcw_91 : lw_tbl[1053]? = some (zcw zPr zMt 91) := rfl
set_option maxRecDepth 100000 in
theorem zcw_92 : lw_tbl[1061]? = some (zcw zPr zMt 92) := rfl
set_option maxRecDepth 100000 in
theorem zcw_93 : lw_tbl[1069]? = some (zcw zPr zMt 93) := rfl
set_option maxRecDepth 100000 in
theorem zcw_94 : lw_tbl[1076]? = some (zcw zPr zMt 94) := rfl
set_option maxRecDepth 100000 in
theorem zcw_95 : lw_tbl[1084]? = some (zcw zPr zMt 95) := rfl
set_option maxRecDepth 100000 in
theorem zcw_96 : lw_tbl[1089]? = some (zcw zPr zMt 96) := rfl
set_option maxRecDepth 100000 in
theorem zcw_97 : lw_tbl[1097]? = some (zcw zPr zMt 97) := rfl
set_option maxRecDepth 100000 in
theorem zcw_98 : lw_tbl[1105]? = some (zcw zPr zMt 98) := rfl
set_option maxRecDepth 100000 in
theorem zcw_99 : lw_tbl[1109]? = some (zcw zPr zMt 99) := rfl
set_option maxRecDepth 100000 in
theorem zcw_100 : lw_tbl[1117]? = some (zcw zPr zMt 100) := rfl
set_option maxRecDepth 100000 in
theorem zcw_101 : lw_tbl[1124]? = some (zcw zPr zMt 101) := rfl
set_option maxRecDepth 100000 in
theorem zcw_102 : lw_tbl[1165]? = some (zcw zPr zMt 102) := rfl
set_option maxRecDepth 100000 in
theorem zcw_103 : lw_tbl[1172]? = some (zcw zPr zMt 103) := rfl
set_option maxRecDepth 100000 in
theorem zcw_104 : lw_tbl[1179]? = some (zcw zPr zMt 104) := rfl
set_option maxRecDepth 100000 in
theorem zcw_105 : lw_tbl[1194]? = some (zcw zPr zMt 105) := rfl
set_option maxRecDepth 100000 in
theorem zcw_106 : lw_tbl[1202]? = some (zcw zPr zMt 106) := rfl
set_option maxRecDepth 100000 in
theorem zcw_107 : lw_tbl[1209]? = some (zcw zPr zMt 107) := rfl
set_option maxRecDepth 100000 in
theorem zcw_108 : lw_tbl[1238]? = some (zcw zPr zMt 108) := rfl
set_option maxRecDepth 100000 in
theorem zcw_109 : lw_tbl[1246]? = some (zcw zPr zMt 109) := rfl
set_option maxRecDepth 100000 in
theorem zcw_110 : lw_tbl[1253]? = some (zcw zPr zMt 110) := rfl
set_option maxRecDepth 100000 in
theorem zcw_111 : lw_tbl[1260]? = some (zcw zPr zMt 111) := rfl
set_option maxRecDepth 100000 in
theorem zcw_112 : lw_tbl[1267]? = some (zcw zPr zMt 112) := rfl
set_option maxRecDepth 100000 in
theorem zcw_113 : lw_tbl[1290]? = some (zcw zPr zMt 113) := rfl
set_option maxRecDepth 100000 in
theorem zcw_114 : lw_tbl[1298]? = some (zcw zPr zMt 114) := rfl
set_option maxRecDepth 100000 in
theorem zcw_115 : lw_tbl[1305]? = some (zcw zPr zMt 115) := rfl
set_option maxRecDepth 100000 in
theorem zcw_116 : lw_tbl[1309]? = some (zcw zPr zMt 116) := rfl
set_option maxRecDepth 100000 in
theorem zcw_117 : lw_tbl[1317]? = some (zcw zPr zMt 117) := rfl
set_option maxRecDepth 100000 in
theorem zcw_118 : lw_tbl[1346]? = some (zcw zPr zMt 118) := rfl
set_option maxRecDepth 100000 in
theorem zcw_119 : lw_tbl[1353]? = some (zcw zPr zMt 119) := rfl
set_option maxRecDepth 100000 in
theorem zcw_120 : lw_tbl[1360]? = some (zcw zPr zMt 120) := rfl
set_option maxRecDepth 100000 in
theorem zcw_121 : lw_tbl[1364]? = some (zcw zPr zMt 121) := rfl
set_option maxRecDepth 100000 in
theorem zcw_122 : lw_tbl[1368]? = some (zcw zPr zMt 122) := rfl
set_option maxRecDepth 100000 in
theorem zcw_123 : lw_tbl[1379]? = some (zcw zPr zMt 123) := rfl
set_option maxRecDepth 100000 in
theorem zcw_124 : lw_tbl[1372]? = some (zcw zPr zMt 124) := rfl
set_option maxRecDepth 100000 in
theorem zcw_125 : lw_tbl[377]? = some (zcw zPr zMt 125) := rfl
set_option maxRecDepth 100000 in
theorem zcw_126 : lw_tbl[1386]? = some (zcw zPr zMt 126) := rfl
set_option maxRecDepth 100000 in
theorem zcw_127 : lw_tbl[1390]? = some (zcw zPr zMt 127) := rfl
set_option maxRecDepth 100000 in
theorem zcw_128 : lw_tbl[1427]? = some (zcw zPr zMt 128) := rfl
set_option maxRecDepth 100000 in
theorem zcw_129 : lw_tbl[1435]? = some (zcw zPr zMt 129) := rfl
set_option maxRecDepth 100000 in
theorem zcw_130 : lw_tbl[618]? = some (zcw zPr zMt 130) := rfl
set_option maxRecDepth 100000 in
theorem zcw_131 : lw_tbl[389]? = some (zcw zPr zMt 131) := rfl
set_option maxRecDepth 100000 in
theorem zcw_132 : lw_tbl[1008]? = some (zcw zPr zMt 132) := rfl
set_option maxRecDepth 100000 in
theorem zcw_133 : lw_tbl[464]? = some (zcw zPr zMt 133) := rfl
set_option maxRecDepth 100000 in
theorem zcw_134 : lw_tbl[1011]? = some (zcw zPr zMt 134) := rfl
set_option maxRecDepth 100000 in
theorem zcw_135 : lw_tbl[1039]? = some (zcw zPr zMt 135) := rfl
set_option maxRecDepth 100000 in
theorem zcw_136 : lw_tbl[1444]? = some (zcw zPr zMt 136) := rfl
set_option maxRecDepth 100000 in
theorem zcw_137 : lw_tbl[1684]? = some (zcw zPr zMt 137) := rfl
set_option maxRecDepth 100000 in
theorem zcw_138 : lw_tbl[1742]? = some (zcw zPr zMt 138) := rfl
set_option maxRecDepth 100000 in
theorem zcw_139 : lw_tbl[1694]? = some (zcw zPr zMt 139) := rfl
set_option maxRecDepth 100000 in
theorem zcw_140 : lw_tbl[1691]? = some (zcw zPr zMt 140) := rfl
set_option maxRecDepth 100000 in
theorem zcw_141 : lw_tbl[1745]? = some (zcw zPr zMt 141) := rfl
set_option maxRecDepth 100000 in
theorem zcw_142 : lw_tbl[1702]? = some (zcw zPr zMt 142) := rfl
set_option maxRecDepth 100000 in
theorem zcw_143 : lw_tbl[1765]? = some (zcw zPr zMt 143) := rfl
set_option maxRecDepth 100000 in
theorem zcw_144 : lw_tbl[1864]? = some (zcw zPr zMt 144) := rfl
set_option maxRecDepth 100000 in
theorem zcw_145 : lw_tbl[1688]? = some (zcw zPr zMt 145) := rfl
set_option maxRecDepth 100000 in
theorem zcw_146 : lw_tbl[1706]? = some (zcw zPr zMt 146) := rfl
set_option maxRecDepth 100000 in
theorem zcw_147 : lw_tbl[1698]? = some (zcw zPr zMt 147) := rfl
set_option maxRecDepth 100000 in
theorem zcw_148 : lw_tbl[1714]? = some (zcw zPr zMt 148) := rfl
set_option maxRecDepth 100000 in
theorem zcw_149 : lw_tbl[1710]? = some (zcw zPr zMt 149) := rfl
set_option maxRecDepth 100000 in
theorem zcw_150 : lw_tbl[1726]? = some (zcw zPr zMt 150) := rfl
set_option maxRecDepth 100000 in
theorem zcw_151 : lw_tbl[1722]? = some (zcw zPr zMt 151) := rfl
set_option maxRecDepth 100000 in
theorem zcw_152 : lw_tbl[1718]? = some (zcw zPr zMt 152) := rfl
set_option maxRecDepth 100000 in
theorem zcw_153 : lw_tbl[1730]? = some (zcw zPr zMt 153) := rfl
set_option maxRecDepth 100000 in
theorem zcw_154 : lw_tbl[1734]? = some (zcw zPr zMt 154) := rfl
set_option maxRecDepth 100000 in
theorem zcw_155 : lw_tbl[1738]? = some (zcw zPr zMt 155) := rfl
set_option maxRecDepth 100000 in
theorem zcw_156 : lw_tbl[1757]? = some (zcw zPr zMt 156) := rfl
set_option maxRecDepth 100000 in
theorem zcw_157 : lw_tbl[1753]? = some (zcw zPr zMt 157) := rfl
set_option maxRecDepth 100000 in
theorem zcw_158 : lw_tbl[1749]? = some (zcw zPr zMt 158) := rfl
set_option maxRecDepth 100000 in
theorem zcw_159 : lw_tbl[1768]? = some (zcw zPr zMt 159) := rfl
set_option maxRecDepth 100000 in
theorem zcw_160 : lw_tbl[1761]? = some (zcw zPr zMt 160) := rfl
set_option maxRecDepth 100000 in
theorem zcw_161 : lw_tbl[1772]? = some (zcw zPr zMt 161) := rfl
set_option maxRecDepth 100000 in
theorem zcw_162 : lw_tbl[1800]? = some (zcw zPr zMt 162) := rfl
set_option maxRecDepth 100000 in
theorem zcw_163 : lw_tbl[1804]? = some (zcw zPr zMt 163) := rfl
set_option maxRecDepth 100000 in
theorem zcw_164 : lw_tbl[1820]? = some (zcw zPr zMt 164) := rfl
set_option maxRecDepth 100000 in
theorem zcw_165 : lw_tbl[1835]? = some (zcw zPr zMt 165) := rfl
set_option maxRecDepth 100000 in
theorem zcw_166 : lw_tbl[1831]? = some (zcw zPr zMt 166) := rfl
set_option maxRecDepth 100000 in
theorem zcw_167 : lw_tbl[1828]? = some (zcw zPr zMt 167) := rfl
set_option maxRecDepth 100000 in
theorem zcw_168 : lw_tbl[1824]? = some (zcw zPr zMt 168) := rfl
set_option maxRecDepth 100000 in
theorem zcw_169 : lw_tbl[1816]? = some (zcw zPr zMt 169) := rfl
set_option maxRecDepth 100000 in
theorem zcw_170 : lw_tbl[1861]? = some (zcw zPr zMt 170) := rfl
set_option maxRecDepth 100000 in
theorem zcw_171 : lw_tbl[1812]? = some (zcw zPr zMt 171) := rfl
set_option maxRecDepth 100000 in
theorem zcw_172 : lw_tbl[1808]? = some (zcw zPr zMt 172) := rfl
set_option maxRecDepth 100000 in
theorem zcw_173 : lw_tbl[1776]? = some (zcw zPr zMt 173) := rfl
set_option maxRecDepth 100000 in
theorem zcw_174 : lw_tbl[1796]? = some (zcw zPr zMt 174) := rfl
set_option maxRecDepth 100000 in
theorem zcw_175 : lw_tbl[1784]? = some (zcw zPr zMt 175) := rfl
set_option maxRecDepth 100000 in
theorem zcw_176 : lw_tbl[1792]? = some (zcw zPr zMt 176) := rfl
set_option maxRecDepth 100000 in
theorem zcw_177 : lw_tbl[1788]? = some (zcw zPr zMt 177) := rfl
set_option maxRecDepth 100000 in
theorem zcw_178 : lw_tbl[1780]? = some (zcw zPr zMt 178) := rfl
set_option maxRecDepth 100000 in
theorem zcw_179 : lw_tbl[1892]? = some (zcw zPr zMt 179) := rfl
set_option maxRecDepth 100000 in
theorem zcw_180 : lw_tbl[1888]? = some (zcw zPr zMt 180) := rfl
set_option maxRecDepth 100000 in
theorem zcw_181 : lw_tbl[1884]? = some (zcw zPr zMt 181) := rfl
set_option maxRecDepth 100000 in
theorem zcw_182 : lw_tbl[1896]? = some (zcw zPr zMt 182) := rfl
set_option maxRecDepth 100000 in
theorem zcw_183 : lw_tbl[1872]? = some (zcw zPr zMt 183) := rfl
set_option maxRecDepth 100000 in
theorem zcw_184 : lw_tbl[1876]? = some (zcw zPr zMt 184) := rfl
set_option maxRecDepth 100000 in
theorem zcw_185 : lw_tbl[1880]? = some (zcw zPr zMt 185) := rfl
set_option maxRecDepth 100000 in
theorem zcw_186 : lw_tbl[1868]? = some (zcw zPr zMt 186) := rfl
set_option maxRecDepth 100000 in
theorem zcw_187 : lw_tbl[1900]? = some (zcw zPr zMt 187) := rfl
set_option maxRecDepth 100000 in
theorem zcw_188 : lw_tbl[1904]? = some (zcw zPr zMt 188) := rfl
set_option maxRecDepth 100000 in
theorem zcw_189 : lw_tbl[1908]? = some (zcw zPr zMt 189) := rfl
set_option maxRecDepth 100000 in
theorem zcw_190 : lw_tbl[1912]? = some (zcw zPr zMt 190) := rfl
set_option maxRecDepth 100000 in
theorem zcw_191 : lw_tbl[1920]? = some (zcw zPr zMt 191) := rfl
set_option maxRecDepth 100000 in
theorem zcw_192 : lw_tbl[1916]? = some (zcw zPr zMt 192) := rfl
set_option maxRecDepth 100000 in
theorem zcw_193 : lw_tbl[1924]? = some (zcw zPr zMt 193) := rfl
set_option maxRecDepth 100000 in
theorem zcw_194 : lw_tbl[1928]? = some (zcw zPr zMt 194) := rfl
set_option maxRecDepth 100000 in
theorem zcw_195 : lw_tbl[1940]? = some (zcw zPr zMt 195) := rfl
set_option maxRecDepth 100000 in
theorem zcw_196 : lw_tbl[1936]? = some (zcw zPr zMt 196) := rfl
set_option maxRecDepth 100000 in
theorem zcw_197 : lw_tbl[1932]? = some (zcw zPr zMt 197) := rfl
set_option maxRecDepth 100000 in
theorem zcw_198 : lw_tbl[1944]? = some (zcw zPr zMt 198) := rfl
set_option maxRecDepth 100000 in
theorem zcw_199 : lw_tbl[1948]? = some (zcw zPr zMt 199) := rfl
set_option maxRecDepth 100000 in
theorem zcw_200 : lw_tbl[1952]? = some (zcw zPr zMt 200) := rfl
set_option maxRecDepth 100000 in
theorem zcw_201 : lw_tbl[1956]? = some (zcw zPr zMt 201) := rfl
set_option maxRecDepth 100000 in
theorem zcw_202 : lw_tbl[1964]? = some (zcw zPr zMt 202) := rfl
set_option maxRecDepth 100000 in
theorem zcw_203 : lw_tbl[1972]? = some (zcw zPr zMt 203) := rfl
set_option maxRecDepth 100000 in
theorem zcw_204 : lw_tbl[1960]? = some (zcw zPr zMt 204) := rfl
set_option maxRecDepth 100000 in
theorem zcw_205 : lw_tbl[1968]? = some (zcw zPr zMt 205) := rfl
set_option maxRecDepth 100000 in
theorem zcw_206 : lw_tbl[1976]? = some (zcw zPr zMt 206) := rfl
set_option maxRecDepth 100000 in
theorem zcw_207 : lw_tbl[1980]? = some (zcw zPr zMt 207) := rfl
set_option maxRecDepth 100000 in
theorem zcw_208 : lw_tbl[1984]? = some (zcw zPr zMt 208) := rfl
set_option maxRecDepth 100000 in
theorem zcw_209 : lw_tbl[1988]? = some (zcw zPr zMt 209) := rfl
set_option maxRecDepth 100000 in
theorem zcw_210 : lw_tbl[1854]? = some (zcw zPr zMt 210) := rfl
set_option maxRecDepth 100000 in
theorem zcw_211 : lw_tbl[1850]? = some (zcw zPr zMt 211) := rfl
set_option maxRecDepth 100000 in
theorem zcw_212 : lw_tbl[1846]? = some (zcw zPr zMt 212) := rfl
set_option maxRecDepth 100000 in
theorem zcw_213 : lw_tbl[1843]? = some (zcw zPr zMt 213) := rfl
set_option maxRecDepth 100000 in
theorem zcw_214 : lw_tbl[1839]? = some (zcw zPr zMt 214) := rfl
set_option maxRecDepth 100000 in
theorem zcw_215 : lw_tbl[1993]? = some (zcw zPr zMt 215) := rfl
set_option maxRecDepth 100000 in
theorem zcw_216 : lw_tbl[1997]? = some (zcw zPr zMt 216) := rfl
set_option maxRecDepth 100000 in
theorem zcw_217 : lw_tbl[2001]? = some (zcw zPr zMt 217) := rfl
set_option maxRecDepth 100000 in
theorem zcw_218 : lw_tbl[2006]? = some (zcw zPr zMt 218) := rfl
set_option maxRecDepth 100000 in
theorem zcw_219 : lw_tbl[2010]? = some (zcw zPr zMt 219) := rfl
set_option maxRecDepth 100000 in
theorem zcw_220 : lw_tbl[2014]? = some (zcw zPr zMt 220) := rfl
set_option maxRecDepth 100000 in
theorem zcw_221 : lw_tbl[2018]? = some (zcw zPr zMt 221) := rfl
set_option maxRecDepth 100000 in
theorem zcw_222 : lw_tbl[2022]? = some (zcw zPr zMt 222) := rfl
set_option maxRecDepth 100000 in
theorem zcw_223 : lw_tbl[2026]? = some (zcw zPr zMt 223) := rfl
set_option maxRecDepth 100000 in
theorem zcw_224 : lw_tbl[2030]? = some (zcw zPr zMt 224) := rfl
set_option maxRecDepth 100000 in
theorem zcw_225 : lw_tbl[2034]? = some (zcw zPr zMt 225) := rfl
set_option maxRecDepth 100000 in
theorem zcw_226 : lw_tbl[2042]? = some (zcw zPr zMt 226) := rfl
set_option maxRecDepth 100000 in
theorem zcw_227 : lw_tbl[2038]? = some (zcw zPr zMt 227) := rfl
set_option maxRecDepth 100000 in
theorem zcw_228 : lw_tbl[2046]? = some (zcw zPr zMt 228) := rfl
set_option maxRecDepth 100000 in
theorem zcw_229 : lw_tbl[2053]? = some (zcw zPr zMt 229) := rfl
set_option maxRecDepth 100000 in
theorem zcw_230 : lw_tbl[2050]? = some (zcw zPr zMt 230) := rfl
set_option maxRecDepth 100000 in
theorem zcw_231 : lw_tbl[2057]? = some (zcw zPr zMt 231) := rfl
set_option maxRecDepth 100000 in
theorem zcw_232 : lw_tbl[2061]? = some (zcw zPr zMt 232) := rfl
set_option maxRecDepth 100000 in
theorem zcw_233 : lw_tbl[2065]? = some (zcw zPr zMt 233) := rfl
set_option maxRecDepth 100000 in
theorem zcw_234 : lw_tbl[2077]? = some (zcw zPr zMt 234) := rfl
set_option maxRecDepth 100000 in
theorem zcw_235 : lw_tbl[2073]? = some (zcw zPr zMt 235) := rfl
set_option maxRecDepth 100000 in
theorem zcw_236 : lw_tbl[2069]? = some (zcw zPr zMt 236) := rfl
set_option maxRecDepth 100000 in
theorem zcw_237 : lw_tbl[2081]? = some (zcw zPr zMt 237) := rfl
set_option maxRecDepth 100000 in
theorem zcw_238 : lw_tbl[2085]? = some (zcw zPr zMt 238) := rfl
set_option maxRecDepth 100000 in
theorem zcw_239 : lw_tbl[2089]? = some (zcw zPr zMt 239) := rfl
set_option maxRecDepth 100000 in
theorem zcw_240 : lw_tbl[2093]? = some (zcw zPr zMt 240) := rfl
set_option maxRecDepth 100000 in
theorem zcw_241 : lw_tbl[380]? = some (zcw zPr zMt 241) := rfl
set_option maxRecDepth 100000 in
theorem zcw_242 : lw_tbl[610]? = some (zcw zPr zMt 242) := rfl
set_option maxRecDepth 100000 in
theorem zcw_243 : lw_tbl[637]? = some (zcw zPr zMt 243) := rfl
set_option maxRecDepth 100000 in
theorem zcw_244 : lw_tbl[644]? = some (zcw zPr zMt 244) := rfl
set_option maxRecDepth 100000 in
theorem zcw_245 : lw_tbl[668]? = some (zcw zPr zMt 245) := rfl
set_option maxRecDepth 100000 in
theorem zcw_246 : lw_tbl[703]? = some (zcw zPr zMt 246) := rfl
set_option maxRecDepth 100000 in
theorem zcw_247 : lw_tbl[719]? = some (zcw zPr zMt 247) := rfl
set_option maxRecDepth 100000 in
theorem zcw_248 : lw_tbl[785]? = some (zcw zPr zMt 248) := rfl
set_option maxRecDepth 100000 in
theorem zcw_249 : lw_tbl[799]? = some (zcw zPr zMt 249) := rfl
set_option maxRecDepth 100000 in
theorem zcw_250 : lw_tbl[842]? = some (zcw zPr zMt 250) := rfl
set_option maxRecDepth 100000 in
theorem zcw_251 : lw_tbl[849]? = some (zcw zPr zMt 251) := rfl
set_option maxRecDepth 100000 in
theorem zcw_252 : lw_tbl[856]? = some (zcw zPr zMt 252) := rfl
set_option maxRecDepth 100000 in
theorem zcw_253 : lw_tbl[942]? = some (zcw zPr zMt 253) := rfl
set_option maxRecDepth 100000 in
theorem zcw_254 : lw_tbl[984]? = some (zcw zPr zMt 254) := rfl
set_option maxRecDepth 100000 in
theorem zcw_255 : lw_tbl[992]? = some (zcw zPr zMt 255) := rfl
set_option maxRecDepth 100000 in
theorem zcw_256 : lw_tbl[1000]? = some (zcw zPr zMt 256) := rfl
set_option maxRecDepth 100000 in
theorem zcw_257 : lw_tbl[1014]? = some (zcw zPr zMt 257) := rfl
set_option maxRecDepth 100000 in
theorem zcw_258 : lw_tbl[1021]? = some (zcw zPr zMt 258) := rfl
set_option maxRecDepth 100000 in
theorem zcw_259 : lw_tbl[1028]? = some (zcw zPr zMt 259) := rfl
set_option maxRecDepth 100000 in
theorem zcw_260 : lw_tbl[1042]? = some (zcw zPr zMt 260) := rfl
set_option maxRecDepth 100000 in
theorem zcw_261 : lw_tbl[1049]? = some (zcw zPr zMt 261) := rfl
set_option maxRecDepth 100000 in
theorem zcw_262 : lw_tbl[1057]? = some (zcw zPr zMt 262) := rfl
set_option maxRecDepth 100000 in
theorem zcw_263 : lw_tbl[1065]? = some (zcw zPr zMt 263) := rfl
set_option maxRecDepth 100000 in
theorem zcw_264 : lw_tbl[1072]? = some (zcw zPr zMt 264) := rfl
set_option maxRecDepth 100000 in
theorem zcw_265 : lw_tbl[1080]? = some (zcw zPr zMt 265) := rfl
set_option maxRecDepth 100000 in
theorem zcw_266 : lw_tbl[1093]? = some (zcw zPr zMt 266) := rfl
set_option maxRecDepth 100000 in
theorem zcw_267 : lw_tbl[1101]? = some (zcw zPr zMt 267) := rfl
set_option maxRecDepth 100000 in
theorem zcw_268 : lw_tbl[1113]? = some (zcw zPr zMt 268) := rfl
set_option maxRecDepth 100000 in
theorem zcw_269 : lw_tbl[1120]? = some (zcw zPr zMt 269) := rfl
set_option maxRecDepth 100000 in
theorem zcw_270 : lw_tbl[1161]? = some (zcw zPr zMt 270) := rfl
set_option maxRecDepth 100000 in
theorem zcw_271 : lw_tbl[1168]? = some (zcw zPr zMt 271) := rfl
set_option maxRecDepth 100000 in
theorem zcw_272 : lw_tbl[1175]? = some (zcw zPr zMt 272) := rfl
set_option maxRecDepth 100000 in
theorem zcw_273 : lw_tbl[1190]? = some (zcw zPr zMt 273) := rfl
set_option maxRecDepth 100000 in
theorem zcw_274 : lw_tbl[1198]? = some (zcw zPr zMt 274) := rfl
set_option maxRecDepth 100000 in
theorem zcw_275 : lw_tbl[1205]? = some (zcw zPr zMt 275) := rfl
set_option maxRecDepth 100000 in
theorem zcw_276 : lw_tbl[1234]? = some (zcw zPr zMt 276) := rfl
set_option maxRecDepth 100000 in
theorem zcw_277 : lw_tbl[1242]? = some (zcw zPr zMt 277) := rfl
set_option maxRecDepth 100000 in
theorem zcw_278 : lw_tbl[1249]? = some (zcw zPr zMt 278) := rfl
set_option maxRecDepth 100000 in
theorem zcw_279 : lw_tbl[1256]? = some (zcw zPr zMt 279) := rfl
set_option maxRecDepth 100000 in
theorem zcw_280 : lw_tbl[1263]? = some (zcw zPr zMt 280) := rfl
set_option maxRecDepth 100000 in
theorem zcw_281 : lw_tbl[1286]? = some (zcw zPr zMt 281) := rfl
set_option maxRecDepth 100000 in
theorem zcw_282 : lw_tbl[1294]? = some (zcw zPr zMt 282) := rfl
set_option maxRecDepth 100000 in
theorem zcw_283 : lw_tbl[1301]? = some (zcw zPr zMt 283) := rfl
set_option maxRecDepth 100000 in
theorem zcw_284 : lw_tbl[1313]? = some (zcw zPr zMt 284) := rfl
set_option maxRecDepth 100000 in
theorem zcw_285 : lw_tbl[1342]? = some (zcw zPr zMt 285) := rfl
set_option maxRecDepth 100000 in
theorem zcw_286 : lw_tbl[1349]? = some (zcw zPr zMt 286) := rfl
set_option maxRecDepth 100000 in
theorem zcw_287 : lw_tbl[1356]? = some (zcw zPr zMt 287) := rfl
set_option maxRecDepth 100000 in
theorem zcw_288 : lw_tbl[1382]? = some (zcw zPr zMt 288) := rfl
set_option maxRecDepth 100000 in
theorem zcw_289 : lw_tbl[1423]? = some (zcw zPr zMt 289) := rfl
set_option maxRecDepth 100000 in
theorem zcw_290 : lw_tbl[1431]? = some (zcw zPr zMt 290) := rfl
set_option maxRecDepth 100000 in
theorem zcw_292 : lw_tbl[793]? = some (zcw zPr zMt 292) := rfl
set_option maxRecDepth 100000 in
theorem zcw_293 : lw_tbl[602]? = some (zcw zPr zMt 293) := rfl
