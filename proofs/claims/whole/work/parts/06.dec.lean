set_option maxRecDepth 100000 in
theorem mv_dk_0 : mv_dk (mv_by 0) (mv_m 0).1 = true := by decide +kernel
set_option maxRecDepth 100000 in
theorem mv_dk_1 : mv_dk (mv_by 1) (mv_m 1).1 = true := by decide +kernel
set_option maxRecDepth 100000 in
theorem mv_dk_2 : mv_dk (mv_by 2) (mv_m 2).1 = true := by decide +kernel
set_option maxRecDepth 100000 in
theorem mv_dk_3 : mv_dk (mv_by 3) (mv_m 3).1 = true := by decide +kernel
set_option maxRecDepth 100000 in
theorem mv_dk_4 : mv_dk (mv_by 4) (mv_m 4).1 = true := by decide +kernel
set_option maxRecDepth 100000 in
theorem mv_dk_5 : mv_dk (mv_by 5) (mv_m 5).1 = true := by decide +kernel
set_option maxRecDepth 100000 in
theorem mv_dk_6 : mv_dk (mv_by 6) (mv_m 6).1 = true := by decide +kernel
set_option maxRecDepth 100000 in
theorem mv_dk_7 : mv_dk (mv_by 7) (mv_m 7).1 = true := by decide +kernel
set_option maxRecDepth 100000 in
theorem mv_dk_8 : mv_dk (mv_by 8) (mv_m 8).1 = true := by decide +kernel
set_option maxRecDepth 100000 in
theorem mv_dk_9 : mv_dk (mv_by 9) (mv_m 9).1 = true := by decide +kernel
set_option maxRecDepth 100000 in
theorem mv_dk_10 : mv_dk (mv_by 10) (mv_m 10).1 = true := by decide +kernel
set_option maxRecDepth 100000 in
theorem mv_dk_11 : mv_dk (mv_by 11) (mv_m 11).1 = true := by decide +kernel
set_option maxRecDepth 100000 in
theorem mv_dk_12 : mv_dk (mv_by 12) (mv_m 12).1 = true := by decide +kernel
set_option maxRecDepth 100000 in
theorem mv_dk_13 : mv_dk (mv_by 13) (mv_m 13).1 = true := by decide +kernel
set_option maxRecDepth 100000 in
theorem mv_dk_14 : mv_dk (mv_by 14) (mv_m 14).1 = true := by decide +kernel
set_option maxRecDepth 100000 in
theorem mv_dk_15 : mv_dk (mv_by 15) (mv_m 15).1 = true := by decide +kernel
set_option maxRecDepth 100000 in
theorem mv_dk_16 : mv_dk (mv_by 16) (mv_m 16).1 = true := by decide +kernel
set_option maxRecDepth 100000 in
theorem mv_dk_17 : mv_dk (mv_by 17) (mv_m 17).1 = true := by decide +kernel
set_option maxRecDepth 100000 in
theorem mv_dk_18 : mv_dk (mv_by 18) (mv_m 18).1 = true := by decide +kernel
set_option maxRecDepth 100000 in
theorem mv_dk_19 : mv_dk (mv_by 19) (mv_m 19).1 = true := by decide +kernel
set_option maxRecDepth 100000 in
theorem mv_dk_20 : mv_dk (mv_by 20) (mv_m 20).1 = true := by decide +kernel
set_option maxRecDepth 100000 in
theorem mv_dk_21 : mv_dk (mv_by 21) (mv_m 21).1 = true := by decide +kernel
set_option maxRecDepth 100000 in
theorem mv_dk_22 : mv_dk (mv_by 22) (mv_m 22).1 = true := by decide +kernel
set_option maxRecDepth 100000 in
theorem mv_dk_23 : mv_dk (mv_by 23) (mv_m 23).1 = true := by decide +kernel
set_option maxRecDepth 100000 in
theorem mv_dk_24 : mv_dk (mv_by 24) (mv_m 24).1 = true := by decide +kernel
set_option maxRecDepth 100000 in
theorem mv_dk_25 : mv_dk (mv_by 25) (mv_m 25).1 = true := by decide +kernel
set_option maxRecDepth 100000 in
theorem mv_dk_26 : mv_dk (mv_by 26) (mv_m 26).1 = true := by decide +kernel
set_option maxRecDepth 100000 in
theorem mv_dk_27 : mv_dk (mv_by 27) (mv_m 27).1 = true := by decide +kernel
set_option maxRecDepth 100000 in
theorem mv_dk_28 : mv_dk (mv_by 28) (mv_m 28).1 = true := by decide +kernel
set_option maxRecDepth 100000 in
theorem mv_dk_29 : mv_dk (mv_by 29) (mv_m 29).1 = true := by decide +kernel
set_option maxRecDepth 100000 in
theorem mv_dk_30 : mv_dk (mv_by 30) (mv_m 30).1 = true := by decide +kernel
set_option maxRecDepth 100000 in
theorem mv_dk_31 : mv_dk (mv_by 31) (mv_m 31).1 = true := by decide +kernel
set_option maxRecDepth 100000 in
theorem mv_dk_32 : mv_dk (mv_by 32) (mv_m 32).1 = true := by decide +kernel
set_option maxRecDepth 100000 in
theorem mv_dk_33 : mv_dk (mv_by 33) (mv_m 33).1 = true := by decide +kernel
set_option maxRecDepth 100000 in
theorem mv_dk_34 : mv_dk (mv_by 34) (mv_m 34).1 = true := by decide +kernel
set_option maxRecDepth 100000 in
theorem mv_dk_35 : mv_dk (mv_by 35) (mv_m 35).1 = true := by decide +kernel
set_option maxRecDepth 100000 in
theorem mv_dk_36 : mv_dk (mv_by 36) (mv_m 36).1 = true := by decide +kernel
set_option maxRecDepth 100000 in
theorem mv_dk_37 : mv_dk (mv_by 37) (mv_m 37).1 = true := by decide +kernel
set_option maxRecDepth 100000 in
theorem mv_dk_38 : mv_dk (mv_by 38) (mv_m 38).1 = true := by decide +kernel
set_option maxRecDepth 100000 in
theorem mv_dk_39 : mv_dk (mv_by 39) (mv_m 39).1 = true := by decide +kernel
set_option maxRecDepth 100000 in
theorem mv_dk_40 : mv_dk (mv_by 40) (mv_m 40).1 = true := by decide +kernel
set_option maxRecDepth 100000 in
theorem mv_dk_41 : mv_dk (mv_by 41) (mv_m 41).1 = true := by decide +kernel
set_option maxRecDepth 100000 in
theorem mv_dk_42 : mv_dk (mv_by 42) (mv_m 42).1 = true := by decide +kernel
set_option maxRecDepth 100000 in
theorem mv_dk_43 : mv_dk (mv_by 43) (mv_m 43).1 = true := by decide +kernel
set_option maxRecDepth 100000 in
theorem mv_dk_44 : mv_dk (mv_by 44) (mv_m 44).1 = true := by decide +kernel
set_option maxRecDepth 100000 in
theorem mv_dk_45 : mv_dk (mv_by 45) (mv_m 45).1 = true := by decide +kernel
set_option maxRecDepth 100000 in
theorem mv_dk_46 : mv_dk (mv_by 46) (mv_m 46).1 = true := by decide +kernel
set_option maxRecDepth 100000 in
theorem mv_dk_47 : mv_dk (mv_by 47) (mv_m 47).1 = true := by decide +kernel
set_option maxRecDepth 100000 in
theorem mv_dk_48 : mv_dk (mv_by 48) (mv_m 48).1 = true := by decide +kernel
set_option maxRecDepth 100000 in
theorem mv_dk_49 : mv_dk (mv_by 49) (mv_m 49).1 = true := by decide +kernel
set_option maxRecDepth 100000 in
theorem mv_dk_50 : mv_dk (mv_by 50) (mv_m 50).1 = true := by decide +kernel
set_option maxRecDepth 100000 in
theorem mv_dk_51 : mv_dk (mv_by 51) (mv_m 51).1 = true := by decide +kernel
set_option maxRecDepth 100000 in
theorem mv_dk_52 : mv_dk (mv_by 52) (mv_m 52).1 = true := by decide +kernel
set_option maxRecDepth 100000 in
theorem mv_dk_53 : mv_dk (mv_by 53) (mv_m 53).1 = true := by decide +kernel
set_option maxRecDepth 100000 in
theorem mv_dk_54 : mv_dk (mv_by 54) (mv_m 54).1 = true := by decide +kernel
set_option maxRecDepth 100000 in
theorem mv_dk_55 : mv_dk (mv_by 55) (mv_m 55).1 = true := by decide +kernel
set_option maxRecDepth 100000 in
theorem mv_dk_56 : mv_dk (mv_by 56) (mv_m 56).1 = true := by decide +kernel
set_option maxRecDepth 100000 in
theorem mv_dk_57 : mv_dk (mv_by 57) (mv_m 57).1 = true := by decide +kernel
set_option maxRecDepth 100000 in
theorem mv_dk_58 : mv_dk (mv_by 58) (mv_m 58).1 = true := by decide +kernel
set_option maxRecDepth 100000 in
theorem mv_dk_59 : mv_dk (mv_by 59) (mv_m 59).1 = true := by decide +kernel
set_option maxRecDepth 100000 in
theorem mv_dk_60 : mv_dk (mv_by 60) (mv_m 60).1 = true := by decide +kernel
set_option maxRecDepth 100000 in
theorem mv_dk_61 : mv_dk (mv_by 61) (mv_m 61).1 = true := by decide +kernel
set_option maxRecDepth 100000 in
theorem mv_dk_62 : mv_dk (mv_by 62) (mv_m 62).1 = true := by decide +kernel
set_option maxRecDepth 100000 in
theorem mv_dk_63 : mv_dk (mv_by 63) (mv_m 63).1 = true := by decide +kernel
set_option maxRecDepth 100000 in
theorem mv_dk_64 : mv_dk (mv_by 64) (mv_m 64).1 = true := by decide +kernel
set_option maxRecDepth 100000 in
theorem mv_dk_65 : mv_dk (mv_by 65) (mv_m 65).1 = true := by decide +kernel
set_option maxRecDepth 100000 in
theorem mv_dk_66 : mv_dk (mv_by 66) (mv_m 66).1 = true := by decide +kernel
set_option maxRecDepth 100000 in
theorem mv_dk_67 : mv_dk (mv_by 67) (mv_m 67).1 = true := by decide +kernel
set_option maxRecDepth 100000 in
theorem mv_dk_68 : mv_dk (mv_by 68) (mv_m 68).1 = true := by decide +kernel
set_option maxRecDepth 100000 in
theorem mv_dk_69 : mv_dk (mv_by 69) (mv_m 69).1 = true := by decide +kernel
set_option maxRecDepth 100000 in
theorem mv_dk_70 : mv_dk (mv_by 70) (mv_m 70).1 = true := by decide +kernel
set_option maxRecDepth 100000 in
theorem mv_dk_71 : mv_dk (mv_by 71) (mv_m 71).1 = true := by decide +kernel
set_option maxRecDepth 100000 in
theorem mv_dk_72 : mv_dk (mv_by 72) (mv_m 72).1 = true := by decide +kernel
set_option maxRecDepth 100000 in
theorem mv_dk_73 : mv_dk (mv_by 73) (mv_m 73).1 = true := by decide +kernel
set_option maxRecDepth 100000 in
theorem mv_dk_74 : mv_dk (mv_by 74) (mv_m 74).1 = true := by decide +kernel
set_option maxRecDepth 100000 in
theorem mv_dk_75 : mv_dk (mv_by 75) (mv_m 75).1 = true := by decide +kernel
set_option maxRecDepth 100000 in
theorem mv_dk_76 : mv_dk (mv_by 76) (mv_m 76).1 = true := by decide +kernel
set_option maxRecDepth 100000 in
theorem mv_dk_77 : mv_dk (mv_by 77) (mv_m 77).1 = true := by decide +kernel
set_option maxRecDepth 100000 in
theorem mv_dk_78 : mv_dk (mv_by 78) (mv_m 78).1 = true := by decide +kernel
set_option maxRecDepth 100000 in
theorem mv_dk_79 : mv_dk (mv_by 79) (mv_m 79).1 = true := by decide +kernel
set_option maxRecDepth 100000 in
theorem mv_dk_80 : mv_dk (mv_by 80) (mv_m 80).1 = true := by decide +kernel
set_option maxRecDepth 100000 in
theorem mv_dk_81 : mv_dk (mv_by 81) (mv_m 81).1 = true := by decide +kernel
set_option maxRecDepth 100000 in
theorem mv_dk_82 : mv_dk (mv_by 82) (mv_m 82).1 = true := by decide +kernel
set_option maxRecDepth 100000 in
theorem mv_dk_83 : mv_dk (mv_by 83) (mv_m 83).1 = true := by decide +kernel
set_option maxRecDepth 100000 in
theorem mv_dk_84 : mv_dk (mv_by 84) (mv_m 84).1 = true := by decide +kernel
set_option maxRecDepth 100000 in
theorem mv_dk_85 : mv_dk (mv_by 85) (mv_m 85).1 = true := by decide +kernel
set_option maxRecDepth 100000 in
theorem mv_dk_86 : mv_dk (mv_by 86) (mv_m 86).1 = true := by decide +kernel
set_option maxRecDepth 100000 in
theorem mv_dk_87 : mv_dk (mv_by 87) (mv_m 87).1 = true := by decide +kernel
set_option maxRecDepth 100000 in
theorem mv_dk_88 : mv_dk (mv_by 88) (mv_m 88).1 = true := by decide +kernel
set_option maxRecDepth 100000 in
theorem mv_dk_89 : mv_dk (mv_by 89) (mv_m 89).1 = true := by decide +kernel
set_option maxRecDepth 100000 in
theorem mv_dk_90 : mv_dk (mv_by 90) (mv_m 90).1 = true := by decide +kernel
set_option maxRecDepth 100000 in
theorem mv_dk_91 : mv_dk (mv_by 91) (mv_m 91).1 = true := by decide +kernel
set_option maxRecDepth 100000 in
theorem mv_dk_92 : mv_dk (mv_by 92) (mv_m 92).1 = true := by decide +kernel
set_option maxRecDepth 100000 in
theorem mv_dk_93 : mv_dk (mv_by 93) (mv_m 93).1 = true := by decide +kernel
set_option maxRecDepth 100000 in
theorem mv_dk_94 : mv_dk (mv_by 94) (mv_m 94).1 = true := by decide +kernel
set_option maxRecDepth 100000 in
theorem mv_dk_95 : mv_dk (mv_by 95) (mv_m 95).1 = true := by decide +kernel
set_option maxRecDepth 100000 in
theorem mv_dk_96 : mv_dk (mv_by 96) (mv_m 96).1 = true := by decide +kernel
set_option maxRecDepth 100000 in
theorem mv_dk_97 : mv_dk (mv_by 97) (mv_m 97).1 = true := by decide +kernel
set_option maxRecDepth 100000 in
theorem mv_dk_98 : mv_dk (mv_by 98) (mv_m 98).1 = true := by decide +kernel
set_option maxRecDepth 100000 in
theorem mv_dk_99 : mv_dk (mv_by 99) (mv_m 99).1 = true := by decide +kernel
set_option maxRecDepth 100000 in
theorem mv_dk_100 : mv_dk (mv_by 100) (mv_m 100).1 = true := by decide +kernel
set_option maxRecDepth 100000 in
theorem mv_dk_101 : mv_dk (mv_by 101) (mv_m 101).1 = true := by decide +kernel
set_option maxRecDepth 100000 in
theorem mv_dk_102 : mv_dk (mv_by 102) (mv_m 102).1 = true := by decide +kernel
set_option maxRecDepth 100000 in
theorem mv_dk_103 : mv_dk (mv_by 103) (mv_m 103).1 = true := by decide +kernel
set_option maxRecDepth 100000 in
theorem mv_dk_104 : mv_dk (mv_by 104) (mv_m 104).1 = true := by decide +kernel
set_option maxRecDepth 100000 in
theorem mv_dk_105 : mv_dk (mv_by 105) (mv_m 105).1 = true := by decide +kernel
set_option maxRecDepth 100000 in
theorem mv_dk_106 : mv_dk (mv_by 106) (mv_m 106).1 = true := by decide +kernel
set_option maxRecDepth 100000 in
theorem mv_dk_107 : mv_dk (mv_by 107) (mv_m 107).1 = true := by decide +kernel
set_option maxRecDepth 100000 in
theorem mv_dk_108 : mv_dk (mv_by 108) (mv_m 108).1 = true := by decide +kernel
set_option maxRecDepth 100000 in
theorem mv_dk_109 : mv_dk (mv_by 109) (mv_m 109).1 = true := by decide +kernel
set_option maxRecDepth 100000 in
theorem mv_dk_110 : mv_dk (mv_by 110) (mv_m 110).1 = true := by decide +kernel
set_option maxRecDepth 100000 in
theorem mv_dk_111 : mv_dk (mv_by 111) (mv_m 111).1 = true := by decide +kernel
set_option maxRecDepth 100000 in
theorem mv_dk_112 : mv_dk (mv_by 112) (mv_m 112).1 = true := by decide +kernel
set_option maxRecDepth 100000 in
theorem mv_dk_113 : mv_dk (mv_by 113) (mv_m 113).1 = true := by decide +kernel
set_option maxRecDepth 100000 in
theorem mv_dk_114 : mv_dk (mv_by 114) (mv_m 114).1 = true := by decide +kernel
set_option maxRecDepth 100000 in
theorem mv_dk_115 : mv_dk (mv_by 115) (mv_m 115).1 = true := by decide +kernel
set_option maxRecDepth 100000 in
theorem mv_dk_116 : mv_dk (mv_by 116) (mv_m 116).1 = true := by decide +kernel
set_option maxRecDepth 100000 in
theorem mv_dk_117 : mv_dk (mv_by 117) (mv_m 117).1 = true := by decide +kernel
set_option maxRecDepth 100000 in
theorem mv_dk_118 : mv_dk (mv_by 118) (mv_m 118).1 = true := by decide +kernel
set_option maxRecDepth 100000 in
theorem mv_dk_119 : mv_dk (mv_by 119) (mv_m 119).1 = true := by decide +kernel
set_option maxRecDepth 100000 in
theorem mv_dk_120 : mv_dk (mv_by 120) (mv_m 120).1 = true := by decide +kernel
set_option maxRecDepth 100000 in
theorem mv_dk_121 : mv_dk (mv_by 121) (mv_m 121).1 = true := by decide +kernel
set_option maxRecDepth 100000 in
theorem mv_dk_122 : mv_dk (mv_by 122) (mv_m 122).1 = true := by decide +kernel
set_option maxRecDepth 100000 in
theorem mv_dk_123 : mv_dk (mv_by 123) (mv_m 123).1 = true := by decide +kernel
set_option maxRecDepth 100000 in
theorem mv_dk_124 : mv_dk (mv_by 124) (mv_m 124).1 = true := by decide +kernel
set_option maxRecDepth 100000 in
theorem mv_dk_125 : mv_dk (mv_by 125) (mv_m 125).1 = true := by decide +kernel
set_option maxRecDepth 100000 in
theorem mv_dk_126 : mv_dk (mv_by 126) (mv_m 126).1 = true := by decide +kernel
set_option maxRecDepth 100000 in
theorem mv_dk_127 : mv_dk (mv_by 127) (mv_m 127).1 = true := by decide +kernel
set_option maxRecDepth 100000 in
theorem mv_dk_128 : mv_dk (mv_by 128) (mv_m 128).1 = true := by decide +kernel
set_option maxRecDepth 100000 in
theorem mv_dk_129 : mv_dk (mv_by 129) (mv_m 129).1 = true := by decide +kernel
set_option maxRecDepth 100000 in
theorem mv_dk_130 : mv_dk (mv_by 130) (mv_m 130).1 = true := by decide +kernel
set_option maxRecDepth 100000 in
theorem mv_dk_131 : mv_dk (mv_by 131) (mv_m 131).1 = true := by decide +kernel
set_option maxRecDepth 100000 in
theorem mv_dk_132 : mv_dk (mv_by 132) (mv_m 132).1 = true := by decide +kernel
set_option maxRecDepth 100000 in
theorem mv_dk_133 : mv_dk (mv_by 133) (mv_m 133).1 = true := by decide +kernel
set_option maxRecDepth 100000 in
theorem mv_dk_134 : mv_dk (mv_by 134) (mv_m 134).1 = true := by decide +kernel
set_option maxRecDepth 100000 in
theorem mv_dk_135 : mv_dk (mv_by 135) (mv_m 135).1 = true := by decide +kernel
set_option maxRecDepth 100000 in
theorem mv_dk_136 : mv_dk (mv_by 136) (mv_m 136).1 = true := by decide +kernel
set_option maxRecDepth 100000 in
theorem mv_dk_137 : mv_dk (mv_by 137) (mv_m 137).1 = true := by decide +kernel
set_option maxRecDepth 100000 in
theorem mv_dk_138 : mv_dk (mv_by 138) (mv_m 138).1 = true := by decide +kernel
set_option maxRecDepth 100000 in
theorem mv_dk_139 : mv_dk (mv_by 139) (mv_m 139).1 = true := by decide +kernel
set_option maxRecDepth 100000 in
theorem mv_dk_140 : mv_dk (mv_by 140) (mv_m 140).1 = true := by decide +kernel
set_option maxRecDepth 100000 in
theorem mv_dk_141 : mv_dk (mv_by 141) (mv_m 141).1 = true := by decide +kernel
set_option maxRecDepth 100000 in
theorem mv_dk_142 : mv_dk (mv_by 142) (mv_m 142).1 = true := by decide +kernel
set_option maxRecDepth 100000 in
theorem mv_dk_143 : mv_dk (mv_by 143) (mv_m 143).1 = true := by decide +kernel
set_option maxRecDepth 100000 in
theorem mv_dk_144 : mv_dk (mv_by 144) (mv_m 144).1 = true := by decide +kernel
set_option maxRecDepth 100000 in
theorem mv_dk_145 : mv_dk (mv_by 145) (mv_m 145).1 = true := by decide +kernel
set_option maxRecDepth 100000 in
theorem mv_dk_146 : mv_dk (mv_by 146) (mv_m 146).1 = true := by decide +kernel
set_option maxRecDepth 100000 in
theorem mv_dk_147 : mv_dk (mv_by 147) (mv_m 147).1 = true := by decide +kernel
set_option maxRecDepth 100000 in
theorem mv_dk_148 : mv_dk (mv_by 148) (mv_m 148).1 = true := by decide +kernel
set_option maxRecDepth 100000 in
theorem mv_dk_149 : mv_dk (mv_by 149) (mv_m 149).1 = true := by decide +kernel
set_option maxRecDepth 100000 in
theorem mv_dk_150 : mv_dk (mv_by 150) (mv_m 150).1 = true := by decide +kernel
set_option maxRecDepth 100000 in
theorem mv_dk_151 : mv_dk (mv_by 151) (mv_m 151).1 = true := by decide +kernel
set_option maxRecDepth 100000 in
theorem mv_dk_152 : mv_dk (mv_by 152) (mv_m 152).1 = true := by decide +kernel
set_option maxRecDepth 100000 in
theorem mv_dk_153 : mv_dk (mv_by 153) (mv_m 153).1 = true := by decide +kernel
set_option maxRecDepth 100000 in
theorem mv_dk_154 : mv_dk (mv_by 154) (mv_m 154).1 = true := by decide +kernel
set_option maxRecDepth 100000 in
theorem mv_dk_155 : mv_dk (mv_by 155) (mv_m 155).1 = true := by decide +kernel
set_option maxRecDepth 100000 in
theorem mv_dk_156 : mv_dk (mv_by 156) (mv_m 156).1 = true := by decide +kernel
set_option maxRecDepth 100000 in
theorem mv_dk_157 : mv_dk (mv_by 157) (mv_m 157).1 = true := by decide +kernel
set_option maxRecDepth 100000 in
theorem mv_dk_158 : mv_dk (mv_by 158) (mv_m 158).1 = true := by decide +kernel
set_option maxRecDepth 100000 in
theorem mv_dk_159 : mv_dk (mv_by 159) (mv_m 159).1 = true := by decide +kernel
set_option maxRecDepth 100000 in
theorem mv_dk_160 : mv_dk (mv_by 160) (mv_m 160).1 = true := by decide +kernel
set_option maxRecDepth 100000 in
theorem mv_dk_161 : mv_dk (mv_by 161) (mv_m 161).1 = true := by decide +kernel
set_option maxRecDepth 100000 in
theorem mv_dk_162 : mv_dk (mv_by 162) (mv_m 162).1 = true := by decide +kernel
set_option maxRecDepth 100000 in
theorem mv_dk_163 : mv_dk (mv_by 163) (mv_m 163).1 = true := by decide +kernel
set_option maxRecDepth 100000 in
theorem mv_dk_164 : mv_dk (mv_by 164) (mv_m 164).1 = true := by decide +kernel
set_option maxRecDepth 100000 in
theorem mv_dk_165 : mv_dk (mv_by 165) (mv_m 165).1 = true := by decide +kernel
set_option maxRecDepth 100000 in
theorem mv_dk_166 : mv_dk (mv_by 166) (mv_m 166).1 = true := by decide +kernel
set_option maxRecDepth 100000 in
theorem mv_dk_167 : mv_dk (mv_by 167) (mv_m 167).1 = true := by decide +kernel
set_option maxRecDepth 100000 in
theorem mv_dk_168 : mv_dk (mv_by 168) (mv_m 168).1 = true := by decide +kernel
set_option maxRecDepth 100000 in
theorem mv_dk_169 : mv_dk (mv_by 169) (mv_m 169).1 = true := by decide +kernel
set_option maxRecDepth 100000 in
theorem mv_dk_170 : mv_dk (mv_by 170) (mv_m 170).1 = true := by decide +kernel
set_option maxRecDepth 100000 in
theorem mv_dk_171 : mv_dk (mv_by 171) (mv_m 171).1 = true := by decide +kernel
set_option maxRecDepth 100000 in
theorem mv_dk_172 : mv_dk (mv_by 172) (mv_m 172).1 = true := by decide +kernel
set_option maxRecDepth 100000 in
theorem mv_dk_173 : mv_dk (mv_by 173) (mv_m 173).1 = true := by decide +kernel
set_option maxRecDepth 100000 in
theorem mv_dk_174 : mv_dk (mv_by 174) (mv_m 174).1 = true := by decide +kernel
set_option maxRecDepth 100000 in
theorem mv_dk_175 : mv_dk (mv_by 175) (mv_m 175).1 = true := by decide +kernel
set_option maxRecDepth 100000 in
theorem mv_dk_176 : mv_dk (mv_by 176) (mv_m 176).1 = true := by decide +kernel
set_option maxRecDepth 100000 in
theorem mv_dk_177 : mv_dk (mv_by 177) (mv_m 177).1 = true := by decide +kernel
set_option maxRecDepth 100000 in
theorem mv_dk_178 : mv_dk (mv_by 178) (mv_m 178).1 = true := by decide +kernel
set_option maxRecDepth 100000 in
theorem mv_dk_179 : mv_dk (mv_by 179) (mv_m 179).1 = true := by decide +kernel
set_option maxRecDepth 100000 in
theorem mv_dk_180 : mv_dk (mv_by 180) (mv_m 180).1 = true := by decide +kernel
set_option maxRecDepth 100000 in
theorem mv_dk_181 : mv_dk (mv_by 181) (mv_m 181).1 = true := by decide +kernel
set_option maxRecDepth 100000 in
theorem mv_dk_182 : mv_dk (mv_by 182) (mv_m 182).1 = true := by decide +kernel
set_option maxRecDepth 100000 in
theorem mv_dk_183 : mv_dk (mv_by 183) (mv_m 183).1 = true := by decide +kernel
set_option maxRecDepth 100000 in
theorem mv_dk_184 : mv_dk (mv_by 184) (mv_m 184).1 = true := by decide +kernel
set_option maxRecDepth 100000 in
theorem mv_dk_185 : mv_dk (mv_by 185) (mv_m 185).1 = true := by decide +kernel
set_option maxRecDepth 100000 in
theorem mv_dk_186 : mv_dk (mv_by 186) (mv_m 186).1 = true := by decide +kernel
set_option maxRecDepth 100000 in
theorem mv_dk_187 : mv_dk (mv_by 187) (mv_m 187).1 = true := by decide +kernel
set_option maxRecDepth 100000 in
theorem mv_dk_188 : mv_dk (mv_by 188) (mv_m 188).1 = true := by decide +kernel
set_option maxRecDepth 100000 in
theorem mv_dk_189 : mv_dk (mv_by 189) (mv_m 189).1 = true := by decide +kernel
set_option maxRecDepth 100000 in
theorem mv_dk_190 : mv_dk (mv_by 190) (mv_m 190).1 = true := by decide +kernel
set_option maxRecDepth 100000 in
theorem mv_dk_191 : mv_dk (mv_by 191) (mv_m 191).1 = true := by decide +kernel
set_option maxRecDepth 100000 in
theorem mv_dk_192 : mv_dk (mv_by 192) (mv_m 192).1 = true := by decide +kernel
set_option maxRecDepth 100000 in
theorem mv_dk_193 : mv_dk (mv_by 193) (mv_m 193).1 = true := by decide +kernel
set_option maxRecDepth 100000 in
theorem mv_dk_194 : mv_dk (mv_by 194) (mv_m 194).1 = true := by decide +kernel
set_option maxRecDepth 100000 in
theorem mv_dk_195 : mv_dk (mv_by 195) (mv_m 195).1 = true := by decide +kernel
set_option maxRecDepth 100000 in
theorem mv_dk_196 : mv_dk (mv_by 196) (mv_m 196).1 = true := by decide +kernel
set_option maxRecDepth 100000 in
theorem mv_dk_197 : mv_dk (mv_by 197) (mv_m 197).1 = true := by decide +kernel
set_option maxRecDepth 100000 in
theorem mv_dk_198 : mv_dk (mv_by 198) (mv_m 198).1 = true := by decide +kernel
set_option maxRecDepth 100000 in
theorem mv_dk_199 : mv_dk (mv_by 199) (mv_m 199).1 = true := by decide +kernel
set_option maxRecDepth 100000 in
theorem mv_dk_200 : mv_dk (mv_by 200) (mv_m 200).1 = true := by decide +kernel
set_option maxRecDepth 100000 in
theorem mv_dk_201 : mv_dk (mv_by 201) (mv_m 201).1 = true := by decide +kernel
set_option maxRecDepth 100000 in
theorem mv_dk_202 : mv_dk (mv_by 202) (mv_m 202).1 = true := by decide +kernel
set_option maxRecDepth 100000 in
theorem mv_dk_203 : mv_dk (mv_by 203) (mv_m 203).1 = true := by decide +kernel
set_option maxRecDepth 100000 in
theorem mv_dk_204 : mv_dk (mv_by 204) (mv_m 204).1 = true := by decide +kernel
set_option maxRecDepth 100000 in
theorem mv_dkL_0 : mv_dk code kc_Law_law_0 = true := by decide +kernel
set_option maxRecDepth 100000 in
theorem mv_dkL_1 : mv_dk code kc_Law_law_1 = true := by decide +kernel
set_option maxRecDepth 100000 in
theorem mv_dkL_2 : mv_dk code kc_Law_law_2 = true := by decide +kernel
set_option maxRecDepth 100000 in
theorem mv_dkL_3 : mv_dk code kc_Law_law_3 = true := by decide +kernel
set_option maxRecDepth 100000 in
theorem mv_dkL_4 : mv_dk code kc_Law_law_4 = true := by decide +kernel
set_option maxRecDepth 100000 in
theorem mv_dkL_5 : mv_dk code kc_Law_law_5 = true := by decide +kernel
set_option maxRecDepth 100000 in
theorem mv_dkL_6 : mv_dk code kc_Law_law_6 = true := by decide +kernel
set_option maxRecDepth 100000 in
theorem mv_dkL_7 : mv_dk code kc_Law_law_7 = true := by decide +kernel
set_option maxRecDepth 100000 in
theorem mv_dkL_8 : mv_dk code kc_Law_law_8 = true := by decide +kernel
set_option maxRecDepth 100000 in
theorem mv_dkL_9 : mv_dk code kc_Law_law_9 = true := by decide +kernel
set_option maxRecDepth 100000 in
theorem mv_dkL_10 : mv_dk code kc_Law_law_10 = true := by decide +kernel
set_option maxRecDepth 100000 in
theorem mv_dkL_11 : mv_dk code kc_Law_law_11 = true := by decide +kernel
set_option maxRecDepth 100000 in
theorem mv_dkL_12 : mv_dk code kc_Law_law_12 = true := by decide +kernel
set_option maxRecDepth 100000 in
theorem mv_dkL_13 : mv_dk code kc_Law_law_13 = true := by decide +kernel
set_option maxRecDepth 100000 in
theorem mv_dkL_14 : mv_dk code kc_Law_law_14 = true := by decide +kernel
set_option maxRecDepth 100000 in
theorem mv_dkL_15 : mv_dk code kc_Law_law_15 = true := by decide +kernel
set_option maxRecDepth 100000 in
theorem mv_dkL_16 : mv_dk code kc_Law_law_16 = true := by decide +kernel
set_option maxRecDepth 100000 in
theorem mv_dkL_17 : mv_dk code kc_Law_law_17 = true := by decide +kernel
set_option maxRecDepth 100000 in
theorem mv_dkL_18 : mv_dk code kc_Law_law_18 = true := by decide +kernel
set_option maxRecDepth 100000 in
theorem mv_dkL_19 : mv_dk code kc_Law_law_19 = true := by decide +kernel
set_option maxRecDepth 100000 in
theorem mv_dkL_20 : mv_dk code kc_Law_law_20 = true := by decide +kernel
set_option maxRecDepth 100000 in
theorem mv_dkL_21 : mv_dk code kc_Law_law_21 = true := by decide +kernel
set_option maxRecDepth 100000 in
theorem mv_dkL_22 : mv_dk code kc_Law_law_22 = true := by decide +kernel
set_option maxRecDepth 100000 in
theorem mv_dkL_23 : mv_dk code kc_Law_law_23 = true := by decide +kernel
set_option maxRecDepth 100000 in
theorem mv_dkL_24 : mv_dk code kc_Law_law_24 = true := by decide +kernel
set_option maxRecDepth 100000 in
theorem mv_dkL_25 : mv_dk code kc_Law_law_25 = true := by decide +kernel
set_option maxRecDepth 100000 in
theorem mv_dkL_26 : mv_dk code kc_Law_law_26 = true := by decide +kernel
set_option maxRecDepth 100000 in
theorem mv_dkL_27 : mv_dk code kc_Law_law_27 = true := by decide +kernel
set_option maxRecDepth 100000 in
theorem mv_dkL_28 : mv_dk code kc_Law_law_28 = true := by decide +kernel
set_option maxRecDepth 100000 in
theorem mv_dkL_29 : mv_dk code kc_Law_law_29 = true := by decide +kernel
set_option maxRecDepth 100000 in
theorem mv_dkL_30 : mv_dk code kc_Law_law_30 = true := by decide +kernel
theorem mv_dk_app (cc : ByteArray) (a b : mv_K) (ha : mv_dk cc a = true) (hb : mv_dk cc b = true) : mv_dk cc (a ++ b) = true := by simp only [mv_dk, List.all_append, Bool.and_eq_true] at *; exact ⟨ha, hb⟩
theorem mv_dk_205 : mv_dk (mv_by 205) (mv_m 205).1 = true := mv_dk_app _ _ _ mv_dkL_0 (mv_dk_app _ _ _ mv_dkL_1 (mv_dk_app _ _ _ mv_dkL_2 (mv_dk_app _ _ _ mv_dkL_3 (mv_dk_app _ _ _ mv_dkL_4 (mv_dk_app _ _ _ mv_dkL_5 (mv_dk_app _ _ _ mv_dkL_6 (mv_dk_app _ _ _ mv_dkL_7 (mv_dk_app _ _ _ mv_dkL_8 (mv_dk_app _ _ _ mv_dkL_9 (mv_dk_app _ _ _ mv_dkL_10 (mv_dk_app _ _ _ mv_dkL_11 (mv_dk_app _ _ _ mv_dkL_12 (mv_dk_app _ _ _ mv_dkL_13 (mv_dk_app _ _ _ mv_dkL_14 (mv_dk_app _ _ _ mv_dkL_15 (mv_dk_app _ _ _ mv_dkL_16 (mv_dk_app _ _ _ mv_dkL_17 (mv_dk_app _ _ _ mv_dkL_18 (mv_dk_app _ _ _ mv_dkL_19 (mv_dk_app _ _ _ mv_dkL_20 (mv_dk_app _ _ _ mv_dkL_21 (mv_dk_app _ _ _ mv_dkL_22 (mv_dk_app _ _ _ mv_dkL_23 (mv_dk_app _ _ _ mv_dkL_24 (mv_dk_app _ _ _ mv_dkL_25 (mv_dk_app _ _ _ mv_dkL_26 (mv_dk_app _ _ _ mv_dkL_27 (mv_dk_app _ _ _ mv_dkL_28 (mv_dk_app _ _ _ mv_dkL_29 mv_dkL_30)))))))))))))))))))))))))))))
