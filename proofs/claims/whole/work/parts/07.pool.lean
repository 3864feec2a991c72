set_option maxRecDepth 100000 in
theorem mv_pk0 : (List.range 206).all (fun y => mv_pz y (mv_m y).1 (mv_pp.getD y [])) = true := by decide +kernel
set_option maxRecDepth 100000 in
theorem mv_mk_0 : mv_mk 0 (mv_mp.getD 0 []) = true := by decide +kernel
set_option maxRecDepth 100000 in
theorem mv_mk_1 : mv_mk 1 (mv_mp.getD 1 []) = true := by decide +kernel
set_option maxRecDepth 100000 in
theorem mv_mk_2 : mv_mk 2 (mv_mp.getD 2 []) = true := by decide +kernel
set_option maxRecDepth 100000 in
theorem mv_mk_3 : mv_mk 3 (mv_mp.getD 3 []) = true := by decide +kernel
set_option maxRecDepth 100000 in
theorem mv_mk_4 : mv_mk 4 (mv_mp.getD 4 []) = true := by decide +kernel
set_option maxRecDepth 100000 in
theorem mv_mk_5 : mv_mk 5 (mv_mp.getD 5 []) = true := by decide +kernel
set_option maxRecDepth 100000 in
theorem mv_mk_6 : mv_mk 6 (mv_mp.getD 6 []) = true := by decide +kernel
set_option maxRecDepth 100000 in
theorem mv_mk_7 : mv_mk 7 (mv_mp.getD 7 []) = true := by decide +kernel
set_option maxRecDepth 100000 in
theorem mv_mk_8 : mv_mk 8 (mv_mp.getD 8 []) = true := by decide +kernel
set_option maxRecDepth 100000 in
theorem mv_mk_9 : mv_mk 9 (mv_mp.getD 9 []) = true := by decide +kernel
set_option maxRecDepth 100000 in
theorem mv_mk_10 : mv_mk 10 (mv_mp.getD 10 []) = true := by decide +kernel
set_option maxRecDepth 100000 in
theorem mv_mk_11 : mv_mk 11 (mv_mp.getD 11 []) = true := by decide +kernel
set_option maxRecDepth 100000 in
theorem mv_mk_12 : mv_mk 12 (mv_mp.getD 12 []) = true := by decide +kernel
set_option maxRecDepth 100000 in
theorem mv_mk_13 : mv_mk 13 (mv_mp.getD 13 []) = true := by decide +kernel
set_option maxRecDepth 100000 in
theorem mv_mk_14 : mv_mk 14 (mv_mp.getD 14 []) = true := by decide +kernel
set_option maxRecDepth 100000 in
theorem mv_mk_15 : mv_mk 15 (mv_mp.getD 15 []) = true := by decide +kernel
set_option maxRecDepth 100000 in
theorem mv_mk_16 : mv_mk 16 (mv_mp.getD 16 []) = true := by decide +kernel
set_option maxRecDepth 100000 in
theorem mv_mk_17 : mv_mk 17 (mv_mp.getD 17 []) = true := by decide +kernel
set_option maxRecDepth 100000 in
theorem mv_mk_18 : mv_mk 18 (mv_mp.getD 18 []) = true := by decide +kernel
set_option maxRecDepth 100000 in
theorem mv_mk_19 : mv_mk 19 (mv_mp.getD 19 []) = true := by decide +kernel
set_option maxRecDepth 100000 in
theorem mv_mk_20 : mv_mk 20 (mv_mp.getD 20 []) = true := by decide +kernel
set_option maxRecDepth 100000 in
theorem mv_mk_21 : mv_mk 21 (mv_mp.getD 21 []) = true := by decide +kernel
set_option maxRecDepth 100000 in
theorem mv_mk_22 : mv_mk 22 (mv_mp.getD 22 []) = true := by decide +kernel
set_option maxRecDepth 100000 in
theorem mv_mk_23 : mv_mk 23 (mv_mp.getD 23 []) = true := by decide +kernel
set_option maxRecDepth 100000 in
theorem mv_mk_24 : mv_mk 24 (mv_mp.getD 24 []) = true := by decide +kernel
set_option maxRecDepth 100000 in
theorem mv_mk_25 : mv_mk 25 (mv_mp.getD 25 []) = true := by decide +kernel
set_option maxRecDepth 100000 in
theorem mv_mk_26 : mv_mk 26 (mv_mp.getD 26 []) = true := by decide +kernel
set_option maxRecDepth 100000 in
theorem mv_mk_27 : mv_mk 27 (mv_mp.getD 27 []) = true := by decide +kernel
set_option maxRecDepth 100000 in
theorem mv_mk_28 : mv_mk 28 (mv_mp.getD 28 []) = true := by decide +kernel
set_option maxRecDepth 100000 in
theorem mv_mk_29 : mv_mk 29 (mv_mp.getD 29 []) = true := by decide +kernel
set_option maxRecDepth 100000 in
theorem mv_mk_30 : mv_mk 30 (mv_mp.getD 30 []) = true := by decide +kernel
set_option maxRecDepth 100000 in
theorem mv_mk_31 : mv_mk 31 (mv_mp.getD 31 []) = true := by decide +kernel
set_option maxRecDepth 100000 in
theorem mv_mk_32 : mv_mk 32 (mv_mp.getD 32 []) = true := by decide +kernel
set_option maxRecDepth 100000 in
theorem mv_mk_33 : mv_mk 33 (mv_mp.getD 33 []) = true := by decide +kernel
set_option maxRecDepth 100000 in
theorem mv_mk_34 : mv_mk 34 (mv_mp.getD 34 []) = true := by decide +kernel
set_option maxRecDepth 100000 in
theorem mv_mk_35 : mv_mk 35 (mv_mp.getD 35 []) = true := by decide +kernel
set_option maxRecDepth 100000 in
theorem mv_mk_36 : mv_mk 36 (mv_mp.getD 36 []) = true := by decide +kernel
set_option maxRecDepth 100000 in
theorem mv_mk_37 : mv_mk 37 (mv_mp.getD 37 []) = true := by decide +kernel
set_option maxRecDepth 100000 in
theorem mv_mk_38 : mv_mk 38 (mv_mp.getD 38 []) = true := by decide +kernel
set_option maxRecDepth 100000 in
theorem mv_mk_39 : mv_mk 39 (mv_mp.getD 39 []) = true := by decide +kernel
set_option maxRecDepth 100000 in
theorem mv_mk_40 : mv_mk 40 (mv_mp.getD 40 []) = true := by decide +kernel
set_option maxRecDepth 100000 in
theorem mv_mk_41 : mv_mk 41 (mv_mp.getD 41 []) = true := by decide +kernel
set_option maxRecDepth 100000 in
theorem mv_mk_42 : mv_mk 42 (mv_mp.getD 42 []) = true := by decide +kernel
set_option maxRecDepth 100000 in
theorem mv_mk_43 : mv_mk 43 (mv_mp.getD 43 []) = true := by decide +kernel
set_option maxRecDepth 100000 in
theorem mv_mk_44 : mv_mk 44 (mv_mp.getD 44 []) = true := by decide +kernel
set_option maxRecDepth 100000 in
theorem mv_mk_45 : mv_mk 45 (mv_mp.getD 45 []) = true := by decide +kernel
set_option maxRecDepth 100000 in
theorem mv_mk_46 : mv_mk 46 (mv_mp.getD 46 []) = true := by decide +kernel
set_option maxRecDepth 100000 in
theorem mv_mk_47 : mv_mk 47 (mv_mp.getD 47 []) = true := by decide +kernel
set_option maxRecDepth 100000 in
theorem mv_mk_48 : mv_mk 48 (mv_mp.getD 48 []) = true := by decide +kernel
set_option maxRecDepth 100000 in
theorem mv_mk_49 : mv_mk 49 (mv_mp.getD 49 []) = true := by decide +kernel
set_option maxRecDepth 100000 in
theorem mv_mk_50 : mv_mk 50 (mv_mp.getD 50 []) = true := by decide +kernel
set_option maxRecDepth 100000 in
theorem mv_mk_51 : mv_mk 51 (mv_mp.getD 51 []) = true := by decide +kernel
set_option maxRecDepth 100000 in
theorem mv_mk_52 : mv_mk 52 (mv_mp.getD 52 []) = true := by decide +kernel
set_option maxRecDepth 100000 in
theorem mv_mk_53 : mv_mk 53 (mv_mp.getD 53 []) = true := by decide +kernel
set_option maxRecDepth 100000 in
theorem mv_mk_54 : mv_mk 54 (mv_mp.getD 54 []) = true := by decide +kernel
set_option maxRecDepth 100000 in
theorem mv_mk_55 : mv_mk 55 (mv_mp.getD 55 []) = true := by decide +kernel
set_option maxRecDepth 100000 in
theorem mv_mk_56 : mv_mk 56 (mv_mp.getD 56 []) = true := by decide +kernel
set_option maxRecDepth 100000 in
theorem mv_mk_57 : mv_mk 57 (mv_mp.getD 57 []) = true := by decide +kernel
set_option maxRecDepth 100000 in
theorem mv_mk_58 : mv_mk 58 (mv_mp.getD 58 []) = true := by decide +kernel
set_option maxRecDepth 100000 in
theorem mv_mk_59 : mv_mk 59 (mv_mp.getD 59 []) = true := by decide +kernel
set_option maxRecDepth 100000 in
theorem mv_mk_60 : mv_mk 60 (mv_mp.getD 60 []) = true := by decide +kernel
set_option maxRecDepth 100000 in
theorem mv_mk_61 : mv_mk 61 (mv_mp.getD 61 []) = true := by decide +kernel
set_option maxRecDepth 100000 in
theorem mv_mk_62 : mv_mk 62 (mv_mp.getD 62 []) = true := by decide +kernel
set_option maxRecDepth 100000 in
theorem mv_mk_63 : mv_mk 63 (mv_mp.getD 63 []) = true := by decide +kernel
set_option maxRecDepth 100000 in
theorem mv_mk_64 : mv_mk 64 (mv_mp.getD 64 []) = true := by decide +kernel
set_option maxRecDepth 100000 in
theorem mv_mk_65 : mv_mk 65 (mv_mp.getD 65 []) = true := by decide +kernel
set_option maxRecDepth 100000 in
theorem mv_mk_66 : mv_mk 66 (mv_mp.getD 66 []) = true := by decide +kernel
set_option maxRecDepth 100000 in
theorem mv_mk_67 : mv_mk 67 (mv_mp.getD 67 []) = true := by decide +kernel
set_option maxRecDepth 100000 in
theorem mv_mk_68 : mv_mk 68 (mv_mp.getD 68 []) = true := by decide +kernel
set_option maxRecDepth 100000 in
theorem mv_mk_69 : mv_mk 69 (mv_mp.getD 69 []) = true := by decide +kernel
set_option maxRecDepth 100000 in
theorem mv_mk_70 : mv_mk 70 (mv_mp.getD 70 []) = true := by decide +kernel
set_option maxRecDepth 100000 in
theorem mv_mk_71 : mv_mk 71 (mv_mp.getD 71 []) = true := by decide +kernel
set_option maxRecDepth 100000 in
theorem mv_mk_72 : mv_mk 72 (mv_mp.getD 72 []) = true := by decide +kernel
set_option maxRecDepth 100000 in
theorem mv_mk_73 : mv_mk 73 (mv_mp.getD 73 []) = true := by decide +kernel
set_option maxRecDepth 100000 in
theorem mv_mk_74 : mv_mk 74 (mv_mp.getD 74 []) = true := by decide +kernel
set_option maxRecDepth 100000 in
theorem mv_mk_75 : mv_mk 75 (mv_mp.getD 75 []) = true := by decide +kernel
set_option maxRecDepth 100000 in
theorem mv_mk_76 : mv_mk 76 (mv_mp.getD 76 []) = true := by decide +kernel
set_option maxRecDepth 100000 in
theorem mv_mk_77 : mv_mk 77 (mv_mp.getD 77 []) = true := by decide +kernel
set_option maxRecDepth 100000 in
theorem mv_mk_78 : mv_mk 78 (mv_mp.getD 78 []) = true := by decide +kernel
set_option maxRecDepth 100000 in
theorem mv_mk_79 : mv_mk 79 (mv_mp.getD 79 []) = true := by decide +kernel
set_option maxRecDepth 100000 in
theorem mv_mk_80 : mv_mk 80 (mv_mp.getD 80 []) = true := by decide +kernel
set_option maxRecDepth 100000 in
theorem mv_mk_81 : mv_mk 81 (mv_mp.getD 81 []) = true := by decide +kernel
set_option maxRecDepth 100000 in
theorem mv_mk_82 : mv_mk 82 (mv_mp.getD 82 []) = true := by decide +kernel
set_option maxRecDepth 100000 in
theorem mv_mk_83 : mv_mk 83 (mv_mp.getD 83 []) = true := by decide +kernel
set_option maxRecDepth 100000 in
theorem mv_mk_84 : mv_mk 84 (mv_mp.getD 84 []) = true := by decide +kernel
set_option maxRecDepth 100000 in
theorem mv_mk_85 : mv_mk 85 (mv_mp.getD 85 []) = true := by decide +kernel
set_option maxRecDepth 100000 in
theorem mv_mk_86 : mv_mk 86 (mv_mp.getD 86 []) = true := by decide +kernel
set_option maxRecDepth 100000 in
theorem mv_mk_87 : mv_mk 87 (mv_mp.getD 87 []) = true := by decide +kernel
set_option maxRecDepth 100000 in
theorem mv_mk_88 : mv_mk 88 (mv_mp.getD 88 []) = true := by decide +kernel
set_option maxRecDepth 100000 in
theorem mv_mk_89 : mv_mk 89 (mv_mp.getD 89 []) = true := by decide +kernel
set_option maxRecDepth 100000 in
theorem mv_mk_90 : mv_mk 90 (mv_mp.getD 90 []) = true := by decide +kernel
set_option maxRecDepth 100000 in
theorem mv_mk_91 : mv_mk 91 (mv_mp.getD 91 []) = true := by decide +kernel
set_option maxRecDepth 100000 in
theorem mv_mk_92 : mv_mk 92 (mv_mp.getD 92 []) = true := by decide +kernel
set_option maxRecDepth 100000 in
theorem mv_mk_93 : mv_mk 93 (mv_mp.getD 93 []) = true := by decide +kernel
set_option maxRecDepth 100000 in
theorem mv_mk_94 : mv_mk 94 (mv_mp.getD 94 []) = true := by decide +kernel
set_option maxRecDepth 100000 in
theorem mv_mk_95 : mv_mk 95 (mv_mp.getD 95 []) = true := by decide +kernel
set_option maxRecDepth 100000 in
theorem mv_mk_96 : mv_mk 96 (mv_mp.getD 96 []) = true := by decide +kernel
set_option maxRecDepth 100000 in
theorem mv_mk_97 : mv_mk 97 (mv_mp.getD 97 []) = true := by decide +kernel
set_option maxRecDepth 100000 in
theorem mv_mk_98 : mv_mk 98 (mv_mp.getD 98 []) = true := by decide +kernel
set_option maxRecDepth 100000 in
theorem mv_mk_99 : mv_mk 99 (mv_mp.getD 99 []) = true := by decide +kernel
set_option maxRecDepth 100000 in
theorem mv_mk_100 : mv_mk 100 (mv_mp.getD 100 []) = true := by decide +kernel
set_option maxRecDepth 100000 in
theorem mv_mk_101 : mv_mk 101 (mv_mp.getD 101 []) = true := by decide +kernel
set_option maxRecDepth 100000 in
theorem mv_mk_102 : mv_mk 102 (mv_mp.getD 102 []) = true := by decide +kernel
set_option maxRecDepth 100000 in
theorem mv_mk_103 : mv_mk 103 (mv_mp.getD 103 []) = true := by decide +kernel
set_option maxRecDepth 100000 in
theorem mv_mk_104 : mv_mk 104 (mv_mp.getD 104 []) = true := by decide +kernel
set_option maxRecDepth 100000 in
theorem mv_mk_105 : mv_mk 105 (mv_mp.getD 105 []) = true := by decide +kernel
set_option maxRecDepth 100000 in
theorem mv_mk_106 : mv_mk 106 (mv_mp.getD 106 []) = true := by decide +kernel
set_option maxRecDepth 100000 in
theorem mv_mk_107 : mv_mk 107 (mv_mp.getD 107 []) = true := by decide +kernel
set_option maxRecDepth 100000 in
theorem mv_mk_108 : mv_mk 108 (mv_mp.getD 108 []) = true := by decide +kernel
set_option maxRecDepth 100000 in
theorem mv_mk_109 : mv_mk 109 (mv_mp.getD 109 []) = true := by decide +kernel
set_option maxRecDepth 100000 in
theorem mv_mk_110 : mv_mk 110 (mv_mp.getD 110 []) = true := by decide +kernel
set_option maxRecDepth 100000 in
theorem mv_mk_111 : mv_mk 111 (mv_mp.getD 111 []) = true := by decide +kernel
set_option maxRecDepth 100000 in
theorem mv_mk_112 : mv_mk 112 (mv_mp.getD 112 []) = true := by decide +kernel
set_option maxRecDepth 100000 in
theorem mv_mk_113 : mv_mk 113 (mv_mp.getD 113 []) = true := by decide +kernel
set_option maxRecDepth 100000 in
theorem mv_mk_114 : mv_mk 114 (mv_mp.getD 114 []) = true := by decide +kernel
set_option maxRecDepth 100000 in
theorem mv_mk_115 : mv_mk 115 (mv_mp.getD 115 []) = true := by decide +kernel
set_option maxRecDepth 100000 in
theorem mv_mk_116 : mv_mk 116 (mv_mp.getD 116 []) = true := by decide +kernel
set_option maxRecDepth 100000 in
theorem mv_mk_117 : mv_mk 117 (mv_mp.getD 117 []) = true := by decide +kernel
set_option maxRecDepth 100000 in
theorem mv_mk_118 : mv_mk 118 (mv_mp.getD 118 []) = true := by decide +kernel
set_option maxRecDepth 100000 in
theorem mv_mk_119 : mv_mk 119 (mv_mp.getD 119 []) = true := by decide +kernel
set_option maxRecDepth 100000 in
theorem mv_mk_120 : mv_mk 120 (mv_mp.getD 120 []) = true := by decide +kernel
set_option maxRecDepth 100000 in
theorem mv_mk_121 : mv_mk 121 (mv_mp.getD 121 []) = true := by decide +kernel
set_option maxRecDepth 100000 in
theorem mv_mk_122 : mv_mk 122 (mv_mp.getD 122 []) = true := by decide +kernel
set_option maxRecDepth 100000 in
theorem mv_mk_123 : mv_mk 123 (mv_mp.getD 123 []) = true := by decide +kernel
set_option maxRecDepth 100000 in
theorem mv_mk_124 : mv_mk 124 (mv_mp.getD 124 []) = true := by decide +kernel
set_option maxRecDepth 100000 in
theorem mv_mk_125 : mv_mk 125 (mv_mp.getD 125 []) = true := by decide +kernel
set_option maxRecDepth 100000 in
theorem mv_mk_126 : mv_mk 126 (mv_mp.getD 126 []) = true := by decide +kernel
set_option maxRecDepth 100000 in
theorem mv_mk_127 : mv_mk 127 (mv_mp.getD 127 []) = true := by decide +kernel
set_option maxRecDepth 100000 in
theorem mv_mk_128 : mv_mk 128 (mv_mp.getD 128 []) = true := by decide +kernel
set_option maxRecDepth 100000 in
theorem mv_mk_129 : mv_mk 129 (mv_mp.getD 129 []) = true := by decide +kernel
set_option maxRecDepth 100000 in
theorem mv_mk_130 : mv_mk 130 (mv_mp.getD 130 []) = true := by decide +kernel
set_option maxRecDepth 100000 in
theorem mv_mk_131 : mv_mk 131 (mv_mp.getD 131 []) = true := by decide +kernel
set_option maxRecDepth 100000 in
theorem mv_mk_132 : mv_mk 132 (mv_mp.getD 132 []) = true := by decide +kernel
set_option maxRecDepth 100000 in
theorem mv_mk_133 : mv_mk 133 (mv_mp.getD 133 []) = true := by decide +kernel
set_option maxRecDepth 100000 in
theorem mv_mk_134 : mv_mk 134 (mv_mp.getD 134 []) = true := by decide +kernel
set_option maxRecDepth 100000 in
theorem mv_mk_135 : mv_mk 135 (mv_mp.getD 135 []) = true := by decide +kernel
set_option maxRecDepth 100000 in
theorem mv_mk_136 : mv_mk 136 (mv_mp.getD 136 []) = true := by decide +kernel
set_option maxRecDepth 100000 in
theorem mv_mk_137 : mv_mk 137 (mv_mp.getD 137 []) = true := by decide +kernel
set_option maxRecDepth 100000 in
theorem mv_mk_138 : mv_mk 138 (mv_mp.getD 138 []) = true := by decide +kernel
set_option maxRecDepth 100000 in
theorem mv_mk_139 : mv_mk 139 (mv_mp.getD 139 []) = true := by decide +kernel
set_option maxRecDepth 100000 in
theorem mv_mk_140 : mv_mk 140 (mv_mp.getD 140 []) = true := by decide +kernel
set_option maxRecDepth 100000 in
theorem mv_mk_141 : mv_mk 141 (mv_mp.getD 141 []) = true := by decide +kernel
set_option maxRecDepth 100000 in
theorem mv_mk_142 : mv_mk 142 (mv_mp.getD 142 []) = true := by decide +kernel
set_option maxRecDepth 100000 in
theorem mv_mk_143 : mv_mk 143 (mv_mp.getD 143 []) = true := by decide +kernel
set_option maxRecDepth 100000 in
theorem mv_mk_144 : mv_mk 144 (mv_mp.getD 144 []) = true := by decide +kernel
set_option maxRecDepth 100000 in
theorem mv_mk_145 : mv_mk 145 (mv_mp.getD 145 []) = true := by decide +kernel
set_option maxRecDepth 100000 in
theorem mv_mk_146 : mv_mk 146 (mv_mp.getD 146 []) = true := by decide +kernel
set_option maxRecDepth 100000 in
theorem mv_mk_147 : mv_mk 147 (mv_mp.getD 147 []) = true := by decide +kernel
set_option maxRecDepth 100000 in
theorem mv_mk_148 : mv_mk 148 (mv_mp.getD 148 []) = true := by decide +kernel
set_option maxRecDepth 100000 in
theorem mv_mk_149 : mv_mk 149 (mv_mp.getD 149 []) = true := by decide +kernel
set_option maxRecDepth 100000 in
theorem mv_mk_150 : mv_mk 150 (mv_mp.getD 150 []) = true := by decide +kernel
set_option maxRecDepth 100000 in
theorem mv_mk_151 : mv_mk 151 (mv_mp.getD 151 []) = true := by decide +kernel
set_option maxRecDepth 100000 in
theorem mv_mk_152 : mv_mk 152 (mv_mp.getD 152 []) = true := by decide +kernel
set_option maxRecDepth 100000 in
theorem mv_mk_153 : mv_mk 153 (mv_mp.getD 153 []) = true := by decide +kernel
set_option maxRecDepth 100000 in
theorem mv_mk_154 : mv_mk 154 (mv_mp.getD 154 []) = true := by decide +kernel
set_option maxRecDepth 100000 in
theorem mv_mk_155 : mv_mk 155 (mv_mp.getD 155 []) = true := by decide +kernel
set_option maxRecDepth 100000 in
theorem mv_mk_156 : mv_mk 156 (mv_mp.getD 156 []) = true := by decide +kernel
set_option maxRecDepth 100000 in
theorem mv_mk_157 : mv_mk 157 (mv_mp.getD 157 []) = true := by decide +kernel
set_option maxRecDepth 100000 in
theorem mv_mk_158 : mv_mk 158 (mv_mp.getD 158 []) = true := by decide +kernel
set_option maxRecDepth 100000 in
theorem mv_mk_159 : mv_mk 159 (mv_mp.getD 159 []) = true := by decide +kernel
set_option maxRecDepth 100000 in
theorem mv_mk_160 : mv_mk 160 (mv_mp.getD 160 []) = true := by decide +kernel
set_option maxRecDepth 100000 in
theorem mv_mk_161 : mv_mk 161 (mv_mp.getD 161 []) = true := by decide +kernel
set_option maxRecDepth 100000 in
theorem mv_mk_162 : mv_mk 162 (mv_mp.getD 162 []) = true := by decide +kernel
set_option maxRecDepth 100000 in
theorem mv_mk_163 : mv_mk 163 (mv_mp.getD 163 []) = true := by decide +kernel
set_option maxRecDepth 100000 in
theorem mv_mk_164 : mv_mk 164 (mv_mp.getD 164 []) = true := by decide +kernel
set_option maxRecDepth 100000 in
theorem mv_mk_165 : mv_mk 165 (mv_mp.getD 165 []) = true := by decide +kernel
set_option maxRecDepth 100000 in
theorem mv_mk_166 : mv_mk 166 (mv_mp.getD 166 []) = true := by decide +kernel
set_option maxRecDepth 100000 in
theorem mv_mk_167 : mv_mk 167 (mv_mp.getD 167 []) = true := by decide +kernel
set_option maxRecDepth 100000 in
theorem mv_mk_168 : mv_mk 168 (mv_mp.getD 168 []) = true := by decide +kernel
set_option maxRecDepth 100000 in
theorem mv_mk_169 : mv_mk 169 (mv_mp.getD 169 []) = true := by decide +kernel
set_option maxRecDepth 100000 in
theorem mv_mk_170 : mv_mk 170 (mv_mp.getD 170 []) = true := by decide +kernel
set_option maxRecDepth 100000 in
theorem mv_mk_171 : mv_mk 171 (mv_mp.getD 171 []) = true := by decide +kernel
set_option maxRecDepth 100000 in
theorem mv_mk_172 : mv_mk 172 (mv_mp.getD 172 []) = true := by decide +kernel
set_option maxRecDepth 100000 in
theorem mv_mk_173 : mv_mk 173 (mv_mp.getD 173 []) = true := by decide +kernel
set_option maxRecDepth 100000 in
theorem mv_mk_174 : mv_mk 174 (mv_mp.getD 174 []) = true := by decide +kernel
set_option maxRecDepth 100000 in
theorem mv_mk_175 : mv_mk 175 (mv_mp.getD 175 []) = true := by decide +kernel
set_option maxRecDepth 100000 in
theorem mv_mk_176 : mv_mk 176 (mv_mp.getD 176 []) = true := by decide +kernel
set_option maxRecDepth 100000 in
theorem mv_mk_177 : mv_mk 177 (mv_mp.getD 177 []) = true := by decide +kernel
set_option maxRecDepth 100000 in
theorem mv_mk_178 : mv_mk 178 (mv_mp.getD 178 []) = true := by decide +kernel
set_option maxRecDepth 100000 in
theorem mv_mk_179 : mv_mk 179 (mv_mp.getD 179 []) = true := by decide +kernel
set_option maxRecDepth 100000 in
theorem mv_mk_180 : mv_mk 180 (mv_mp.getD 180 []) = true := by decide +kernel
set_option maxRecDepth 100000 in
theorem mv_mk_181 : mv_mk 181 (mv_mp.getD 181 []) = true := by decide +kernel
set_option maxRecDepth 100000 in
theorem mv_mk_182 : mv_mk 182 (mv_mp.getD 182 []) = true := by decide +kernel
set_option maxRecDepth 100000 in
theorem mv_mk_183 : mv_mk 183 (mv_mp.getD 183 []) = true := by decide +kernel
set_option maxRecDepth 100000 in
theorem mv_mk_184 : mv_mk 184 (mv_mp.getD 184 []) = true := by decide +kernel
set_option maxRecDepth 100000 in
theorem mv_mk_185 : mv_mk 185 (mv_mp.getD 185 []) = true := by decide +kernel
set_option maxRecDepth 100000 in
theorem mv_mk_186 : mv_mk 186 (mv_mp.getD 186 []) = true := by decide +kernel
set_option maxRecDepth 100000 in
theorem mv_mk_187 : mv_mk 187 (mv_mp.getD 187 []) = true := by decide +kernel
set_option maxRecDepth 100000 in
theorem mv_mk_188 : mv_mk 188 (mv_mp.getD 188 []) = true := by decide +kernel
set_option maxRecDepth 100000 in
theorem mv_mk_189 : mv_mk 189 (mv_mp.getD 189 []) = true := by decide +kernel
set_option maxRecDepth 100000 in
theorem mv_mk_190 : mv_mk 190 (mv_mp.getD 190 []) = true := by decide +kernel
set_option maxRecDepth 100000 in
theorem mv_mk_191 : mv_mk 191 (mv_mp.getD 191 []) = true := by decide +kernel
set_option maxRecDepth 100000 in
theorem mv_mk_192 : mv_mk 192 (mv_mp.getD 192 []) = true := by decide +kernel
set_option maxRecDepth 100000 in
theorem mv_mk_193 : mv_mk 193 (mv_mp.getD 193 []) = true := by decide +kernel
set_option maxRecDepth 100000 in
theorem mv_mk_194 : mv_mk 194 (mv_mp.getD 194 []) = true := by decide +kernel
set_option maxRecDepth 100000 in
theorem mv_mk_195 : mv_mk 195 (mv_mp.getD 195 []) = true := by decide +kernel
set_option maxRecDepth 100000 in
theorem mv_mk_196 : mv_mk 196 (mv_mp.getD 196 []) = true := by decide +kernel
set_option maxRecDepth 100000 in
theorem mv_mk_197 : mv_mk 197 (mv_mp.getD 197 []) = true := by decide +kernel
set_option maxRecDepth 100000 in
theorem mv_mk_198 : mv_mk 198 (mv_mp.getD 198 []) = true := by decide +kernel
set_option maxRecDepth 100000 in
theorem mv_mk_199 : mv_mk 199 (mv_mp.getD 199 []) = true := by decide +kernel
set_option maxRecDepth 100000 in
theorem mv_mk_200 : mv_mk 200 (mv_mp.getD 200 []) = true := by decide +kernel
set_option maxRecDepth 100000 in
theorem mv_mk_201 : mv_mk 201 (mv_mp.getD 201 []) = true := by decide +kernel
set_option maxRecDepth 100000 in
theorem mv_mk_202 : mv_mk 202 (mv_mp.getD 202 []) = true := by decide +kernel
set_option maxRecDepth 100000 in
theorem mv_mk_203 : mv_mk 203 (mv_mp.getD 203 []) = true := by decide +kernel
set_option maxRecDepth 100000 in
theorem mv_mk_204 : mv_mk 204 (mv_mp.getD 204 []) = true := by decide +kernel
set_option maxRecDepth 100000 in
theorem mv_mk_205 : mv_mk 205 (mv_mp.getD 205 []) = true := by decide +kernel
