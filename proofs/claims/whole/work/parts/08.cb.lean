set_option maxRecDepth 100000 in
theorem cb_0 : chkB 0 (am_code 0) = true := by decide +kernel
set_option maxRecDepth 100000 in
theorem cb_1 : chkB 1 (am_code 1) = true := by decide +kernel
set_option maxRecDepth 100000 in
theorem cb_2 : chkB 2 (am_code 2) = true := by decide +kernel
set_option maxRecDepth 100000 in
theorem cb_3 : chkB 3 (am_code 3) = true := by decide +kernel
set_option maxRecDepth 100000 in
theorem cb_4 : chkB 4 (am_code 4) = true := by decide +kernel
set_option maxRecDepth 100000 in
theorem cb_5 : chkB 5 (am_code 5) = true := by decide +kernel
set_option maxRecDepth 100000 in
theorem cb_6 : chkB 6 (am_code 6) = true := by decide +kernel
set_option maxRecDepth 100000 in
theorem cb_7 : chkB 7 (am_code 7) = true := by decide +kernel
set_option maxRecDepth 100000 in
theorem cb_8 : chkB 8 (am_code 8) = true := by decide +kernel
set_option maxRecDepth 100000 in
theorem cb_9 : chkB 9 (am_code 9) = true := by decide +kernel
set_option maxRecDepth 100000 in
theorem cb_10 : chkB 10 (am_code 10) = true := by decide +kernel
set_option maxRecDepth 100000 in
theorem cb_11 : chkB 11 (am_code 11) = true := by decide +kernel
set_option maxRecDepth 100000 in
theorem cb_12 : chkB 12 (am_code 12) = true := by decide +kernel
set_option maxRecDepth 100000 in
theorem cb_13 : chkB 13 (am_code 13) = true := by decide +kernel
set_option maxRecDepth 100000 in
theorem cb_14 : chkB 14 (am_code 14) = true := by decide +kernel
set_option maxRecDepth 100000 in
theorem cb_15 : chkB 15 (am_code 15) = true := by decide +kernel
set_option maxRecDepth 100000 in
theorem cb_16 : chkB 16 (am_code 16) = true := by decide +kernel
set_option maxRecDepth 100000 in
theorem cb_17 : chkB 17 (am_code 17) = true := by decide +kernel
set_option maxRecDepth 100000 in
theorem cb_18 : chkB 18 (am_code 18) = true := by decide +kernel
set_option maxRecDepth 100000 in
theorem cb_19 : chkB 19 (am_code 19) = true := by decide +kernel
set_option maxRecDepth 100000 in
theorem cb_20 : chkB 20 (am_code 20) = true := by decide +kernel
set_option maxRecDepth 100000 in
theorem cb_21 : chkB 21 (am_code 21) = true := by decide +kernel
set_option maxRecDepth 100000 in
theorem cb_22 : chkB 22 (am_code 22) = true := by decide +kernel
set_option maxRecDepth 100000 in
theorem cb_23 : chkB 23 (am_code 23) = true := by decide +kernel
set_option maxRecDepth 100000 in
theorem cb_24 : chkB 24 (am_code 24) = true := by decide +kernel
set_option maxRecDepth 100000 in
theorem cb_25 : chkB 25 (am_code 25) = true := by decide +kernel
set_option maxRecDepth 100000 in
theorem cb_26 : chkB 26 (am_code 26) = true := by decide +kernel
set_option maxRecDepth 100000 in
theorem cb_27 : chkB 27 (am_code 27) = true := by decide +kernel
set_option maxRecDepth 100000 in
theorem cb_28 : chkB 28 (am_code 28) = true := by decide +kernel
set_option maxRecDepth 100000 in
theorem cb_29 : chkB 29 (am_code 29) = true := by decide +kernel
set_option maxRecDepth 100000 in
theorem cb_30 : chkB 30 (am_code 30) = true := by decide +kernel
set_option maxRecDepth 100000 in
theorem cb_31 : chkB 31 (am_code 31) = true := by decide +kernel
set_option maxRecDepth 100000 in
theorem cb_32 : chkB 32 (am_code 32) = true := by decide +kernel
set_option maxRecDepth 100000 in
theorem cb_33 : chkB 33 (am_code 33) = true := by decide +kernel
set_option maxRecDepth 100000 in
theorem cb_34 : chkB 34 (am_code 34) = true := by decide +kernel
set_option maxRecDepth 100000 in
theorem cb_35 : chkB 35 (am_code 35) = true := by decide +kernel
set_option maxRecDepth 100000 in
theorem cb_36 : chkB 36 (am_code 36) = true := by decide +kernel
set_option maxRecDepth 100000 in
theorem cb_37 : chkB 37 (am_code 37) = true := by decide +kernel
set_option maxRecDepth 100000 in
theorem cb_38 : chkB 38 (am_code 38) = true := by decide +kernel
set_option maxRecDepth 100000 in
theorem cb_39 : chkB 39 (am_code 39) = true := by decide +kernel
set_option maxRecDepth 100000 in
theorem cb_40 : chkB 40 (am_code 40) = true := by decide +kernel
set_option maxRecDepth 100000 in
theorem cb_41 : chkB 41 (am_code 41) = true := by decide +kernel
set_option maxRecDepth 100000 in
theorem cb_42 : chkB 42 (am_code 42) = true := by decide +kernel
set_option maxRecDepth 100000 in
theorem cb_43 : chkB 43 (am_code 43) = true := by decide +kernel
set_option maxRecDepth 100000 in
theorem cb_44 : chkB 44 (am_code 44) = true := by decide +kernel
set_option maxRecDepth 100000 in
theorem cb_45 : chkB 45 (am_code 45) = true := by decide +kernel
set_option maxRecDepth 100000 in
theorem cb_46 : chkB 46 (am_code 46) = true := by decide +kernel
set_option maxRecDepth 100000 in
theorem cb_47 : chkB 47 (am_code 47) = true := by decide +kernel
set_option maxRecDepth 100000 in
theorem cb_48 : chkB 48 (am_code 48) = true := by decide +kernel
set_option maxRecDepth 100000 in
theorem cb_49 : chkB 49 (am_code 49) = true := by decide +kernel
set_option maxRecDepth 100000 in
theorem cb_50 : chkB 50 (am_code 50) = true := by decide +kernel
set_option maxRecDepth 100000 in
theorem cb_51 : chkB 51 (am_code 51) = true := by decide +kernel
set_option maxRecDepth 100000 in
theorem cb_52 : chkB 52 (am_code 52) = true := by decide +kernel
set_option maxRecDepth 100000 in
theorem cb_53 : chkB 53 (am_code 53) = true := by decide +kernel
set_option maxRecDepth 100000 in
theorem cb_54 : chkB 54 (am_code 54) = true := by decide +kernel
set_option maxRecDepth 100000 in
theorem cb_55 : chkB 55 (am_code 55) = true := by decide +kernel
set_option maxRecDepth 100000 in
theorem cb_56 : chkB 56 (am_code 56) = true := by decide +kernel
set_option maxRecDepth 100000 in
theorem cb_57 : chkB 57 (am_code 57) = true := by decide +kernel
set_option maxRecDepth 100000 in
theorem cb_58 : chkB 58 (am_code 58) = true := by decide +kernel
set_option maxRecDepth 100000 in
theorem cb_59 : chkB 59 (am_code 59) = true := by decide +kernel
set_option maxRecDepth 100000 in
theorem cb_60 : chkB 60 (am_code 60) = true := by decide +kernel
set_option maxRecDepth 100000 in
theorem cb_61 : chkB 61 (am_code 61) = true := by decide +kernel
set_option maxRecDepth 100000 in
theorem cb_62 : chkB 62 (am_code 62) = true := by decide +kernel
set_option maxRecDepth 100000 in
theorem cb_63 : chkB 63 (am_code 63) = true := by decide +kernel
set_option maxRecDepth 100000 in
theorem cb_64 : chkB 64 (am_code 64) = true := by decide +kernel
set_option maxRecDepth 100000 in
theorem cb_65 : chkB 65 (am_code 65) = true := by decide +kernel
set_option maxRecDepth 100000 in
theorem cb_66 : chkB 66 (am_code 66) = true := by decide +kernel
set_option maxRecDepth 100000 in
theorem cb_67 : chkB 67 (am_code 67) = true := by decide +kernel
set_option maxRecDepth 100000 in
theorem cb_68 : chkB 68 (am_code 68) = true := by decide +kernel
set_option maxRecDepth 100000 in
theorem cb_69 : chkB 69 (am_code 69) = true := by decide +kernel
set_option maxRecDepth 100000 in
theorem cb_70 : chkB 70 (am_code 70) = true := by decide +kernel
set_option maxRecDepth 100000 in
theorem cb_71 : chkB 71 (am_code 71) = true := by decide +kernel
set_option maxRecDepth 100000 in
theorem cb_72 : chkB 72 (am_code 72) = true := by decide +kernel
set_option maxRecDepth 100000 in
theorem cb_73 : chkB 73 (am_code 73) = true := by decide +kernel
set_option maxRecDepth 100000 in
theorem cb_74 : chkB 74 (am_code 74) = true := by decide +kernel
set_option maxRecDepth 100000 in
theorem cb_75 : chkB 75 (am_code 75) = true := by decide +kernel
set_option maxRecDepth 100000 in
theorem cb_76 : chkB 76 (am_code 76) = true := by decide +kernel
set_option maxRecDepth 100000 in
theorem cb_77 : chkB 77 (am_code 77) = true := by decide +kernel
set_option maxRecDepth 100000 in
theorem cb_78 : chkB 78 (am_code 78) = true := by decide +kernel
set_option maxRecDepth 100000 in
theorem cb_79 : chkB 79 (am_code 79) = true := by decide +kernel
set_option maxRecDepth 100000 in
theorem cb_80 : chkB 80 (am_code 80) = true := by decide +kernel
set_option maxRecDepth 100000 in
theorem cb_81 : chkB 81 (am_code 81) = true := by decide +kernel
set_option maxRecDepth 100000 in
theorem cb_82 : chkB 82 (am_code 82) = true := by decide +kernel
set_option maxRecDepth 100000 in
theorem cb_83 : chkB 83 (am_code 83) = true := by decide +kernel
set_option maxRecDepth 100000 in
theorem cb_84 : chkB 84 (am_code 84) = true := by decide +kernel
set_option maxRecDepth 100000 in
theorem cb_85 : chkB 85 (am_code 85) = true := by decide +kernel
set_option maxRecDepth 100000 in
theorem cb_86 : chkB 86 (am_code 86) = true := by decide +kernel
set_option maxRecDepth 100000 in
theorem cb_87 : chkB 87 (am_code 87) = true := by decide +kernel
set_option maxRecDepth 100000 in
theorem cb_88 : chkB 88 (am_code 88) = true := by decide +kernel
set_option maxRecDepth 100000 in
theorem cb_89 : chkB 89 (am_code 89) = true := by decide +kernel
set_option maxRecDepth 100000 in
theorem cb_90 : chkB 90 (am_code 90) = true := by decide +kernel
set_option maxRecDepth 100000 in
theorem cb_91 : chkB 91 (am_code 91) = true := by decide +kernel
set_option maxRecDepth 100000 in
theorem cb_92 : chkB 92 (am_code 92) = true := by decide +kernel
set_option maxRecDepth 100000 in
theorem cb_93 : chkB 93 (am_code 93) = true := by decide +kernel
set_option maxRecDepth 100000 in
theorem cb_94 : chkB 94 (am_code 94) = true := by decide +kernel
set_option maxRecDepth 100000 in
theorem cb_95 : chkB 95 (am_code 95) = true := by decide +kernel
set_option maxRecDepth 100000 in
theorem cb_96 : chkB 96 (am_code 96) = true := by decide +kernel
set_option maxRecDepth 100000 in
theorem cb_97 : chkB 97 (am_code 97) = true := by decide +kernel
set_option maxRecDepth 100000 in
theorem cb_98 : chkB 98 (am_code 98) = true := by decide +kernel
set_option maxRecDepth 100000 in
theorem cb_99 : chkB 99 (am_code 99) = true := by decide +kernel
set_option maxRecDepth 100000 in
theorem cb_100 : chkB 100 (am_code 100) = true := by decide +kernel
set_option maxRecDepth 100000 in
theorem cb_101 : chkB 101 (am_code 101) = true := by decide +kernel
set_option maxRecDepth 100000 in
theorem cb_102 : chkB 102 (am_code 102) = true := by decide +kernel
set_option maxRecDepth 100000 in
theorem cb_103 : chkB 103 (am_code 103) = true := by decide +kernel
set_option maxRecDepth 100000 in
theorem cb_104 : chkB 104 (am_code 104) = true := by decide +kernel
set_option maxRecDepth 100000 in
theorem cb_105 : chkB 105 (am_code 105) = true := by decide +kernel
set_option maxRecDepth 100000 in
theorem cb_106 : chkB 106 (am_code 106) = true := by decide +kernel
set_option maxRecDepth 100000 in
theorem cb_107 : chkB 107 (am_code 107) = true := by decide +kernel
set_option maxRecDepth 100000 in
theorem cb_108 : chkB 108 (am_code 108) = true := by decide +kernel
set_option maxRecDepth 100000 in
theorem cb_109 : chkB 109 (am_code 109) = true := by decide +kernel
set_option maxRecDepth 100000 in
theorem cb_110 : chkB 110 (am_code 110) = true := by decide +kernel
set_option maxRecDepth 100000 in
theorem cb_111 : chkB 111 (am_code 111) = true := by decide +kernel
set_option maxRecDepth 100000 in
theorem cb_112 : chkB 112 (am_code 112) = true := by decide +kernel
set_option maxRecDepth 100000 in
theorem cb_113 : chkB 113 (am_code 113) = true := by decide +kernel
set_option maxRecDepth 100000 in
theorem cb_114 : chkB 114 (am_code 114) = true := by decide +kernel
set_option maxRecDepth 100000 in
theorem cb_115 : chkB 115 (am_code 115) = true := by decide +kernel
set_option maxRecDepth 100000 in
theorem cb_116 : chkB 116 (am_code 116) = true := by decide +kernel
set_option maxRecDepth 100000 in
theorem cb_117 : chkB 117 (am_code 117) = true := by decide +kernel
set_option maxRecDepth 100000 in
theorem cb_118 : chkB 118 (am_code 118) = true := by decide +kernel
set_option maxRecDepth 100000 in
theorem cb_119 : chkB 119 (am_code 119) = true := by decide +kernel
set_option maxRecDepth 100000 in
theorem cb_120 : chkB 120 (am_code 120) = true := by decide +kernel
set_option maxRecDepth 100000 in
theorem cb_121 : chkB 121 (am_code 121) = true := by decide +kernel
set_option maxRecDepth 100000 in
theorem cb_122 : chkB 122 (am_code 122) = true := by decide +kernel
set_option maxRecDepth 100000 in
theorem cb_123 : chkB 123 (am_code 123) = true := by decide +kernel
set_option maxRecDepth 100000 in
theorem cb_124 : chkB 124 (am_code 124) = true := by decide +kernel
set_option maxRecDepth 100000 in
theorem cb_125 : chkB 125 (am_code 125) = true := by decide +kernel
set_option maxRecDepth 100000 in
theorem cb_126 : chkB 126 (am_code 126) = true := by decide +kernel
set_option maxRecDepth 100000 in
theorem cb_127 : chkB 127 (am_code 127) = true := by decide +kernel
set_option maxRecDepth 100000 in
theorem cb_128 : chkB 128 (am_code 128) = true := by decide +kernel
set_option maxRecDepth 100000 in
theorem cb_129 : chkB 129 (am_code 129) = true := by decide +kernel
set_option maxRecDepth 100000 in
theorem cb_130 : chkB 130 (am_code 130) = true := by decide +kernel
set_option maxRecDepth 100000 in
theorem cb_131 : chkB 131 (am_code 131) = true := by decide +kernel
set_option maxRecDepth 100000 in
theorem cb_132 : chkB 132 (am_code 132) = true := by decide +kernel
set_option maxRecDepth 100000 in
theorem cb_133 : chkB 133 (am_code 133) = true := by decide +kernel
set_option maxRecDepth 100000 in
theorem cb_134 : chkB 134 (am_code 134) = true := by decide +kernel
set_option maxRecDepth 100000 in
theorem cb_135 : chkB 135 (am_code 135) = true := by decide +kernel
set_option maxRecDepth 100000 in
theorem cb_136 : chkB 136 (am_code 136) = true := by decide +kernel
set_option maxRecDepth 100000 in
theorem cb_137 : chkB 137 (am_code 137) = true := by decide +kernel
set_option maxRecDepth 100000 in
theorem cb_138 : chkB 138 (am_code 138) = true := by decide +kernel
set_option maxRecDepth 100000 in
theorem cb_139 : chkB 139 (am_code 139) = true := by decide +kernel
set_option maxRecDepth 100000 in
theorem cb_140 : chkB 140 (am_code 140) = true := by decide +kernel
set_option maxRecDepth 100000 in
theorem cb_141 : chkB 141 (am_code 141) = true := by decide +kernel
set_option maxRecDepth 100000 in
theorem cb_142 : chkB 142 (am_code 142) = true := by decide +kernel
set_option maxRecDepth 100000 in
theorem cb_143 : chkB 143 (am_code 143) = true := by decide +kernel
set_option maxRecDepth 100000 in
theorem cb_144 : chkB 144 (am_code 144) = true := by decide +kernel
set_option maxRecDepth 100000 in
theorem cb_145 : chkB 145 (am_code 145) = true := by decide +kernel
set_option maxRecDepth 100000 in
theorem cb_146 : chkB 146 (am_code 146) = true := by decide +kernel
set_option maxRecDepth 100000 in
theorem cb_147 : chkB 147 (am_code 147) = true := by decide +kernel
set_option maxRecDepth 100000 in
theorem cb_148 : chkB 148 (am_code 148) = true := by decide +kernel
set_option maxRecDepth 100000 in
theorem cb_149 : chkB 149 (am_code 149) = true := by decide +kernel
set_option maxRecDepth 100000 in
theorem cb_150 : chkB 150 (am_code 150) = true := by decide +kernel
set_option maxRecDepth 100000 in
theorem cb_151 : chkB 151 (am_code 151) = true := by decide +kernel
set_option maxRecDepth 100000 in
theorem cb_152 : chkB 152 (am_code 152) = true := by decide +kernel
set_option maxRecDepth 100000 in
theorem cb_153 : chkB 153 (am_code 153) = true := by decide +kernel
set_option maxRecDepth 100000 in
theorem cb_154 : chkB 154 (am_code 154) = true := by decide +kernel
set_option maxRecDepth 100000 in
theorem cb_155 : chkB 155 (am_code 155) = true := by decide +kernel
set_option maxRecDepth 100000 in
theorem cb_156 : chkB 156 (am_code 156) = true := by decide +kernel
set_option maxRecDepth 100000 in
theorem cb_157 : chkB 157 (am_code 157) = true := by decide +kernel
set_option maxRecDepth 100000 in
theorem cb_158 : chkB 158 (am_code 158) = true := by decide +kernel
set_option maxRecDepth 100000 in
theorem cb_159 : chkB 159 (am_code 159) = true := by decide +kernel
set_option maxRecDepth 100000 in
theorem cb_160 : chkB 160 (am_code 160) = true := by decide +kernel
set_option maxRecDepth 100000 in
theorem cb_161 : chkB 161 (am_code 161) = true := by decide +kernel
set_option maxRecDepth 100000 in
theorem cb_162 : chkB 162 (am_code 162) = true := by decide +kernel
set_option maxRecDepth 100000 in
theorem cb_163 : chkB 163 (am_code 163) = true := by decide +kernel
set_option maxRecDepth 100000 in
theorem cb_164 : chkB 164 (am_code 164) = true := by decide +kernel
set_option maxRecDepth 100000 in
theorem cb_165 : chkB 165 (am_code 165) = true := by decide +kernel
set_option maxRecDepth 100000 in
theorem cb_166 : chkB 166 (am_code 166) = true := by decide +kernel
set_option maxRecDepth 100000 in
theorem cb_167 : chkB 167 (am_code 167) = true := by decide +kernel
set_option maxRecDepth 100000 in
theorem cb_168 : chkB 168 (am_code 168) = true := by decide +kernel
set_option maxRecDepth 100000 in
theorem cb_169 : chkB 169 (am_code 169) = true := by decide +kernel
set_option maxRecDepth 100000 in
theorem cb_170 : chkB 170 (am_code 170) = true := by decide +kernel
set_option maxRecDepth 100000 in
theorem cb_171 : chkB 171 (am_code 171) = true := by decide +kernel
set_option maxRecDepth 100000 in
theorem cb_172 : chkB 172 (am_code 172) = true := by decide +kernel
set_option maxRecDepth 100000 in
theorem cb_173 : chkB 173 (am_code 173) = true := by decide +kernel
set_option maxRecDepth 100000 in
theorem cb_174 : chkB 174 (am_code 174) = true := by decide +kernel
set_option maxRecDepth 100000 in
theorem cb_175 : chkB 175 (am_code 175) = true := by decide +kernel
set_option maxRecDepth 100000 in
theorem cb_176 : chkB 176 (am_code 176) = true := by decide +kernel
set_option maxRecDepth 100000 in
theorem cb_177 : chkB 177 (am_code 177) = true := by decide +kernel
set_option maxRecDepth 100000 in
theorem cb_178 : chkB 178 (am_code 178) = true := by decide +kernel
set_option maxRecDepth 100000 in
theorem cb_179 : chkB 179 (am_code 179) = true := by decide +kernel
set_option maxRecDepth 100000 in
theorem cb_180 : chkB 180 (am_code 180) = true := by decide +kernel
set_option maxRecDepth 100000 in
theorem cb_181 : chkB 181 (am_code 181) = true := by decide +kernel
set_option maxRecDepth 100000 in
theorem cb_182 : chkB 182 (am_code 182) = true := by decide +kernel
set_option maxRecDepth 100000 in
theorem cb_183 : chkB 183 (am_code 183) = true := by decide +kernel
set_option maxRecDepth 100000 in
theorem cb_184 : chkB 184 (am_code 184) = true := by decide +kernel
set_option maxRecDepth 100000 in
theorem cb_185 : chkB 185 (am_code 185) = true := by decide +kernel
set_option maxRecDepth 100000 in
theorem cb_186 : chkB 186 (am_code 186) = true := by decide +kernel
set_option maxRecDepth 100000 in
theorem cb_187 : chkB 187 (am_code 187) = true := by decide +kernel
set_option maxRecDepth 100000 in
theorem cb_188 : chkB 188 (am_code 188) = true := by decide +kernel
set_option maxRecDepth 100000 in
theorem cb_189 : chkB 189 (am_code 189) = true := by decide +kernel
set_option maxRecDepth 100000 in
theorem cb_190 : chkB 190 (am_code 190) = true := by decide +kernel
set_option maxRecDepth 100000 in
theorem cb_191 : chkB 191 (am_code 191) = true := by decide +kernel
set_option maxRecDepth 100000 in
theorem cb_192 : chkB 192 (am_code 192) = true := by decide +kernel
set_option maxRecDepth 100000 in
theorem cb_193 : chkB 193 (am_code 193) = true := by decide +kernel
set_option maxRecDepth 100000 in
theorem cb_194 : chkB 194 (am_code 194) = true := by decide +kernel
set_option maxRecDepth 100000 in
theorem cb_195 : chkB 195 (am_code 195) = true := by decide +kernel
set_option maxRecDepth 100000 in
theorem cb_196 : chkB 196 (am_code 196) = true := by decide +kernel
set_option maxRecDepth 100000 in
theorem cb_197 : chkB 197 (am_code 197) = true := by decide +kernel
set_option maxRecDepth 100000 in
theorem cb_198 : chkB 198 (am_code 198) = true := by decide +kernel
set_option maxRecDepth 100000 in
theorem cb_199 : chkB 199 (am_code 199) = true := by decide +kernel
set_option maxRecDepth 100000 in
theorem cb_200 : chkB 200 (am_code 200) = true := by decide +kernel
set_option maxRecDepth 100000 in
theorem cb_201 : chkB 201 (am_code 201) = true := by decide +kernel
set_option maxRecDepth 100000 in
theorem cb_202 : chkB 202 (am_code 202) = true := by decide +kernel
set_option maxRecDepth 100000 in
theorem cb_203 : chkB 203 (am_code 203) = true := by decide +kernel
set_option maxRecDepth 100000 in
theorem cb_204 : chkB 204 (am_code 204) = true := by decide +kernel
set_option maxRecDepth 100000 in
theorem cb_205 : chkB 205 (am_code 205) = true := by decide +kernel
set_option maxRecDepth 100000 in
theorem cb_206 : chkB 206 (am_code 206) = true := by decide +kernel
set_option maxRecDepth 100000 in
theorem cb_207 : chkB 207 (am_code 207) = true := by decide +kernel
set_option maxRecDepth 100000 in
theorem cb_208 : chkB 208 (am_code 208) = true := by decide +kernel
set_option maxRecDepth 100000 in
theorem cb_209 : chkB 209 (am_code 209) = true := by decide +kernel
set_option maxRecDepth 100000 in
theorem cb_210 : chkB 210 (am_code 210) = true := by decide +kernel
set_option maxRecDepth 100000 in
theorem cb_211 : chkB 211 (am_code 211) = true := by decide +kernel
set_option maxRecDepth 100000 in
theorem cb_212 : chkB 212 (am_code 212) = true := by decide +kernel
set_option maxRecDepth 100000 in
theorem cb_213 : chkB 213 (am_code 213) = true := by decide +kernel
set_option maxRecDepth 100000 in
theorem cb_214 : chkB 214 (am_code 214) = true := by decide +kernel
set_option maxRecDepth 100000 in
theorem cb_215 : chkB 215 (am_code 215) = true := by decide +kernel
set_option maxRecDepth 100000 in
theorem cb_216 : chkB 216 (am_code 216) = true := by decide +kernel
set_option maxRecDepth 100000 in
theorem cb_217 : chkB 217 (am_code 217) = true := by decide +kernel
set_option maxRecDepth 100000 in
theorem cb_218 : chkB 218 (am_code 218) = true := by decide +kernel
set_option maxRecDepth 100000 in
theorem cb_219 : chkB 219 (am_code 219) = true := by decide +kernel
set_option maxRecDepth 100000 in
theorem cb_220 : chkB 220 (am_code 220) = true := by decide +kernel
set_option maxRecDepth 100000 in
theorem cb_221 : chkB 221 (am_code 221) = true := by decide +kernel
set_option maxRecDepth 100000 in
theorem cb_222 : chkB 222 (am_code 222) = true := by decide +kernel
set_option maxRecDepth 100000 in
theorem cb_223 : chkB 223 (am_code 223) = true := by decide +kernel
set_option maxRecDepth 100000 in
theorem cb_224 : chkB 224 (am_code 224) = true := by decide +kernel
set_option maxRecDepth 100000 in
theorem cb_225 : chkB 225 (am_code 225) = true := by decide +kernel
set_option maxRecDepth 100000 in
theorem cb_226 : chkB 226 (am_code 226) = true := by decide +kernel
set_option maxRecDepth 100000 in
theorem cb_227 : chkB 227 (am_code 227) = true := by decide +kernel
set_option maxRecDepth 100000 in
theorem cb_228 : chkB 228 (am_code 228) = true := by decide +kernel
set_option maxRecDepth 100000 in
theorem cb_229 : chkB 229 (am_code 229) = true := by decide +kernel
set_option maxRecDepth 100000 in
theorem cb_230 : chkB 230 (am_code 230) = true := by decide +kernel
set_option maxRecDepth 100000 in
theorem cb_231 : chkB 231 (am_code 231) = true := by decide +kernel
set_option maxRecDepth 100000 in
theorem cb_232 : chkB 232 (am_code 232) = true := by decide +kernel
set_option maxRecDepth 100000 in
theorem cb_233 : chkB 233 (am_code 233) = true := by decide +kernel
set_option maxRecDepth 100000 in
theorem cb_234 : chkB 234 (am_code 234) = true := by decide +kernel
set_option maxRecDepth 100000 in
theorem cb_235 : chkB 235 (am_code 235) = true := by decide +kernel
set_option maxRecDepth 100000 in
theorem cb_236 : chkB 236 (am_code 236) = true := by decide +kernel
set_option maxRecDepth 100000 in
theorem cb_237 : chkB 237 (am_code 237) = true := by decide +kernel
set_option maxRecDepth 100000 in
theorem cb_238 : chkB 238 (am_code 238) = true := by decide +kernel
set_option maxRecDepth 100000 in
theorem cb_239 : chkB 239 (am_code 239) = true := by decide +kernel
set_option maxRecDepth 100000 in
theorem cb_240 : chkB 240 (am_code 240) = true := by decide +kernel
set_option maxRecDepth 100000 in
theorem cb_241 : chkB 241 (am_code 241) = true := by decide +kernel
set_option maxRecDepth 100000 in
theorem cb_242 : chkB 242 (am_code 242) = true := by decide +kernel
set_option maxRecDepth 100000 in
theorem cb_243 : chkB 243 (am_code 243) = true := by decide +kernel
set_option maxRecDepth 100000 in
theorem cb_244 : chkB 244 (am_code 244) = true := by decide +kernel
set_option maxRecDepth 100000 in
theorem cb_245 : chkB 245 (am_code 245) = true := by decide +kernel
set_option maxRecDepth 100000 in
theorem cb_246 : chkB 246 (am_code 246) = true := by decide +kernel
set_option maxRecDepth 100000 in
theorem cb_247 : chkB 247 (am_code 247) = true := by decide +kernel
set_option maxRecDepth 100000 in
theorem cb_248 : chkB 248 (am_code 248) = true := by decide +kernel
set_option maxRecDepth 100000 in
theorem cb_249 : chkB 249 (am_code 249) = true := by decide +kernel
set_option maxRecDepth 100000 in
theorem cb_250 : chkB 250 (am_code 250) = true := by decide +kernel
set_option maxRecDepth 100000 in
theorem cb_251 : chkB 251 (am_code 251) = true := by decide +kernel
set_option maxRecDepth 100000 in
theorem cb_252 : chkB 252 (am_code 252) = true := by decide +kernel
set_option maxRecDepth 100000 in
theorem cb_253 : chkB 253 (am_code 253) = true := by decide +kernel
set_option maxRecDepth 100000 in
theorem cb_254 : chkB 254 (am_code 254) = true := by decide +kernel
set_option maxRecDepth 100000 in
theorem cb_255 : chkB 255 (am_code 255) = true := by decide +kernel
set_option maxRecDepth 100000 in
theorem cb_256 : chkB 256 (am_code 256) = true := by decide +kernel
set_option maxRecDepth 100000 in
theorem cb_257 : chkB 257 (am_code 257) = true := by decide +kernel
set_option maxRecDepth 100000 in
theorem cb_258 : chkB 258 (am_code 258) = true := by decide +kernel
set_option maxRecDepth 100000 in
theorem cb_259 : chkB 259 (am_code 259) = true := by decide +kernel
set_option maxRecDepth 100000 in
theorem cb_260 : chkB 260 (am_code 260) = true := by decide +kernel
set_option maxRecDepth 100000 in
theorem cb_261 : chkB 261 (am_code 261) = true := by decide +kernel
set_option maxRecDepth 100000 in
theorem cb_262 : chkB 262 (am_code 262) = true := by decide +kernel
set_option maxRecDepth 100000 in
theorem cb_263 : chkB 263 (am_code 263) = true := by decide +kernel
set_option maxRecDepth 100000 in
theorem cb_264 : chkB 264 (am_code 264) = true := by decide +kernel
set_option maxRecDepth 100000 in
theorem cb_265 : chkB 265 (am_code 265) = true := by decide +kernel
set_option maxRecDepth 100000 in
theorem cb_266 : chkB 266 (am_code 266) = true := by decide +kernel
set_option maxRecDepth 100000 in
theorem cb_267 : chkB 267 (am_code 267) = true := by decide +kernel
set_option maxRecDepth 100000 in
theorem cb_268 : chkB 268 (am_code 268) = true := by decide +kernel
set_option maxRecDepth 100000 in
theorem cb_269 : chkB 269 (am_code 269) = true := by decide +kernel
set_option maxRecDepth 100000 in
theorem cb_270 : chkB 270 (am_code 270) = true := by decide +kernel
set_option maxRecDepth 100000 in
theorem cb_271 : chkB 271 (am_code 271) = true := by decide +kernel
set_option maxRecDepth 100000 in
theorem cb_272 : chkB 272 (am_code 272) = true := by decide +kernel
set_option maxRecDepth 100000 in
theorem cb_273 : chkB 273 (am_code 273) = true := by decide +kernel
set_option maxRecDepth 100000 in
theorem cb_274 : chkB 274 (am_code 274) = true := by decide +kernel
set_option maxRecDepth 100000 in
theorem cb_275 : chkB 275 (am_code 275) = true := by decide +kernel
set_option maxRecDepth 100000 in
theorem cb_276 : chkB 276 (am_code 276) = true := by decide +kernel
set_option maxRecDepth 100000 in
theorem cb_277 : chkB 277 (am_code 277) = true := by decide +kernel
