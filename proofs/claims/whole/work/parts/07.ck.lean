set_option maxRecDepth 100000 in
theorem ck_0 : chkM 0 = true := by decide +kernel
set_option maxRecDepth 100000 in
theorem ck_1 : chkM 1 = true := by decide +kernel
set_option maxRecDepth 100000 in
theorem ck_2 : chkM 2 = true := by decide +kernel
set_option maxRecDepth 100000 in
theorem ck_3 : chkM 3 = true := by decide +kernel
set_option maxRecDepth 100000 in
theorem ck_4 : chkM 4 = true := by decide +kernel
set_option maxRecDepth 100000 in
theorem ck_5 : chkM 5 = true := by decide +kernel
set_option maxRecDepth 100000 in
theorem ck_6 : chkM 6 = true := by decide +kernel
set_option maxRecDepth 100000 in
theorem ck_7 : chkM 7 = true := by decide +kernel
set_option maxRecDepth 100000 in
theorem ck_8 : chkM 8 = true := by decide +kernel
set_option maxRecDepth 100000 in
theorem ck_9 : chkM 9 = true := by decide +kernel
set_option maxRecDepth 100000 in
theorem ck_10 : chkM 10 = true := by decide +kernel
set_option maxRecDepth 100000 in
theorem ck_11 : chkM 11 = true := by decide +kernel
set_option maxRecDepth 100000 in
theorem ck_12 : chkM 12 = true := by decide +kernel
set_option maxRecDepth 100000 in
theorem ck_13 : chkM 13 = true := by decide +kernel
set_option maxRecDepth 100000 in
theorem ck_14 : chkM 14 = true := by decide +kernel
set_option maxRecDepth 100000 in
theorem ck_15 : chkM 15 = true := by decide +kernel
set_option maxRecDepth 100000 in
theorem ck_16 : chkM 16 = true := by decide +kernel
set_option maxRecDepth 100000 in
theorem ck_17 : chkM 17 = true := by decide +kernel
set_option maxRecDepth 100000 in
theorem ck_18 : chkM 18 = true := by decide +kernel
set_option maxRecDepth 100000 in
theorem ck_19 : chkM 19 = true := by decide +kernel
set_option maxRecDepth 100000 in
theorem ck_20 : chkM 20 = true := by decide +kernel
set_option maxRecDepth 100000 in
theorem ck_21 : chkM 21 = true := by decide +kernel
set_option maxRecDepth 100000 in
theorem ck_22 : chkM 22 = true := by decide +kernel
set_option maxRecDepth 100000 in
theorem ck_23 : chkM 23 = true := by decide +kernel
set_option maxRecDepth 100000 in
theorem ck_24 : chkM 24 = true := by decide +kernel
set_option maxRecDepth 100000 in
theorem ck_25 : chkM 25 = true := by decide +kernel
set_option maxRecDepth 100000 in
theorem ck_26 : chkM 26 = true := by decide +kernel
set_option maxRecDepth 100000 in
theorem ck_27 : chkM 27 = true := by decide +kernel
set_option maxRecDepth 100000 in
theorem ck_28 : chkM 28 = true := by decide +kernel
set_option maxRecDepth 100000 in
theorem ck_29 : chkM 29 = true := by decide +kernel
set_option maxRecDepth 100000 in
theorem ck_30 : chkM 30 = true := by decide +kernel
set_option maxRecDepth 100000 in
theorem ck_31 : chkM 31 = true := by decide +kernel
set_option maxRecDepth 100000 in
theorem ck_32 : chkM 32 = true := by decide +kernel
set_option maxRecDepth 100000 in
theorem ck_33 : chkM 33 = true := by decide +kernel
set_option maxRecDepth 100000 in
theorem ck_34 : chkM 34 = true := by decide +kernel
set_option maxRecDepth 100000 in
theorem ck_35 : chkM 35 = true := by decide +kernel
set_option maxRecDepth 100000 in
theorem ck_36 : chkM 36 = true := by decide +kernel
set_option maxRecDepth 100000 in
theorem ck_37 : chkM 37 = true := by decide +kernel
set_option maxRecDepth 100000 in
theorem ck_38 : chkM 38 = true := by decide +kernel
set_option maxRecDepth 100000 in
theorem ck_39 : chkM 39 = true := by decide +kernel
set_option maxRecDepth 100000 in
theorem ck_40 : chkM 40 = true := by decide +kernel
set_option maxRecDepth 100000 in
theorem ck_41 : chkM 41 = true := by decide +kernel
set_option maxRecDepth 100000 in
theorem ck_42 : chkM 42 = true := by decide +kernel
set_option maxRecDepth 100000 in
theorem ck_43 : chkM 43 = true := by decide +kernel
set_option maxRecDepth 100000 in
theorem ck_44 : chkM 44 = true := by decide +kernel
set_option maxRecDepth 100000 in
theorem ck_45 : chkM 45 = true := by decide +kernel
set_option maxRecDepth 100000 in
theorem ck_46 : chkM 46 = true := by decide +kernel
set_option maxRecDepth 100000 in
theorem ck_47 : chkM 47 = true := by decide +kernel
set_option maxRecDepth 100000 in
theorem ck_48 : chkM 48 = true := by decide +kernel
set_option maxRecDepth 100000 in
theorem ck_49 : chkM 49 = true := by decide +kernel
set_option maxRecDepth 100000 in
theorem ck_50 : chkM 50 = true := by decide +kernel
set_option maxRecDepth 100000 in
theorem ck_51 : chkM 51 = true := by decide +kernel
set_option maxRecDepth 100000 in
theorem ck_52 : chkM 52 = true := by decide +kernel
set_option maxRecDepth 100000 in
theorem ck_53 : chkM 53 = true := by decide +kernel
set_option maxRecDepth 100000 in
theorem ck_54 : chkM 54 = true := by decide +kernel
set_option maxRecDepth 100000 in
theorem ck_55 : chkM 55 = true := by decide +kernel
set_option maxRecDepth 100000 in
theorem ck_56 : chkM 56 = true := by decide +kernel
set_option maxRecDepth 100000 in
theorem ck_57 : chkM 57 = true := by decide +kernel
set_option maxRecDepth 100000 in
theorem ck_58 : chkM 58 = true := by decide +kernel
set_option maxRecDepth 100000 in
theorem ck_59 : chkM 59 = true := by decide +kernel
set_option maxRecDepth 100000 in
theorem ck_60 : chkM 60 = true := by decide +kernel
set_option maxRecDepth 100000 in
theorem ck_61 : chkM 61 = true := by decide +kernel
set_option maxRecDepth 100000 in
theorem ck_62 : chkM 62 = true := by decide +kernel
set_option maxRecDepth 100000 in
theorem ck_63 : chkM 63 = true := by decide +kernel
set_option maxRecDepth 100000 in
theorem ck_64 : chkM 64 = true := by decide +kernel
set_option maxRecDepth 100000 in
theorem ck_65 : chkM 65 = true := by decide +kernel
set_option maxRecDepth 100000 in
theorem ck_66 : chkM 66 = true := by decide +kernel
set_option maxRecDepth 100000 in
theorem ck_67 : chkM 67 = true := by decide +kernel
set_option maxRecDepth 100000 in
theorem ck_68 : chkM 68 = true := by decide +kernel
set_option maxRecDepth 100000 in
theorem ck_69 : chkM 69 = true := by decide +kernel
set_option maxRecDepth 100000 in
theorem ck_70 : chkM 70 = true := by decide +kernel
set_option maxRecDepth 100000 in
theorem ck_71 : chkM 71 = true := by decide +kernel
set_option maxRecDepth 100000 in
theorem ck_72 : chkM 72 = true := by decide +kernel
set_option maxRecDepth 100000 in
theorem ck_73 : chkM 73 = true := by decide +kernel
set_option maxRecDepth 100000 in
theorem ck_74 : chkM 74 = true := by decide +kernel
set_option maxRecDepth 100000 in
theorem ck_75 : chkM 75 = true := by decide +kernel
set_option maxRecDepth 100000 in
theorem ck_76 : chkM 76 = true := by decide +kernel
set_option maxRecDepth 100000 in
theorem ck_77 : chkM 77 = true := by decide +kernel
set_option maxRecDepth 100000 in
theorem ck_78 : chkM 78 = true := by decide +kernel
set_option maxRecDepth 100000 in
theorem ck_79 : chkM 79 = true := by decide +kernel
set_option maxRecDepth 100000 in
theorem ck_80 : chkM 80 = true := by decide +kernel
set_option maxRecDepth 100000 in
theorem ck_81 : chkM 81 = true := by decide +kernel
set_option maxRecDepth 100000 in
theorem ck_82 : chkM 82 = true := by decide +kernel
set_option maxRecDepth 100000 in
theorem ck_83 : chkM 83 = true := by decide +kernel
set_option maxRecDepth 100000 in
theorem ck_84 : chkM 84 = true := by decide +kernel
set_option maxRecDepth 100000 in
theorem ck_85 : chkM 85 = true := by decide +kernel
set_option maxRecDepth 100000 in
theorem ck_86 : chkM 86 = true := by decide +kernel
set_option maxRecDepth 100000 in
theorem ck_87 : chkM 87 = true := by decide +kernel
set_option maxRecDepth 100000 in
theorem ck_88 : chkM 88 = true := by decide +kernel
set_option maxRecDepth 100000 in
theorem ck_89 : chkM 89 = true := by decide +kernel
set_option maxRecDepth 100000 in
theorem ck_90 : chkM 90 = true := by decide +kernel
set_option maxRecDepth 100000 in
theorem ck_91 : chkM 91 = true := by decide +kernel
set_option maxRecDepth 100000 in
theorem ck_92 : chkM 92 = true := by decide +kernel
set_option maxRecDepth 100000 in
theorem ck_93 : chkM 93 = true := by decide +kernel
set_option maxRecDepth 100000 in
theorem ck_94 : chkM 94 = true := by decide +kernel
set_option maxRecDepth 100000 in
theorem ck_95 : chkM 95 = true := by decide +kernel
set_option maxRecDepth 100000 in
theorem ck_96 : chkM 96 = true := by decide +kernel
set_option maxRecDepth 100000 in
theorem ck_97 : chkM 97 = true := by decide +kernel
set_option maxRecDepth 100000 in
theorem ck_98 : chkM 98 = true := by decide +kernel
set_option maxRecDepth 100000 in
theorem ck_99 : chkM 99 = true := by decide +kernel
set_option maxRecDepth 100000 in
theorem ck_100 : chkM 100 = true := by decide +kernel
set_option maxRecDepth 100000 in
theorem ck_101 : chkM 101 = true := by decide +kernel
set_option maxRecDepth 100000 in
theorem ck_102 : chkM 102 = true := by decide +kernel
set_option maxRecDepth 100000 in
theorem ck_103 : chkM 103 = true := by decide +kernel
set_option maxRecDepth 100000 in
theorem ck_104 : chkM 104 = true := by decide +kernel
set_option maxRecDepth 100000 in
theorem ck_105 : chkM 105 = true := by decide +kernel
set_option maxRecDepth 100000 in
theorem ck_106 : chkM 106 = true := by decide +kernel
set_option maxRecDepth 100000 in
theorem ck_107 : chkM 107 = true := by decide +kernel
set_option maxRecDepth 100000 in
theorem ck_108 : chkM 108 = true := by decide +kernel
set_option maxRecDepth 100000 in
theorem ck_109 : chkM 109 = true := by decide +kernel
set_option maxRecDepth 100000 in
theorem ck_110 : chkM 110 = true := by decide +kernel
set_option maxRecDepth 100000 in
theorem ck_111 : chkM 111 = true := by decide +kernel
set_option maxRecDepth 100000 in
theorem ck_112 : chkM 112 = true := by decide +kernel
set_option maxRecDepth 100000 in
theorem ck_113 : chkM 113 = true := by decide +kernel
set_option maxRecDepth 100000 in
theorem ck_114 : chkM 114 = true := by decide +kernel
set_option maxRecDepth 100000 in
theorem ck_115 : chkM 115 = true := by decide +kernel
set_option maxRecDepth 100000 in
theorem ck_116 : chkM 116 = true := by decide +kernel
set_option maxRecDepth 100000 in
theorem ck_117 : chkM 117 = true := by decide +kernel
set_option maxRecDepth 100000 in
theorem ck_118 : chkM 118 = true := by decide +kernel
set_option maxRecDepth 100000 in
theorem ck_119 : chkM 119 = true := by decide +kernel
set_option maxRecDepth 100000 in
theorem ck_120 : chkM 120 = true := by decide +kernel
set_option maxRecDepth 100000 in
theorem ck_121 : chkM 121 = true := by decide +kernel
set_option maxRecDepth 100000 in
theorem ck_122 : chkM 122 = true := by decide +kernel
set_option maxRecDepth 100000 in
theorem ck_123 : chkM 123 = true := by decide +kernel
set_option maxRecDepth 100000 in
theorem ck_124 : chkM 124 = true := by decide +kernel
set_option maxRecDepth 100000 in
theorem ck_125 : chkM 125 = true := by decide +kernel
set_option maxRecDepth 100000 in
theorem ck_126 : chkM 126 = true := by decide +kernel
set_option maxRecDepth 100000 in
theorem ck_127 : chkM 127 = true := by decide +kernel
set_option maxRecDepth 100000 in
theorem ck_128 : chkM 128 = true := by decide +kernel
set_option maxRecDepth 100000 in
theorem ck_129 : chkM 129 = true := by decide +kernel
set_option maxRecDepth 100000 in
theorem ck_130 : chkM 130 = true := by decide +kernel
set_option maxRecDepth 100000 in
theorem ck_131 : chkM 131 = true := by decide +kernel
set_option maxRecDepth 100000 in
theorem ck_132 : chkM 132 = true := by decide +kernel
set_option maxRecDepth 100000 in
theorem ck_133 : chkM 133 = true := by decide +kernel
set_option maxRecDepth 100000 in
theorem ck_134 : chkM 134 = true := by decide +kernel
set_option maxRecDepth 100000 in
theorem ck_135 : chkM 135 = true := by decide +kernel
set_option maxRecDepth 100000 in
theorem ck_136 : chkM 136 = true := by decide +kernel
set_option maxRecDepth 100000 in
theorem ck_137 : chkM 137 = true := by decide +kernel
set_option maxRecDepth 100000 in
theorem ck_138 : chkM 138 = true := by decide +kernel
set_option maxRecDepth 100000 in
theorem ck_139 : chkM 139 = true := by decide +kernel
set_option maxRecDepth 100000 in
theorem ck_140 : chkM 140 = true := by decide +kernel
set_option maxRecDepth 100000 in
theorem ck_141 : chkM 141 = true := by decide +kernel
set_option maxRecDepth 100000 in
theorem ck_142 : chkM 142 = true := by decide +kernel
set_option maxRecDepth 100000 in
theorem ck_143 : chkM 143 = true := by decide +kernel
set_option maxRecDepth 100000 in
theorem ck_144 : chkM 144 = true := by decide +kernel
set_option maxRecDepth 100000 in
theorem ck_145 : chkM 145 = true := by decide +kernel
set_option maxRecDepth 100000 in
theorem ck_146 : chkM 146 = true := by decide +kernel
set_option maxRecDepth 100000 in
theorem ck_147 : chkM 147 = true := by decide +kernel
set_option maxRecDepth 100000 in
theorem ck_148 : chkM 148 = true := by decide +kernel
set_option maxRecDepth 100000 in
theorem ck_149 : chkM 149 = true := by decide +kernel
set_option maxRecDepth 100000 in
theorem ck_150 : chkM 150 = true := by decide +kernel
set_option maxRecDepth 100000 in
theorem ck_151 : chkM 151 = true := by decide +kernel
set_option maxRecDepth 100000 in
theorem ck_152 : chkM 152 = true := by decide +kernel
set_option maxRecDepth 100000 in
theorem ck_153 : chkM 153 = true := by decide +kernel
set_option maxRecDepth 100000 in
theorem ck_154 : chkM 154 = true := by decide +kernel
set_option maxRecDepth 100000 in
theorem ck_155 : chkM 155 = true := by decide +kernel
set_option maxRecDepth 100000 in
theorem ck_156 : chkM 156 = true := by decide +kernel
set_option maxRecDepth 100000 in
theorem ck_157 : chkM 157 = true := by decide +kernel
set_option maxRecDepth 100000 in
theorem ck_158 : chkM 158 = true := by decide +kernel
set_option maxRecDepth 100000 in
theorem ck_159 : chkM 159 = true := by decide +kernel
set_option maxRecDepth 100000 in
theorem ck_160 : chkM 160 = true := by decide +kernel
set_option maxRecDepth 100000 in
theorem ck_161 : chkM 161 = true := by decide +kernel
set_option maxRecDepth 100000 in
theorem ck_162 : chkM 162 = true := by decide +kernel
set_option maxRecDepth 100000 in
theorem ck_163 : chkM 163 = true := by decide +kernel
set_option maxRecDepth 100000 in
theorem ck_164 : chkM 164 = true := by decide +kernel
set_option maxRecDepth 100000 in
theorem ck_165 : chkM 165 = true := by decide +kernel
set_option maxRecDepth 100000 in
theorem ck_166 : chkM 166 = true := by decide +kernel
set_option maxRecDepth 100000 in
theorem ck_167 : chkM 167 = true := by decide +kernel
set_option maxRecDepth 100000 in
theorem ck_168 : chkM 168 = true := by decide +kernel
set_option maxRecDepth 100000 in
theorem ck_169 : chkM 169 = true := by decide +kernel
set_option maxRecDepth 100000 in
theorem ck_170 : chkM 170 = true := by decide +kernel
set_option maxRecDepth 100000 in
theorem ck_171 : chkM 171 = true := by decide +kernel
set_option maxRecDepth 100000 in
theorem ck_172 : chkM 172 = true := by decide +kernel
set_option maxRecDepth 100000 in
theorem ck_173 : chkM 173 = true := by decide +kernel
set_option maxRecDepth 100000 in
theorem ck_174 : chkM 174 = true := by decide +kernel
set_option maxRecDepth 100000 in
theorem ck_175 : chkM 175 = true := by decide +kernel
set_option maxRecDepth 100000 in
theorem ck_176 : chkM 176 = true := by decide +kernel
set_option maxRecDepth 100000 in
theorem ck_177 : chkM 177 = true := by decide +kernel
set_option maxRecDepth 100000 in
theorem ck_178 : chkM 178 = true := by decide +kernel
set_option maxRecDepth 100000 in
theorem ck_179 : chkM 179 = true := by decide +kernel
set_option maxRecDepth 100000 in
theorem ck_180 : chkM 180 = true := by decide +kernel
set_option maxRecDepth 100000 in
theorem ck_181 : chkM 181 = true := by decide +kernel
set_option maxRecDepth 100000 in
theorem ck_182 : chkM 182 = true := by decide +kernel
set_option maxRecDepth 100000 in
theorem ck_183 : chkM 183 = true := by decide +kernel
set_option maxRecDepth 100000 in
theorem ck_184 : chkM 184 = true := by decide +kernel
set_option maxRecDepth 100000 in
theorem ck_185 : chkM 185 = true := by decide +kernel
set_option maxRecDepth 100000 in
theorem ck_186 : chkM 186 = true := by decide +kernel
set_option maxRecDepth 100000 in
theorem ck_187 : chkM 187 = true := by decide +kernel
set_option maxRecDepth 100000 in
theorem ck_188 : chkM 188 = true := by decide +kernel
set_option maxRecDepth 100000 in
theorem ck_189 : chkM 189 = true := by decide +kernel
set_option maxRecDepth 100000 in
theorem ck_190 : chkM 190 = true := by decide +kernel
set_option maxRecDepth 100000 in
theorem ck_191 : chkM 191 = true := by decide +kernel
set_option maxRecDepth 100000 in
theorem ck_192 : chkM 192 = true := by decide +kernel
set_option maxRecDepth 100000 in
theorem ck_193 : chkM 193 = true := by decide +kernel
set_option maxRecDepth 100000 in
theorem ck_194 : chkM 194 = true := by decide +kernel
set_option maxRecDepth 100000 in
theorem ck_195 : chkM 195 = true := by decide +kernel
set_option maxRecDepth 100000 in
theorem ck_196 : chkM 196 = true := by decide +kernel
set_option maxRecDepth 100000 in
theorem ck_197 : chkM 197 = true := by decide +kernel
set_option maxRecDepth 100000 in
theorem ck_198 : chkM 198 = true := by decide +kernel
set_option maxRecDepth 100000 in
theorem ck_199 : chkM 199 = true := by decide +kernel
set_option maxRecDepth 100000 in
theorem ck_200 : chkM 200 = true := by decide +kernel
set_option maxRecDepth 100000 in
theorem ck_201 : chkM 201 = true := by decide +kernel
set_option maxRecDepth 100000 in
theorem ck_202 : chkM 202 = true := by decide +kernel
set_option maxRecDepth 100000 in
theorem ck_203 : chkM 203 = true := by decide +kernel
set_option maxRecDepth 100000 in
theorem ck_204 : chkM 204 = true := by decide +kernel
set_option maxRecDepth 100000 in
theorem ck_205 : chkM 205 = true := by decide +kernel
set_option maxRecDepth 100000 in
theorem ck_206 : chkM 206 = true := by decide +kernel
set_option maxRecDepth 100000 in
theorem ck_207 : chkM 207 = true := by decide +kernel
set_option maxRecDepth 100000 in
theorem ck_208 : chkM 208 = true := by decide +kernel
set_option maxRecDepth 100000 in
theorem ck_209 : chkM 209 = true := by decide +kernel
set_option maxRecDepth 100000 in
theorem ck_210 : chkM 210 = true := by decide +kernel
set_option maxRecDepth 100000 in
theorem ck_211 : chkM 211 = true := by decide +kernel
set_option maxRecDepth 100000 in
theorem ck_212 : chkM 212 = true := by decide +kernel
set_option maxRecDepth 100000 in
theorem ck_213 : chkM 213 = true := by decide +kernel
set_option maxRecDepth 100000 in
theorem ck_214 : chkM 214 = true := by decide +kernel
set_option maxRecDepth 100000 in
theorem ck_215 : chkM 215 = true := by decide +kernel
set_option maxRecDepth 100000 in
theorem ck_216 : chkM 216 = true := by decide +kernel
set_option maxRecDepth 100000 in
theorem ck_217 : chkM 217 = true := by decide +kernel
set_option maxRecDepth 100000 in
theorem ck_218 : chkM 218 = true := by decide +kernel
set_option maxRecDepth 100000 in
theorem ck_219 : chkM 219 = true := by decide +kernel
set_option maxRecDepth 100000 in
theorem ck_220 : chkM 220 = true := by decide +kernel
set_option maxRecDepth 100000 in
theorem ck_221 : chkM 221 = true := by decide +kernel
set_option maxRecDepth 100000 in
theorem ck_222 : chkM 222 = true := by decide +kernel
set_option maxRecDepth 100000 in
theorem ck_223 : chkM 223 = true := by decide +kernel
set_option maxRecDepth 100000 in
theorem ck_224 : chkM 224 = true := by decide +kernel
set_option maxRecDepth 100000 in
theorem ck_225 : chkM 225 = true := by decide +kernel
set_option maxRecDepth 100000 in
theorem ck_226 : chkM 226 = true := by decide +kernel
set_option maxRecDepth 100000 in
theorem ck_227 : chkM 227 = true := by decide +kernel
set_option maxRecDepth 100000 in
theorem ck_228 : chkM 228 = true := by decide +kernel
set_option maxRecDepth 100000 in
theorem ck_229 : chkM 229 = true := by decide +kernel
set_option maxRecDepth 100000 in
theorem ck_230 : chkM 230 = true := by decide +kernel
set_option maxRecDepth 100000 in
theorem ck_231 : chkM 231 = true := by decide +kernel
set_option maxRecDepth 100000 in
theorem ck_232 : chkM 232 = true := by decide +kernel
set_option maxRecDepth 100000 in
theorem ck_233 : chkM 233 = true := by decide +kernel
set_option maxRecDepth 100000 in
theorem ck_234 : chkM 234 = true := by decide +kernel
set_option maxRecDepth 100000 in
theorem ck_235 : chkM 235 = true := by decide +kernel
set_option maxRecDepth 100000 in
theorem ck_236 : chkM 236 = true := by decide +kernel
set_option maxRecDepth 100000 in
theorem ck_237 : chkM 237 = true := by decide +kernel
set_option maxRecDepth 100000 in
theorem ck_238 : chkM 238 = true := by decide +kernel
set_option maxRecDepth 100000 in
theorem ck_239 : chkM 239 = true := by decide +kernel
set_option maxRecDepth 100000 in
theorem ck_240 : chkM 240 = true := by decide +kernel
set_option maxRecDepth 100000 in
theorem ck_241 : chkM 241 = true := by decide +kernel
set_option maxRecDepth 100000 in
theorem ck_242 : chkM 242 = true := by decide +kernel
set_option maxRecDepth 100000 in
theorem ck_243 : chkM 243 = true := by decide +kernel
set_option maxRecDepth 100000 in
theorem ck_244 : chkM 244 = true := by decide +kernel
set_option maxRecDepth 100000 in
theorem ck_245 : chkM 245 = true := by decide +kernel
set_option maxRecDepth 100000 in
theorem ck_246 : chkM 246 = true := by decide +kernel
set_option maxRecDepth 100000 in
theorem ck_247 : chkM 247 = true := by decide +kernel
set_option maxRecDepth 100000 in
theorem ck_248 : chkM 248 = true := by decide +kernel
set_option maxRecDepth 100000 in
theorem ck_249 : chkM 249 = true := by decide +kernel
set_option maxRecDepth 100000 in
theorem ck_250 : chkM 250 = true := by decide +kernel
set_option maxRecDepth 100000 in
theorem ck_251 : chkM 251 = true := by decide +kernel
set_option maxRecDepth 100000 in
theorem ck_252 : chkM 252 = true := by decide +kernel
set_option maxRecDepth 100000 in
theorem ck_253 : chkM 253 = true := by decide +kernel
set_option maxRecDepth 100000 in
theorem ck_254 : chkM 254 = true := by decide +kernel
set_option maxRecDepth 100000 in
theorem ck_255 : chkM 255 = true := by decide +kernel
set_option maxRecDepth 100000 in
theorem ck_256 : chkM 256 = true := by decide +kernel
set_option maxRecDepth 100000 in
theorem ck_257 : chkM 257 = true := by decide +kernel
set_option maxRecDepth 100000 in
theorem ck_258 : chkM 258 = true := by decide +kernel
set_option maxRecDepth 100000 in
theorem ck_259 : chkM 259 = true := by decide +kernel
set_option maxRecDepth 100000 in
theorem ck_260 : chkM 260 = true := by decide +kernel
set_option maxRecDepth 100000 in
theorem ck_261 : chkM 261 = true := by decide +kernel
set_option maxRecDepth 100000 in
theorem ck_262 : chkM 262 = true := by decide +kernel
set_option maxRecDepth 100000 in
theorem ck_263 : chkM 263 = true := by decide +kernel
set_option maxRecDepth 100000 in
theorem ck_264 : chkM 264 = true := by decide +kernel
set_option maxRecDepth 100000 in
theorem ck_265 : chkM 265 = true := by decide +kernel
set_option maxRecDepth 100000 in
theorem ck_266 : chkM 266 = true := by decide +kernel
set_option maxRecDepth 100000 in
theorem ck_267 : chkM 267 = true := by decide +kernel
set_option maxRecDepth 100000 in
theorem ck_268 : chkM 268 = true := by decide +kernel
set_option maxRecDepth 100000 in
theorem ck_269 : chkM 269 = true := by decide +kernel
set_option maxRecDepth 100000 in
theorem ck_270 : chkM 270 = true := by decide +kernel
set_option maxRecDepth 100000 in
theorem ck_271 : chkM 271 = true := by decide +kernel
set_option maxRecDepth 100000 in
theorem ck_272 : chkM 272 = true := by decide +kernel
set_option maxRecDepth 100000 in
theorem ck_273 : chkM 273 = true := by decide +kernel
set_option maxRecDepth 100000 in
theorem ck_274 : chkM 274 = true := by decide +kernel
set_option maxRecDepth 100000 in
theorem ck_275 : chkM 275 = true := by decide +kernel
set_option maxRecDepth 100000 in
theorem ck_276 : chkM 276 = true := by decide +kernel
set_option maxRecDepth 100000 in
theorem ck_277 : chkM 277 = true := by decide +kernel
set_option maxRecDepth 100000 in
theorem ck_278 : chkM 278 = true := by decide +kernel
