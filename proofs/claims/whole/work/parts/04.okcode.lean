theorem ok_0 : lc_0.all (okQ 0) = true := by decide +kernel
theorem ok_1 : lc_1.all (okQ 1) = true := by decide +kernel
theorem ok_2 : lc_2.all (okQ 2) = true := by decide +kernel
theorem ok_3 : lc_3.all (okQ 3) = true := by decide +kernel
theorem ok_4 : lc_4.all (okQ 4) = true := by decide +kernel
theorem ok_5 : lc_5.all (okQ 5) = true := by decide +kernel
theorem ok_6 : lc_6.all (okQ 6) = true := by decide +kernel
theorem ok_7 : lc_7.all (okQ 7) = true := by decide +kernel
theorem ok_8 : lc_8.all (okQ 8) = true := by decide +kernel
theorem ok_9 : lc_9.all (okQ 9) = true := by decide +kernel
theorem ok_10 : lc_10.all (okQ 10) = true := by decide +kernel
theorem ok_11 : lc_11.all (okQ 11) = true := by decide +kernel
theorem ok_12 : lc_12.all (okQ 12) = true := by decide +kernel
theorem ok_13 : lc_13.all (okQ 13) = true := by decide +kernel
theorem ok_14 : lc_14.all (okQ 14) = true := by decide +kernel
theorem ok_15 : lc_15.all (okQ 15) = true := by decide +kernel
theorem ok_16 : lc_16.all (okQ 16) = true := by decide +kernel
theorem ok_17 : lc_17.all (okQ 17) = true := by decide +kernel
theorem ok_18 : lc_18.all (okQ 18) = true := by decide +kernel
theorem ok_19 : lc_19.all (okQ 19) = true := by decide +kernel
theorem ok_20 : lc_20.all (okQ 20) = true := by decide +kernel
theorem ok_21 : lc_21.all (okQ 21) = true := by decide +kernel
theorem ok_22 : lc_22.all (okQ 22) = true := by decide +kernel
theorem ok_23 : lc_23.all (okQ 23) = true := by decide +kernel
theorem ok_24 : lc_24.all (okQ 24) = true := by decide +kernel
theorem ok_25 : lc_25.all (okQ 25) = true := by decide +kernel
theorem ok_26 : lc_26.all (okQ 26) = true := by decide +kernel
theorem ok_27 : lc_27.all (okQ 27) = true := by decide +kernel
theorem ok_28 : lc_28.all (okQ 28) = true := by decide +kernel
theorem ok_29 : lc_29.all (okQ 29) = true := by decide +kernel
theorem ok_30 : lc_30.all (okQ 30) = true := by decide +kernel
theorem ok_31 : lc_31.all (okQ 31) = true := by decide +kernel
theorem ok_32 : lc_32.all (okQ 32) = true := by decide +kernel
theorem ok_33 : lc_33.all (okQ 33) = true := by decide +kernel
theorem ok_34 : lc_34.all (okQ 34) = true := by decide +kernel
theorem ok_35 : lc_35.all (okQ 35) = true := by decide +kernel
theorem ok_36 : lc_36.all (okQ 36) = true := by decide +kernel
theorem ok_37 : lc_37.all (okQ 37) = true := by decide +kernel
theorem ok_38 : lc_38.all (okQ 38) = true := by decide +kernel
theorem ok_39 : lc_39.all (okQ 39) = true := by decide +kernel
theorem ok_40 : lc_40.all (okQ 40) = true := by decide +kernel
theorem ok_41 : lc_41.all (okQ 41) = true := by decide +kernel
theorem ok_42 : lc_42.all (okQ 42) = true := by decide +kernel
theorem ok_43 : lc_43.all (okQ 43) = true := by decide +kernel
theorem ok_44 : lc_44.all (okQ 44) = true := by decide +kernel
theorem ok_45 : lc_45.all (okQ 45) = true := by decide +kernel
theorem ok_46 : lc_46.all (okQ 46) = true := by decide +kernel
theorem ok_47 : lc_47.all (okQ 47) = true := by decide +kernel
theorem ok_48 : lc_48.all (okQ 48) = true := by decide +kernel
theorem ok_49 : lc_49.all (okQ 49) = true := by decide +kernel
theorem ok_50 : lc_50.all (okQ 50) = true := by decide +kernel
theorem ok_51 : lc_51.all (okQ 51) = true := by decide +kernel
theorem ok_52 : lc_52.all (okQ 52) = true := by decide +kernel
theorem ok_53 : lc_53.all (okQ 53) = true := by decide +kernel
theorem ok_54 : lc_54.all (okQ 54) = true := by decide +kernel
theorem ok_55 : lc_55.all (okQ 55) = true := by decide +kernel
theorem ok_56 : lc_56.all (okQ 56) = true := by decide +kernel
theorem ok_57 : lc_57.all (okQ 57) = true := by decide +kernel
theorem ok_58 : lc_58.all (okQ 58) = true := by decide +kernel
theorem ok_59 : lc_59.all (okQ 59) = true := by decide +kernel
theorem ok_60 : lc_60.all (okQ 60) = true := by decide +kernel
theorem ok_61 : lc_61.all (okQ 61) = true := by decide +kernel
theorem ok_62 : lc_62.all (okQ 62) = true := by decide +kernel
theorem ok_63 : lc_63.all (okQ 63) = true := by decide +kernel
theorem ok_64 : lc_64.all (okQ 64) = true := by decide +kernel
theorem ok_65 : lc_65.all (okQ 65) = true := by decide +kernel
theorem ok_66 : lc_66.all (okQ 66) = true := by decide +kernel
theorem ok_67 : lc_67.all (okQ 67) = true := by decide +kernel
theorem ok_68 : lc_68.all (okQ 68) = true := by decide +kernel
theorem ok_69 : lc_69.all (okQ 69) = true := by decide +kernel
theorem ok_70 : lc_70.all (okQ 70) = true := by decide +kernel
theorem ok_71 : lc_71.all (okQ 71) = true := by decide +kernel
theorem ok_72 : lc_72.all (okQ 72) = true := by decide +kernel
theorem ok_73 : lc_73.all (okQ 73) = true := by decide +kernel
theorem ok_74 : lc_74.all (okQ 74) = true := by decide +kernel
theorem ok_75 : lc_75.all (okQ 75) = true := by decide +kernel
theorem ok_76 : lc_76.all (okQ 76) = true := by decide +kernel
theorem ok_77 : lc_77.all (okQ 77) = true := by decide +kernel
theorem ok_78 : lc_78.all (okQ 78) = true := by decide +kernel
theorem ok_79 : lc_79.all (okQ 79) = true := by decide +kernel
theorem ok_80 : lc_80.all (okQ 80) = true := by decide +kernel
theorem ok_81 : lc_81.all (okQ 81) = true := by decide +kernel
theorem ok_82 : lc_82.all (okQ 82) = true := by decide +kernel
theorem ok_83 : lc_83.all (okQ 83) = true := by decide +kernel
theorem ok_84 : lc_84.all (okQ 84) = true := by decide +kernel
theorem ok_85 : lc_85.all (okQ 85) = true := by decide +kernel
theorem ok_86 : lc_86.all (okQ 86) = true := by decide +kernel
theorem ok_87 : lc_87.all (okQ 87) = true := by decide +kernel
theorem ok_88 : lc_88.all (okQ 88) = true := by decide +kernel
theorem ok_89 : lc_89.all (okQ 89) = true := by decide +kernel
theorem ok_90 : lc_90.all (okQ 90) = true := by decide +kernel
theorem ok_91 : lc_91.all (okQ 91) = true := by decide +kernel
theorem ok_92 : lc_92.all (okQ 92) = true := by decide +kernel
theorem ok_93 : lc_93.all (okQ 93) = true := by decide +kernel
theorem ok_94 : lc_94.all (okQ 94) = true := by decide +kernel
theorem ok_95 : lc_95.all (okQ 95) = true := by decide +kernel
theorem ok_96 : lc_96.all (okQ 96) = true := by decide +kernel
theorem ok_97 : lc_97.all (okQ 97) = true := by decide +kernel
theorem ok_98 : lc_98.all (okQ 98) = true := by decide +kernel
theorem ok_99 : lc_99.all (okQ 99) = true := by decide +kernel
theorem ok_100 : lc_100.all (okQ 100) = true := by decide +kernel
theorem ok_101 : lc_101.all (okQ 101) = true := by decide +kernel
theorem ok_102 : lc_102.all (okQ 102) = true := by decide +kernel
theorem ok_103 : lc_103.all (okQ 103) = true := by decide +kernel
theorem ok_104 : lc_104.all (okQ 104) = true := by decide +kernel
theorem ok_105 : lc_105.all (okQ 105) = true := by decide +kernel
theorem ok_106 : lc_106.all (okQ 106) = true := by decide +kernel
theorem ok_107 : lc_107.all (okQ 107) = true := by decide +kernel
theorem ok_108 : lc_108.all (okQ 108) = true := by decide +kernel
theorem ok_109 : lc_109.all (okQ 109) = true := by decide +kernel
theorem ok_110 : lc_110.all (okQ 110) = true := by decide +kernel
theorem ok_111 : lc_111.all (okQ 111) = true := by decide +kernel
theorem ok_112 : lc_112.all (okQ 112) = true := by decide +kernel
theorem ok_113 : lc_113.all (okQ 113) = true := by decide +kernel
theorem ok_114 : lc_114.all (okQ 114) = true := by decide +kernel
theorem ok_115 : lc_115.all (okQ 115) = true := by decide +kernel
theorem ok_116 : lc_116.all (okQ 116) = true := by decide +kernel
theorem ok_117 : lc_117.all (okQ 117) = true := by decide +kernel
theorem ok_118 : lc_118.all (okQ 118) = true := by decide +kernel
theorem ok_119 : lc_119.all (okQ 119) = true := by decide +kernel
theorem ok_120 : lc_120.all (okQ 120) = true := by decide +kernel
theorem ok_121 : lc_121.all (okQ 121) = true := by decide +kernel
theorem ok_122 : lc_122.all (okQ 122) = true := by decide +kernel
theorem ok_123 : lc_123.all (okQ 123) = true := by decide +kernel
theorem ok_124 : lc_124.all (okQ 124) = true := by decide +kernel
theorem ok_125 : lc_125.all (okQ 125) = true := by decide +kernel
theorem ok_126 : lc_126.all (okQ 126) = true := by decide +kernel
theorem ok_127 : lc_127.all (okQ 127) = true := by decide +kernel
theorem ok_128 : lc_128.all (okQ 128) = true := by decide +kernel
theorem ok_129 : lc_129.all (okQ 129) = true := by decide +kernel
theorem ok_130 : lc_130.all (okQ 130) = true := by decide +kernel
theorem ok_131 : lc_131.all (okQ 131) = true := by decide +kernel
theorem ok_132 : lc_132.all (okQ 132) = true := by decide +kernel
theorem ok_133 : lc_133.all (okQ 133) = true := by decide +kernel
theorem ok_134 : lc_134.all (okQ 134) = true := by decide +kernel
theorem ok_135 : lc_135.all (okQ 135) = true := by decide +kernel
theorem ok_136 : lc_136.all (okQ 136) = true := by decide +kernel
theorem ok_137 : lc_137.all (okQ 137) = true := by decide +kernel
theorem ok_138 : lc_138.all (okQ 138) = true := by decide +kernel
theorem ok_139 : lc_139.all (okQ 139) = true := by decide +kernel
theorem ok_140 : lc_140.all (okQ 140) = true := by decide +kernel
theorem ok_141 : lc_141.all (okQ 141) = true := by decide +kernel
theorem ok_142 : lc_142.all (okQ 142) = true := by decide +kernel
theorem ok_143 : lc_143.all (okQ 143) = true := by decide +kernel
theorem ok_144 : lc_144.all (okQ 144) = true := by decide +kernel
theorem ok_145 : lc_145.all (okQ 145) = true := by decide +kernel
theorem ok_146 : lc_146.all (okQ 146) = true := by decide +kernel
theorem ok_147 : lc_147.all (okQ 147) = true := by decide +kernel
theorem ok_148 : lc_148.all (okQ 148) = true := by decide +kernel
theorem ok_149 : lc_149.all (okQ 149) = true := by decide +kernel
theorem ok_150 : lc_150.all (okQ 150) = true := by decide +kernel
theorem ok_151 : lc_151.all (okQ 151) = true := by decide +kernel
theorem ok_152 : lc_152.all (okQ 152) = true := by decide +kernel
theorem ok_153 : lc_153.all (okQ 153) = true := by decide +kernel
theorem ok_154 : lc_154.all (okQ 154) = true := by decide +kernel
theorem ok_155 : lc_155.all (okQ 155) = true := by decide +kernel
theorem ok_156 : lc_156.all (okQ 156) = true := by decide +kernel
theorem ok_157 : lc_157.all (okQ 157) = true := by decide +kernel
theorem ok_158 : lc_158.all (okQ 158) = true := by decide +kernel
theorem ok_159 : lc_159.all (okQ 159) = true := by decide +kernel
theorem ok_160 : lc_160.all (okQ 160) = true := by decide +kernel
theorem ok_161 : lc_161.all (okQ 161) = true := by decide +kernel
theorem ok_162 : lc_162.all (okQ 162) = true := by decide +kernel
theorem ok_163 : lc_163.all (okQ 163) = true := by decide +kernel
theorem ok_164 : lc_164.all (okQ 164) = true := by decide +kernel
theorem ok_165 : lc_165.all (okQ 165) = true := by decide +kernel
theorem ok_166 : lc_166.all (okQ 166) = true := by decide +kernel
theorem ok_167 : lc_167.all (okQ 167) = true := by decide +kernel
theorem ok_168 : lc_168.all (okQ 168) = true := by decide +kernel
theorem ok_169 : lc_169.all (okQ 169) = true := by decide +kernel
theorem ok_170 : lc_170.all (okQ 170) = true := by decide +kernel
theorem ok_171 : lc_171.all (okQ 171) = true := by decide +kernel
theorem ok_172 : lc_172.all (okQ 172) = true := by decide +kernel
theorem ok_173 : lc_173.all (okQ 173) = true := by decide +kernel
theorem ok_174_0 : lc_174_0.all (okQ 174) = true := by decide +kernel
theorem ok_174_1 : lc_174_1.all (okQ 174) = true := by decide +kernel
theorem ok_174 : lc_174.all (okQ 174) = true := by simp only [lc_174, List.all_append, ok_174_0, ok_174_1, Bool.and_self]
theorem ok_175 : lc_175.all (okQ 175) = true := by decide +kernel
theorem ok_176 : lc_176.all (okQ 176) = true := by decide +kernel
theorem ok_177 : lc_177.all (okQ 177) = true := by decide +kernel
theorem ok_178 : lc_178.all (okQ 178) = true := by decide +kernel
theorem ok_179 : lc_179.all (okQ 179) = true := by decide +kernel
theorem ok_180 : lc_180.all (okQ 180) = true := by decide +kernel
theorem ok_181 : lc_181.all (okQ 181) = true := by decide +kernel
theorem ok_182 : lc_182.all (okQ 182) = true := by decide +kernel
theorem ok_183 : lc_183.all (okQ 183) = true := by decide +kernel
theorem ok_184 : lc_184.all (okQ 184) = true := by decide +kernel
theorem ok_185 : lc_185.all (okQ 185) = true := by decide +kernel
theorem ok_186_0 : lc_186_0.all (okQ 186) = true := by decide +kernel
theorem ok_186_1 : lc_186_1.all (okQ 186) = true := by decide +kernel
theorem ok_186 : lc_186.all (okQ 186) = true := by simp only [lc_186, List.all_append, ok_186_0, ok_186_1, Bool.and_self]
theorem ok_187 : lc_187.all (okQ 187) = true := by decide +kernel
theorem ok_188 : lc_188.all (okQ 188) = true := by decide +kernel
theorem ok_189 : lc_189.all (okQ 189) = true := by decide +kernel
theorem ok_190 : lc_190.all (okQ 190) = true := by decide +kernel
theorem ok_191 : lc_191.all (okQ 191) = true := by decide +kernel
theorem ok_192 : lc_192.all (okQ 192) = true := by decide +kernel
theorem ok_193 : lc_193.all (okQ 193) = true := by decide +kernel
theorem ok_194 : lc_194.all (okQ 194) = true := by decide +kernel
theorem ok_195 : lc_195.all (okQ 195) = true := by decide +kernel
theorem ok_196 : lc_196.all (okQ 196) = true := by decide +kernel
theorem ok_197 : lc_197.all (okQ 197) = true := by decide +kernel
theorem ok_198 : lc_198.all (okQ 198) = true := by decide +kernel
theorem ok_199_0 : lc_199_0.all (okQ 199) = true := by decide +kernel
theorem ok_199_1 : lc_199_1.all (okQ 199) = true := by decide +kernel
theorem ok_199 : lc_199.all (okQ 199) = true := by simp only [lc_199, List.all_append, ok_199_0, ok_199_1, Bool.and_self]
theorem ok_200 : lc_200.all (okQ 200) = true := by decide +kernel
theorem ok_201 : lc_201.all (okQ 201) = true := by decide +kernel
theorem ok_202 : lc_202.all (okQ 202) = true := by decide +kernel
theorem ok_203 : lc_203.all (okQ 203) = true := by decide +kernel
theorem ok_204 : lc_204.all (okQ 204) = true := by decide +kernel
theorem ok_205 : lc_205.all (okQ 205) = true := by decide +kernel
theorem ok_206 : lc_206.all (okQ 206) = true := by decide +kernel
theorem ok_207 : lc_207.all (okQ 207) = true := by decide +kernel
theorem ok_208 : lc_208.all (okQ 208) = true := by decide +kernel
theorem ok_209 : lc_209.all (okQ 209) = true := by decide +kernel
theorem ok_210 : lc_210.all (okQ 210) = true := by decide +kernel
theorem ok_211 : lc_211.all (okQ 211) = true := by decide +kernel
theorem ok_212 : lc_212.all (okQ 212) = true := by decide +kernel
theorem ok_213 : lc_213.all (okQ 213) = true := by decide +kernel
theorem ok_214_0 : lc_214_0.all (okQ 214) = true := by decide +kernel
theorem ok_214_1 : lc_214_1.all (okQ 214) = true := by decide +kernel
theorem ok_214 : lc_214.all (okQ 214) = true := by simp only [lc_214, List.all_append, ok_214_0, ok_214_1, Bool.and_self]
theorem ok_215 : lc_215.all (okQ 215) = true := by decide +kernel
theorem ok_216 : lc_216.all (okQ 216) = true := by decide +kernel
theorem ok_217 : lc_217.all (okQ 217) = true := by decide +kernel
theorem ok_218 : lc_218.all (okQ 218) = true := by decide +kernel
theorem ok_219 : lc_219.all (okQ 219) = true := by decide +kernel
theorem ok_220 : lc_220.all (okQ 220) = true := by decide +kernel
theorem ok_221 : lc_221.all (okQ 221) = true := by decide +kernel
theorem ok_222 : lc_222.all (okQ 222) = true := by decide +kernel
theorem ok_223 : lc_223.all (okQ 223) = true := by decide +kernel
theorem ok_224 : lc_224.all (okQ 224) = true := by decide +kernel
theorem ok_225 : lc_225.all (okQ 225) = true := by decide +kernel
theorem ok_226 : lc_226.all (okQ 226) = true := by decide +kernel
theorem ok_227 : lc_227.all (okQ 227) = true := by decide +kernel
theorem ok_228 : lc_228.all (okQ 228) = true := by decide +kernel
theorem ok_229 : lc_229.all (okQ 229) = true := by decide +kernel
theorem ok_230 : lc_230.all (okQ 230) = true := by decide +kernel
theorem ok_231 : lc_231.all (okQ 231) = true := by decide +kernel
theorem ok_232 : lc_232.all (okQ 232) = true := by decide +kernel
theorem ok_233 : lc_233.all (okQ 233) = true := by decide +kernel
theorem ok_234 : lc_234.all (okQ 234) = true := by decide +kernel
theorem ok_235 : lc_235.all (okQ 235) = true := by decide +kernel
theorem ok_236 : lc_236.all (okQ 236) = true := by decide +kernel
theorem ok_237_0 : lc_237_0.all (okQ 237) = true := by decide +kernel
theorem ok_237_1 : lc_237_1.all (okQ 237) = true := by decide +kernel
theorem ok_237 : lc_237.all (okQ 237) = true := by simp only [lc_237, List.all_append, ok_237_0, ok_237_1, Bool.and_self]
theorem ok_238 : lc_238.all (okQ 238) = true := by decide +kernel
theorem ok_239 : lc_239.all (okQ 239) = true := by decide +kernel
theorem ok_240 : lc_240.all (okQ 240) = true := by decide +kernel
theorem ok_241 : lc_241.all (okQ 241) = true := by decide +kernel
theorem ok_242 : lc_242.all (okQ 242) = true := by decide +kernel
theorem ok_243 : lc_243.all (okQ 243) = true := by decide +kernel
theorem ok_244 : lc_244.all (okQ 244) = true := by decide +kernel
theorem ok_245 : lc_245.all (okQ 245) = true := by decide +kernel
theorem ok_246 : lc_246.all (okQ 246) = true := by decide +kernel
theorem ok_247_0 : lc_247_0.all (okQ 247) = true := by decide +kernel
theorem ok_247_1 : lc_247_1.all (okQ 247) = true := by decide +kernel
theorem ok_247 : lc_247.all (okQ 247) = true := by simp only [lc_247, List.all_append, ok_247_0, ok_247_1, Bool.and_self]
theorem ok_248_0 : lc_248_0.all (okQ 248) = true := by decide +kernel
theorem ok_248_1 : lc_248_1.all (okQ 248) = true := by decide +kernel
theorem ok_248 : lc_248.all (okQ 248) = true := by simp only [lc_248, List.all_append, ok_248_0, ok_248_1, Bool.and_self]
theorem ok_249 : lc_249.all (okQ 249) = true := by decide +kernel
theorem ok_250 : lc_250.all (okQ 250) = true := by decide +kernel
theorem ok_251 : lc_251.all (okQ 251) = true := by decide +kernel
theorem ok_252 : lc_252.all (okQ 252) = true := by decide +kernel
theorem ok_253 : lc_253.all (okQ 253) = true := by decide +kernel
theorem ok_254 : lc_254.all (okQ 254) = true := by decide +kernel
theorem ok_255 : lc_255.all (okQ 255) = true := by decide +kernel
theorem ok_256_0 : lc_256_0.all (okQ 256) = true := by decide +kernel
theorem ok_256_1 : lc_256_1.all (okQ 256) = true := by decide +kernel
theorem ok_256 : lc_256.all (okQ 256) = true := by simp only [lc_256, List.all_append, ok_256_0, ok_256_1, Bool.and_self]
theorem ok_257 : lc_257.all (okQ 257) = true := by decide +kernel
theorem ok_258 : lc_258.all (okQ 258) = true := by decide +kernel
theorem ok_259 : lc_259.all (okQ 259) = true := by decide +kernel
theorem ok_260 : lc_260.all (okQ 260) = true := by decide +kernel
theorem ok_261_0 : lc_261_0.all (okQ 261) = true := by decide +kernel
theorem ok_261_1 : lc_261_1.all (okQ 261) = true := by decide +kernel
theorem ok_261 : lc_261.all (okQ 261) = true := by simp only [lc_261, List.all_append, ok_261_0, ok_261_1, Bool.and_self]
theorem ok_262 : lc_262.all (okQ 262) = true := by decide +kernel
theorem ok_263 : lc_263.all (okQ 263) = true := by decide +kernel
theorem ok_264 : lc_264.all (okQ 264) = true := by decide +kernel
theorem ok_265_0 : lc_265_0.all (okQ 265) = true := by decide +kernel
theorem ok_265_1 : lc_265_1.all (okQ 265) = true := by decide +kernel
theorem ok_265 : lc_265.all (okQ 265) = true := by simp only [lc_265, List.all_append, ok_265_0, ok_265_1, Bool.and_self]
theorem ok_266 : lc_266.all (okQ 266) = true := by decide +kernel
theorem ok_267 : lc_267.all (okQ 267) = true := by decide +kernel
theorem ok_268_0 : lc_268_0.all (okQ 268) = true := by decide +kernel
theorem ok_268_1 : lc_268_1.all (okQ 268) = true := by decide +kernel
theorem ok_268 : lc_268.all (okQ 268) = true := by simp only [lc_268, List.all_append, ok_268_0, ok_268_1, Bool.and_self]
theorem ok_269 : lc_269.all (okQ 269) = true := by decide +kernel
theorem ok_270 : lc_270.all (okQ 270) = true := by decide +kernel
theorem ok_271 : lc_271.all (okQ 271) = true := by decide +kernel
theorem ok_272 : lc_272.all (okQ 272) = true := by decide +kernel
theorem ok_273 : lc_273.all (okQ 273) = true := by decide +kernel
theorem ok_274_0 : lc_274_0.all (okQ 274) = true := by decide +kernel
theorem ok_274_1 : lc_274_1.all (okQ 274) = true := by decide +kernel
theorem ok_274_2 : lc_274_2.all (okQ 274) = true := by decide +kernel
theorem ok_274_3 : lc_274_3.all (okQ 274) = true := by decide +kernel
theorem ok_274_4 : lc_274_4.all (okQ 274) = true := by decide +kernel
theorem ok_274_5 : lc_274_5.all (okQ 274) = true := by decide +kernel
theorem ok_274_6 : lc_274_6.all (okQ 274) = true := by decide +kernel
theorem ok_274_7 : lc_274_7.all (okQ 274) = true := by decide +kernel
theorem ok_274_8 : lc_274_8.all (okQ 274) = true := by decide +kernel
theorem ok_274 : lc_274.all (okQ 274) = true := by simp only [lc_274, List.all_append, ok_274_0, ok_274_1, ok_274_2, ok_274_3, ok_274_4, ok_274_5, ok_274_6, ok_274_7, ok_274_8, Bool.and_self]
/-- every list's rows are good, from a number on -/
def okFrom : Nat → List (List (Nat × LI)) → Prop
  | _, [] => True
  | y, l :: t => l.all (okQ y) = true ∧ okFrom (y + 1) t
theorem okFrom_get : ∀ (L : List (List (Nat × LI))) (y0 : Nat), okFrom y0 L → ∀ (y : Nat) (l : List (Nat × LI)), L[y]? = some l → l.all (okQ (y0 + y)) = true
  | [], _, _, _, _, h => by simp at h
  | a :: t, y0, ho, 0, l, h => by
    simp only [List.getElem?_cons_zero, Option.some.injEq] at h
    subst h
    exact ho.1
  | a :: t, y0, ho, y + 1, l, h => by
    have h1 := okFrom_get t (y0 + 1) ho.2 y l (by simpa using h)
    rw [show y0 + (y + 1) = y0 + 1 + y by omega]
    exact h1
theorem lkp_mem : ∀ {L : List (Nat × LI)} {pc : Nat} {li : LI}, lkp L pc = some li → (pc, li) ∈ L
  | [], _, _, h => by simp [lkp] at h
  | q :: t, pc, li, h => by
    unfold lkp at h
    cases hb : Nat.beq q.1 pc with
    | true =>
      rw [hb] at h
      have h1 : q.1 = pc := Nat.eq_of_beq_eq_true hb
      have h2 : q.2 = li := by simpa using h
      rw [← h1, ← h2]
      exact List.mem_cons_self
    | false =>
      rw [hb] at h
      exact List.mem_cons_of_mem _ (lkp_mem h)
theorem okg_0 : ∀ t, okFrom 20 t → okFrom 0 (lcg_0 ++ t) := fun t h => ⟨ok_0, ok_1, ok_2, ok_3, ok_4, ok_5, ok_6, ok_7, ok_8, ok_9, ok_10, ok_11, ok_12, ok_13, ok_14, ok_15, ok_16, ok_17, ok_18, ok_19, h⟩
theorem okg_1 : ∀ t, okFrom 40 t → okFrom 20 (lcg_1 ++ t) := fun t h => ⟨ok_20, ok_21, ok_22, ok_23, ok_24, ok_25, ok_26, ok_27, ok_28, ok_29, ok_30, ok_31, ok_32, ok_33, ok_34, ok_35, ok_36, ok_37, ok_38, ok_39, h⟩
theorem okg_2 : ∀ t, okFrom 60 t → okFrom 40 (lcg_2 ++ t) := fun t h => ⟨ok_40, ok_41, ok_42, ok_43, ok_44, ok_45, ok_46, ok_47, ok_48, ok_49, ok_50, ok_51, ok_52, ok_53, ok_54, ok_55, ok_56, ok_57, ok_58, ok_59, h⟩
theorem okg_3 : ∀ t, okFrom 80 t → okFrom 60 (lcg_3 ++ t) := fun t h => ⟨ok_60, ok_61, ok_62, ok_63, ok_64, ok_65, ok_66, ok_67, ok_68, ok_69, ok_70, ok_71, ok_72, ok_73, ok_74, ok_75, ok_76, ok_77, ok_78, ok_79, h⟩
theorem okg_4 : ∀ t, okFrom 100 t → okFrom 80 (lcg_4 ++ t) := fun t h => ⟨ok_80, ok_81, ok_82, ok_83, ok_84, ok_85, ok_86, ok_87, ok_88, ok_89, ok_90, ok_91, ok_92, ok_93, ok_94, ok_95, ok_96, ok_97, ok_98, ok_99, h⟩
theorem okg_5 : ∀ t, okFrom 120 t → okFrom 100 (lcg_5 ++ t) := fun t h => ⟨ok_100, ok_101, ok_102, ok_103, ok_104, ok_105, ok_106, ok_107, ok_108, ok_109, ok_110, ok_111, ok_112, ok_113, ok_114, ok_115, ok_116, ok_117, ok_118, ok_119, h⟩
theorem okg_6 : ∀ t, okFrom 140 t → okFrom 120 (lcg_6 ++ t) := fun t h => ⟨ok_120, ok_121, ok_122, ok_123, ok_124, ok_125, ok_126, ok_127, ok_128, ok_129, ok_130, ok_131, ok_132, ok_133, ok_134, ok_135, ok_136, ok_137, ok_138, ok_139, h⟩
theorem okg_7 : ∀ t, okFrom 160 t → okFrom 140 (lcg_7 ++ t) := fun t h => ⟨ok_140, ok_141, ok_142, ok_143, ok_144, ok_145, ok_146, ok_147, ok_148, ok_149, ok_150, ok_151, ok_152, ok_153, ok_154, ok_155, ok_156, ok_157, ok_158, ok_159, h⟩
theorem okg_8 : ∀ t, okFrom 180 t → okFrom 160 (lcg_8 ++ t) := fun t h => ⟨ok_160, ok_161, ok_162, ok_163, ok_164, ok_165, ok_166, ok_167, ok_168, ok_169, ok_170, ok_171, ok_172, ok_173, ok_174, ok_175, ok_176, ok_177, ok_178, ok_179, h⟩
theorem okg_9 : ∀ t, okFrom 200 t → okFrom 180 (lcg_9 ++ t) := fun t h => ⟨ok_180, ok_181, ok_182, ok_183, ok_184, ok_185, ok_186, ok_187, ok_188, ok_189, ok_190, ok_191, ok_192, ok_193, ok_194, ok_195, ok_196, ok_197, ok_198, ok_199, h⟩
theorem okg_10 : ∀ t, okFrom 220 t → okFrom 200 (lcg_10 ++ t) := fun t h => ⟨ok_200, ok_201, ok_202, ok_203, ok_204, ok_205, ok_206, ok_207, ok_208, ok_209, ok_210, ok_211, ok_212, ok_213, ok_214, ok_215, ok_216, ok_217, ok_218, ok_219, h⟩
theorem okg_11 : ∀ t, okFrom 240 t → okFrom 220 (lcg_11 ++ t) := fun t h => ⟨ok_220, ok_221, ok_222, ok_223, ok_224, ok_225, ok_226, ok_227, ok_228, ok_229, ok_230, ok_231, ok_232, ok_233, ok_234, ok_235, ok_236, ok_237, ok_238, ok_239, h⟩
theorem okg_12 : ∀ t, okFrom 260 t → okFrom 240 (lcg_12 ++ t) := fun t h => ⟨ok_240, ok_241, ok_242, ok_243, ok_244, ok_245, ok_246, ok_247, ok_248, ok_249, ok_250, ok_251, ok_252, ok_253, ok_254, ok_255, ok_256, ok_257, ok_258, ok_259, h⟩
theorem okg_13 : ∀ t, okFrom 275 t → okFrom 260 (lcg_13 ++ t) := fun t h => ⟨ok_260, ok_261, ok_262, ok_263, ok_264, ok_265, ok_266, ok_267, ok_268, ok_269, ok_270, ok_271, ok_272, ok_273, ok_274, h⟩
theorem okAllC : okFrom 0 lcAll := by
  have h : okFrom 275 [] := trivial
  have h := okg_13 [] h
  rw [List.append_nil] at h
  have h := okg_12 _ h
  have h := okg_11 _ h
  have h := okg_10 _ h
  have h := okg_9 _ h
  have h := okg_8 _ h
  have h := okg_7 _ h
  have h := okg_6 _ h
  have h := okg_5 _ h
  have h := okg_4 _ h
  have h := okg_3 _ h
  have h := okg_2 _ h
  have h := okg_1 _ h
  have h := okg_0 _ h
  exact h
theorem cd_ok {y pc : Nat} {li : LI} (h : cd y pc = some li) : okQ y (pc, li) = true := by
  unfold cd at h
  cases hl : lcAll[y]? with
  | none => rw [hl] at h; simp [lkp] at h
  | some l =>
    rw [hl] at h
    have h1 := okFrom_get lcAll 0 okAllC y l hl
    rw [Nat.zero_add] at h1
    exact List.all_eq_true.mp h1 _ (lkp_mem h)
