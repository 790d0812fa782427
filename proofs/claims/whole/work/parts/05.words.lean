theorem tw_0 : Cond.initialized RL ∈ tb := tb_of (List.mem_of_getElem? (i := 46) (by decide +kernel)) (by decide +kernel)
theorem tw_1 : Cond.initialized RX8 ∈ tb := tb_of (List.mem_of_getElem? (i := 47) (by decide +kernel)) (by decide +kernel)
theorem tw_2 : Cond.initialized RX0 ∈ tb := tb_of (List.mem_of_getElem? (i := 48) (by decide +kernel)) (by decide +kernel)
theorem tw_3 : Cond.initialized RX6 ∈ tb := tb_of (List.mem_of_getElem? (i := 49) (by decide +kernel)) (by decide +kernel)
theorem tw_4 : Cond.initialized RX2 ∈ tb := tb_of (List.mem_of_getElem? (i := 50) (by decide +kernel)) (by decide +kernel)
theorem tw_5 : Cond.initialized RX7 ∈ tb := tb_of (List.mem_of_getElem? (i := 51) (by decide +kernel)) (by decide +kernel)
theorem tw_6 : Cond.initialized RX4 ∈ tb := tb_of (List.mem_of_getElem? (i := 52) (by decide +kernel)) (by decide +kernel)
theorem tw_7 : Cond.initialized RX9 ∈ tb := tb_of (List.mem_of_getElem? (i := 53) (by decide +kernel)) (by decide +kernel)
theorem tw_8 : Cond.initialized "java/lang/System" ∈ tb := tb_of (List.mem_of_getElem? (i := 54) (by decide +kernel)) (by decide +kernel)
theorem tw_9 : Cond.initialized RX5 ∈ tb := tb_of (List.mem_of_getElem? (i := 55) (by decide +kernel)) (by decide +kernel)
theorem tw_10 : Cond.initialized "java/lang/Math" ∈ tb := tb_of (List.mem_of_getElem? (i := 56) (by decide +kernel)) (by decide +kernel)
theorem tw_11 : Cond.initialized RX1 ∈ tb := tb_of (List.mem_of_getElem? (i := 57) (by decide +kernel)) (by decide +kernel)
theorem tw_12 : Cond.initialized RX3 ∈ tb := tb_of (List.mem_of_getElem? (i := 58) (by decide +kernel)) (by decide +kernel)
theorem tw_13 : Cond.classLink RL 7 RX8 ∈ tb := tb_of (List.mem_of_getElem? (i := 59) (by decide +kernel)) (by decide +kernel)
theorem tw_14 : Cond.instantiable RX8 8 ∈ tb := tb_of (List.mem_of_getElem? (i := 60) (by decide +kernel)) (by decide +kernel)
theorem tw_15 : Cond.methodLink RL 9 yX8_init ∈ tb := tb_of (List.mem_of_getElem? (i := 61) (by decide +kernel)) (by decide +kernel)
theorem tw_16 : Cond.instanceMethod yX8_init ∈ tb := tb_of (List.mem_of_getElem? (i := 62) (by decide +kernel)) (by decide +kernel)
theorem tw_17 : Cond.code yX8_init cX8_init 2 none ∈ tb := tb_of (List.mem_of_getElem? (i := 63) (by decide +kernel)) (by decide +kernel)
theorem tw_18 : Cond.methodLink RX8 1 objectInit ∈ tb := tb_of (List.mem_of_getElem? (i := 64) (by decide +kernel)) (by decide +kernel)
theorem tw_19 : Cond.instanceMethod objectInit ∈ tb := tb_of (List.mem_of_getElem? (i := 65) (by decide +kernel)) (by decide +kernel)
theorem tw_20 : Cond.code objectInit ⟨#[0xb1]⟩ 1 none ∈ tb := tb_of (List.mem_of_getElem? (i := 66) (by decide +kernel)) (by decide +kernel)
theorem tw_21 : Cond.classLink RX8 7 RX0 ∈ tb := tb_of (List.mem_of_getElem? (i := 67) (by decide +kernel)) (by decide +kernel)
theorem tw_22 : Cond.instantiable RX0 8 ∈ tb := tb_of (List.mem_of_getElem? (i := 68) (by decide +kernel)) (by decide +kernel)
theorem tw_23 : Cond.methodLink RX8 9 yX0_init ∈ tb := tb_of (List.mem_of_getElem? (i := 69) (by decide +kernel)) (by decide +kernel)
theorem tw_24 : Cond.instanceMethod yX0_init ∈ tb := tb_of (List.mem_of_getElem? (i := 70) (by decide +kernel)) (by decide +kernel)
theorem tw_25 : Cond.code yX0_init cX0_init 2 none ∈ tb := tb_of (List.mem_of_getElem? (i := 71) (by decide +kernel)) (by decide +kernel)
theorem tw_26 : Cond.methodLink RX0 3 objectInit ∈ tb := tb_of (List.mem_of_getElem? (i := 72) (by decide +kernel)) (by decide +kernel)
theorem tw_27 : Cond.fieldLink RX0 9 RX0 "beats" "[I" ∈ tb := tb_of (List.mem_of_getElem? (i := 73) (by decide +kernel)) (by decide +kernel)
theorem tw_28 : Cond.fieldLink RX8 70 RX0 "beats" "[I" ∈ tb := tb_of (List.mem_of_getElem? (i := 74) (by decide +kernel)) (by decide +kernel)
theorem tw_29 : Cond.fieldLink RX0 15 RX0 "nicks" "[I" ∈ tb := tb_of (List.mem_of_getElem? (i := 75) (by decide +kernel)) (by decide +kernel)
theorem tw_30 : Cond.fieldLink RX8 74 RX0 "nicks" "[I" ∈ tb := tb_of (List.mem_of_getElem? (i := 76) (by decide +kernel)) (by decide +kernel)
theorem tw_31 : Cond.fieldLink RX0 18 RX0 "owners" "[I" ∈ tb := tb_of (List.mem_of_getElem? (i := 77) (by decide +kernel)) (by decide +kernel)
theorem tw_32 : Cond.fieldLink RX8 77 RX0 "owners" "[I" ∈ tb := tb_of (List.mem_of_getElem? (i := 78) (by decide +kernel)) (by decide +kernel)
theorem tw_33 : Cond.fieldLink RX0 21 RX0 "spots" "[I" ∈ tb := tb_of (List.mem_of_getElem? (i := 79) (by decide +kernel)) (by decide +kernel)
theorem tw_34 : Cond.fieldLink RX8 80 RX0 "spots" "[I" ∈ tb := tb_of (List.mem_of_getElem? (i := 80) (by decide +kernel)) (by decide +kernel)
theorem tw_35 : Cond.fieldLink RX0 24 RX0 "kept" "[I" ∈ tb := tb_of (List.mem_of_getElem? (i := 81) (by decide +kernel)) (by decide +kernel)
theorem tw_36 : Cond.fieldLink RX8 83 RX0 "kept" "[I" ∈ tb := tb_of (List.mem_of_getElem? (i := 82) (by decide +kernel)) (by decide +kernel)
theorem tw_37 : Cond.fieldLink RX0 27 RX0 "heard" "[I" ∈ tb := tb_of (List.mem_of_getElem? (i := 83) (by decide +kernel)) (by decide +kernel)
theorem tw_38 : Cond.fieldLink RX8 86 RX0 "heard" "[I" ∈ tb := tb_of (List.mem_of_getElem? (i := 84) (by decide +kernel)) (by decide +kernel)
theorem tw_39 : Cond.fieldLink RX0 30 RX0 "chosen" "[I" ∈ tb := tb_of (List.mem_of_getElem? (i := 85) (by decide +kernel)) (by decide +kernel)
theorem tw_40 : Cond.fieldLink RX8 89 RX0 "chosen" "[I" ∈ tb := tb_of (List.mem_of_getElem? (i := 86) (by decide +kernel)) (by decide +kernel)
theorem tw_41 : Cond.fieldLink RX0 39 RX0 "minute" "I" ∈ tb := tb_of (List.mem_of_getElem? (i := 87) (by decide +kernel)) (by decide +kernel)
theorem tw_42 : Cond.fieldLink RX8 128 RX0 "minute" "I" ∈ tb := tb_of (List.mem_of_getElem? (i := 88) (by decide +kernel)) (by decide +kernel)
theorem tw_60 : Cond.arrayClass .int ∈ tb := tb_of (List.mem_of_getElem? (i := 106) (by decide +kernel)) (by decide +kernel)
theorem tw_61 : Cond.classLink RX8 16 RX6 ∈ tb := tb_of (List.mem_of_getElem? (i := 107) (by decide +kernel)) (by decide +kernel)
theorem tw_62 : Cond.instantiable RX6 7 ∈ tb := tb_of (List.mem_of_getElem? (i := 108) (by decide +kernel)) (by decide +kernel)
theorem tw_63 : Cond.methodLink RX8 18 yX6_init ∈ tb := tb_of (List.mem_of_getElem? (i := 109) (by decide +kernel)) (by decide +kernel)
theorem tw_64 : Cond.instanceMethod yX6_init ∈ tb := tb_of (List.mem_of_getElem? (i := 110) (by decide +kernel)) (by decide +kernel)
theorem tw_65 : Cond.code yX6_init cX6_init 1 none ∈ tb := tb_of (List.mem_of_getElem? (i := 111) (by decide +kernel)) (by decide +kernel)
theorem tw_66 : Cond.methodLink RX6 3 objectInit ∈ tb := tb_of (List.mem_of_getElem? (i := 112) (by decide +kernel)) (by decide +kernel)
theorem tw_67 : Cond.fieldLink RX6 11 RX6 "beats" "[I" ∈ tb := tb_of (List.mem_of_getElem? (i := 113) (by decide +kernel)) (by decide +kernel)
theorem tw_68 : Cond.fieldLink RX6 15 RX6 "spans" "[I" ∈ tb := tb_of (List.mem_of_getElem? (i := 114) (by decide +kernel)) (by decide +kernel)
theorem tw_69 : Cond.fieldLink RX6 18 RX6 "areSo" "[Z" ∈ tb := tb_of (List.mem_of_getElem? (i := 115) (by decide +kernel)) (by decide +kernel)
theorem tw_70 : Cond.fieldLink RX6 22 RX6 "fittingByBeat" "[I" ∈ tb := tb_of (List.mem_of_getElem? (i := 116) (by decide +kernel)) (by decide +kernel)
theorem tw_71 : Cond.fieldLink RX6 25 RX6 "count" "I" ∈ tb := tb_of (List.mem_of_getElem? (i := 117) (by decide +kernel)) (by decide +kernel)
theorem tw_72 : Cond.fieldLink RX8 234 RX6 "count" "I" ∈ tb := tb_of (List.mem_of_getElem? (i := 118) (by decide +kernel)) (by decide +kernel)
theorem tw_73 : Cond.fieldLink RX6 33 RX6 "question" "I" ∈ tb := tb_of (List.mem_of_getElem? (i := 119) (by decide +kernel)) (by decide +kernel)
theorem tw_74 : Cond.fieldLink RX8 196 RX6 "question" "I" ∈ tb := tb_of (List.mem_of_getElem? (i := 120) (by decide +kernel)) (by decide +kernel)
theorem tw_75 : Cond.fieldLink RX6 36 RX6 "leftAtMost" "I" ∈ tb := tb_of (List.mem_of_getElem? (i := 121) (by decide +kernel)) (by decide +kernel)
theorem tw_76 : Cond.fieldLink RX8 199 RX6 "leftAtMost" "I" ∈ tb := tb_of (List.mem_of_getElem? (i := 122) (by decide +kernel)) (by decide +kernel)
theorem tw_92 : Cond.arrayClass .boolean ∈ tb := tb_of (List.mem_of_getElem? (i := 138) (by decide +kernel)) (by decide +kernel)
theorem tw_93 : Cond.classLink RX8 23 RX2 ∈ tb := tb_of (List.mem_of_getElem? (i := 139) (by decide +kernel)) (by decide +kernel)
theorem tw_94 : Cond.instantiable RX2 2 ∈ tb := tb_of (List.mem_of_getElem? (i := 140) (by decide +kernel)) (by decide +kernel)
theorem tw_95 : Cond.methodLink RX8 25 yX2_init ∈ tb := tb_of (List.mem_of_getElem? (i := 141) (by decide +kernel)) (by decide +kernel)
theorem tw_96 : Cond.instanceMethod yX2_init ∈ tb := tb_of (List.mem_of_getElem? (i := 142) (by decide +kernel)) (by decide +kernel)
theorem tw_97 : Cond.code yX2_init cX2_init 1 none ∈ tb := tb_of (List.mem_of_getElem? (i := 143) (by decide +kernel)) (by decide +kernel)
theorem tw_98 : Cond.methodLink RX2 3 objectInit ∈ tb := tb_of (List.mem_of_getElem? (i := 144) (by decide +kernel)) (by decide +kernel)
theorem tw_99 : Cond.fieldLink RX2 11 RX2 "signs" "[I" ∈ tb := tb_of (List.mem_of_getElem? (i := 145) (by decide +kernel)) (by decide +kernel)
theorem tw_100 : Cond.fieldLink RX7 31 RX2 "signs" "[I" ∈ tb := tb_of (List.mem_of_getElem? (i := 146) (by decide +kernel)) (by decide +kernel)
theorem tw_101 : Cond.fieldLink RX2 15 RX2 "count" "I" ∈ tb := tb_of (List.mem_of_getElem? (i := 147) (by decide +kernel)) (by decide +kernel)
theorem tw_102 : Cond.fieldLink RX7 22 RX2 "count" "I" ∈ tb := tb_of (List.mem_of_getElem? (i := 148) (by decide +kernel)) (by decide +kernel)
theorem tw_103 : Cond.fieldLink RX8 231 RX2 "count" "I" ∈ tb := tb_of (List.mem_of_getElem? (i := 149) (by decide +kernel)) (by decide +kernel)
theorem tw_109 : Cond.classLink RX8 30 RX7 ∈ tb := tb_of (List.mem_of_getElem? (i := 155) (by decide +kernel)) (by decide +kernel)
theorem tw_110 : Cond.instantiable RX7 7 ∈ tb := tb_of (List.mem_of_getElem? (i := 156) (by decide +kernel)) (by decide +kernel)
theorem tw_111 : Cond.methodLink RX8 32 yX7_init ∈ tb := tb_of (List.mem_of_getElem? (i := 157) (by decide +kernel)) (by decide +kernel)
theorem tw_112 : Cond.instanceMethod yX7_init ∈ tb := tb_of (List.mem_of_getElem? (i := 158) (by decide +kernel)) (by decide +kernel)
theorem tw_113 : Cond.code yX7_init cX7_init 1 none ∈ tb := tb_of (List.mem_of_getElem? (i := 159) (by decide +kernel)) (by decide +kernel)
theorem tw_114 : Cond.methodLink RX7 3 objectInit ∈ tb := tb_of (List.mem_of_getElem? (i := 160) (by decide +kernel)) (by decide +kernel)
theorem tw_115 : Cond.classLink RX7 9 RX0 ∈ tb := tb_of (List.mem_of_getElem? (i := 161) (by decide +kernel)) (by decide +kernel)
theorem tw_116 : Cond.methodLink RX7 11 yX0_init ∈ tb := tb_of (List.mem_of_getElem? (i := 162) (by decide +kernel)) (by decide +kernel)
theorem tw_117 : Cond.fieldLink RX7 12 RX7 "gallery" "LCradleHour$Gallery;" ∈ tb := tb_of (List.mem_of_getElem? (i := 163) (by decide +kernel)) (by decide +kernel)
theorem tw_118 : Cond.fieldLink RX8 116 RX7 "gallery" "LCradleHour$Gallery;" ∈ tb := tb_of (List.mem_of_getElem? (i := 164) (by decide +kernel)) (by decide +kernel)
theorem tw_119 : Cond.fieldLink RX7 64 RX7 "acts" "I" ∈ tb := tb_of (List.mem_of_getElem? (i := 165) (by decide +kernel)) (by decide +kernel)
theorem tw_120 : Cond.fieldLink RX8 141 RX7 "acts" "I" ∈ tb := tb_of (List.mem_of_getElem? (i := 166) (by decide +kernel)) (by decide +kernel)
theorem tw_121 : Cond.fieldLink RX7 28 RX7 "barredAct" "I" ∈ tb := tb_of (List.mem_of_getElem? (i := 167) (by decide +kernel)) (by decide +kernel)
theorem tw_122 : Cond.fieldLink RX8 106 RX7 "barredAct" "I" ∈ tb := tb_of (List.mem_of_getElem? (i := 168) (by decide +kernel)) (by decide +kernel)
theorem tw_123 : Cond.fieldLink RX7 67 RX7 "barredWhy" "I" ∈ tb := tb_of (List.mem_of_getElem? (i := 169) (by decide +kernel)) (by decide +kernel)
theorem tw_124 : Cond.fieldLink RX8 110 RX7 "barredWhy" "I" ∈ tb := tb_of (List.mem_of_getElem? (i := 170) (by decide +kernel)) (by decide +kernel)
theorem tw_125 : Cond.fieldLink RX7 70 RX7 "hearings" "I" ∈ tb := tb_of (List.mem_of_getElem? (i := 171) (by decide +kernel)) (by decide +kernel)
theorem tw_126 : Cond.fieldLink RX8 113 RX7 "hearings" "I" ∈ tb := tb_of (List.mem_of_getElem? (i := 172) (by decide +kernel)) (by decide +kernel)
theorem tw_127 : Cond.fieldLink RX7 73 RX7 "wrongAct" "I" ∈ tb := tb_of (List.mem_of_getElem? (i := 173) (by decide +kernel)) (by decide +kernel)
theorem tw_128 : Cond.fieldLink RX8 131 RX7 "wrongAct" "I" ∈ tb := tb_of (List.mem_of_getElem? (i := 174) (by decide +kernel)) (by decide +kernel)
theorem tw_129 : Cond.fieldLink RX7 76 RX7 "wrongHeir" "I" ∈ tb := tb_of (List.mem_of_getElem? (i := 175) (by decide +kernel)) (by decide +kernel)
theorem tw_130 : Cond.fieldLink RX8 134 RX7 "wrongHeir" "I" ∈ tb := tb_of (List.mem_of_getElem? (i := 176) (by decide +kernel)) (by decide +kernel)
theorem tw_146 : Cond.classLink RX8 37 RX4 ∈ tb := tb_of (List.mem_of_getElem? (i := 192) (by decide +kernel)) (by decide +kernel)
theorem tw_147 : Cond.instantiable RX4 3 ∈ tb := tb_of (List.mem_of_getElem? (i := 193) (by decide +kernel)) (by decide +kernel)
theorem tw_148 : Cond.methodLink RX8 39 yX4_init ∈ tb := tb_of (List.mem_of_getElem? (i := 194) (by decide +kernel)) (by decide +kernel)
theorem tw_149 : Cond.instanceMethod yX4_init ∈ tb := tb_of (List.mem_of_getElem? (i := 195) (by decide +kernel)) (by decide +kernel)
theorem tw_150 : Cond.code yX4_init cX4_init 1 none ∈ tb := tb_of (List.mem_of_getElem? (i := 196) (by decide +kernel)) (by decide +kernel)
theorem tw_151 : Cond.methodLink RX4 3 objectInit ∈ tb := tb_of (List.mem_of_getElem? (i := 197) (by decide +kernel)) (by decide +kernel)
theorem tw_152 : Cond.fieldLink RX4 9 RX4 "longestByBeat" "[I" ∈ tb := tb_of (List.mem_of_getElem? (i := 198) (by decide +kernel)) (by decide +kernel)
theorem tw_153 : Cond.fieldLink RX4 15 RX4 "most" "I" ∈ tb := tb_of (List.mem_of_getElem? (i := 199) (by decide +kernel)) (by decide +kernel)
theorem tw_154 : Cond.fieldLink RX8 180 RX4 "most" "I" ∈ tb := tb_of (List.mem_of_getElem? (i := 200) (by decide +kernel)) (by decide +kernel)
theorem tw_155 : Cond.fieldLink RX4 19 RX4 "first" "I" ∈ tb := tb_of (List.mem_of_getElem? (i := 201) (by decide +kernel)) (by decide +kernel)
theorem tw_156 : Cond.fieldLink RX8 183 RX4 "first" "I" ∈ tb := tb_of (List.mem_of_getElem? (i := 202) (by decide +kernel)) (by decide +kernel)
theorem tw_166 : Cond.fieldLink RX8 10 RX8 "now" "LCradleHour$Gallery;" ∈ tb := tb_of (List.mem_of_getElem? (i := 212) (by decide +kernel)) (by decide +kernel)
theorem tw_167 : Cond.fieldLink RX8 19 RX8 "sights" "LCradleHour$Sights;" ∈ tb := tb_of (List.mem_of_getElem? (i := 213) (by decide +kernel)) (by decide +kernel)
theorem tw_168 : Cond.fieldLink RX8 26 RX8 "pad" "LCradleHour$Pad;" ∈ tb := tb_of (List.mem_of_getElem? (i := 214) (by decide +kernel)) (by decide +kernel)
theorem tw_169 : Cond.fieldLink RX8 33 RX8 "trial" "LCradleHour$Trial;" ∈ tb := tb_of (List.mem_of_getElem? (i := 215) (by decide +kernel)) (by decide +kernel)
theorem tw_170 : Cond.fieldLink RX8 40 RX8 "rising" "LCradleHour$Rising;" ∈ tb := tb_of (List.mem_of_getElem? (i := 216) (by decide +kernel)) (by decide +kernel)
theorem tw_171 : Cond.fieldLink RX8 44 RX8 "galleryImages" "[LCradleHour$Gallery;" ∈ tb := tb_of (List.mem_of_getElem? (i := 217) (by decide +kernel)) (by decide +kernel)
theorem tw_172 : Cond.fieldLink RX8 48 RX8 "sightsImages" "[LCradleHour$Sights;" ∈ tb := tb_of (List.mem_of_getElem? (i := 218) (by decide +kernel)) (by decide +kernel)
theorem tw_173 : Cond.fieldLink RX8 52 RX8 "imageIsKept" "[Z" ∈ tb := tb_of (List.mem_of_getElem? (i := 219) (by decide +kernel)) (by decide +kernel)
theorem tw_191 : Cond.methodLink RL 13 yX8_cradle ∈ tb := tb_of (List.mem_of_getElem? (i := 237) (by decide +kernel)) (by decide +kernel)
theorem tw_192 : Cond.instanceMethod yX8_cradle ∈ tb := tb_of (List.mem_of_getElem? (i := 238) (by decide +kernel)) (by decide +kernel)
theorem tw_193 : Cond.selects RX8 yX8_cradle yX8_cradle ∈ tb := tb_of (List.mem_of_getElem? (i := 239) (by decide +kernel)) (by decide +kernel)
theorem tw_194 : Cond.code yX8_cradle cX8_cradle 6 (some .int) ∈ tb := tb_of (List.mem_of_getElem? (i := 240) (by decide +kernel)) (by decide +kernel)
theorem tw_195 : Cond.methodLink RX8 56 yX8_isPlace ∈ tb := tb_of (List.mem_of_getElem? (i := 241) (by decide +kernel)) (by decide +kernel)
theorem tw_196 : Cond.static yX8_isPlace ∈ tb := tb_of (List.mem_of_getElem? (i := 242) (by decide +kernel)) (by decide +kernel)
theorem tw_197 : Cond.code yX8_isPlace cX8_isPlace 1 (some .boolean) ∈ tb := tb_of (List.mem_of_getElem? (i := 243) (by decide +kernel)) (by decide +kernel)
theorem tw_198 : Cond.methodLink RX8 66 yX8_isWithin ∈ tb := tb_of (List.mem_of_getElem? (i := 244) (by decide +kernel)) (by decide +kernel)
theorem tw_199 : Cond.static yX8_isWithin ∈ tb := tb_of (List.mem_of_getElem? (i := 245) (by decide +kernel)) (by decide +kernel)
theorem tw_200 : Cond.code yX8_isWithin cX8_isWithin 3 (some .boolean) ∈ tb := tb_of (List.mem_of_getElem? (i := 246) (by decide +kernel)) (by decide +kernel)
theorem tw_201 : Cond.methodLink RX8 60 yX8_isHeir ∈ tb := tb_of (List.mem_of_getElem? (i := 247) (by decide +kernel)) (by decide +kernel)
theorem tw_202 : Cond.static yX8_isHeir ∈ tb := tb_of (List.mem_of_getElem? (i := 248) (by decide +kernel)) (by decide +kernel)
theorem tw_203 : Cond.code yX8_isHeir cX8_isHeir 1 (some .boolean) ∈ tb := tb_of (List.mem_of_getElem? (i := 249) (by decide +kernel)) (by decide +kernel)
theorem tw_204 : Cond.methodLink RX8 63 yX8_isBeat ∈ tb := tb_of (List.mem_of_getElem? (i := 250) (by decide +kernel)) (by decide +kernel)
theorem tw_205 : Cond.static yX8_isBeat ∈ tb := tb_of (List.mem_of_getElem? (i := 251) (by decide +kernel)) (by decide +kernel)
theorem tw_206 : Cond.code yX8_isBeat cX8_isBeat 1 (some .boolean) ∈ tb := tb_of (List.mem_of_getElem? (i := 252) (by decide +kernel)) (by decide +kernel)
theorem tw_207 : Cond.methodLink RL 18 yX8_heir ∈ tb := tb_of (List.mem_of_getElem? (i := 253) (by decide +kernel)) (by decide +kernel)
theorem tw_208 : Cond.instanceMethod yX8_heir ∈ tb := tb_of (List.mem_of_getElem? (i := 254) (by decide +kernel)) (by decide +kernel)
theorem tw_209 : Cond.selects RX8 yX8_heir yX8_heir ∈ tb := tb_of (List.mem_of_getElem? (i := 255) (by decide +kernel)) (by decide +kernel)
theorem tw_210 : Cond.code yX8_heir cX8_heir 5 (some .int) ∈ tb := tb_of (List.mem_of_getElem? (i := 256) (by decide +kernel)) (by decide +kernel)
theorem tw_211 : Cond.methodLink RL 23 yX8_say ∈ tb := tb_of (List.mem_of_getElem? (i := 257) (by decide +kernel)) (by decide +kernel)
theorem tw_212 : Cond.instanceMethod yX8_say ∈ tb := tb_of (List.mem_of_getElem? (i := 258) (by decide +kernel)) (by decide +kernel)
theorem tw_213 : Cond.selects RX8 yX8_say yX8_say ∈ tb := tb_of (List.mem_of_getElem? (i := 259) (by decide +kernel)) (by decide +kernel)
theorem tw_214 : Cond.code yX8_say cX8_say 2 (some .int) ∈ tb := tb_of (List.mem_of_getElem? (i := 260) (by decide +kernel)) (by decide +kernel)
theorem tw_215 : Cond.methodLink RX8 92 yX2_add ∈ tb := tb_of (List.mem_of_getElem? (i := 261) (by decide +kernel)) (by decide +kernel)
theorem tw_216 : Cond.instanceMethod yX2_add ∈ tb := tb_of (List.mem_of_getElem? (i := 262) (by decide +kernel)) (by decide +kernel)
theorem tw_217 : Cond.selects RX2 yX2_add yX2_add ∈ tb := tb_of (List.mem_of_getElem? (i := 263) (by decide +kernel)) (by decide +kernel)
theorem tw_218 : Cond.code yX2_add cX2_add 2 (some .int) ∈ tb := tb_of (List.mem_of_getElem? (i := 264) (by decide +kernel)) (by decide +kernel)
theorem tw_219 : Cond.methodLink RL 28 yX8_wipe ∈ tb := tb_of (List.mem_of_getElem? (i := 265) (by decide +kernel)) (by decide +kernel)
theorem tw_220 : Cond.instanceMethod yX8_wipe ∈ tb := tb_of (List.mem_of_getElem? (i := 266) (by decide +kernel)) (by decide +kernel)
theorem tw_221 : Cond.selects RX8 yX8_wipe yX8_wipe ∈ tb := tb_of (List.mem_of_getElem? (i := 267) (by decide +kernel)) (by decide +kernel)
theorem tw_222 : Cond.code yX8_wipe cX8_wipe 1 (some .int) ∈ tb := tb_of (List.mem_of_getElem? (i := 268) (by decide +kernel)) (by decide +kernel)
theorem tw_223 : Cond.methodLink RX8 96 yX2_clear ∈ tb := tb_of (List.mem_of_getElem? (i := 269) (by decide +kernel)) (by decide +kernel)
theorem tw_224 : Cond.instanceMethod yX2_clear ∈ tb := tb_of (List.mem_of_getElem? (i := 270) (by decide +kernel)) (by decide +kernel)
theorem tw_225 : Cond.selects RX2 yX2_clear yX2_clear ∈ tb := tb_of (List.mem_of_getElem? (i := 271) (by decide +kernel)) (by decide +kernel)
theorem tw_226 : Cond.code yX2_clear cX2_clear 2 (some .int) ∈ tb := tb_of (List.mem_of_getElem? (i := 272) (by decide +kernel)) (by decide +kernel)
theorem tw_227 : Cond.methodLink RL 33 yX8_fault ∈ tb := tb_of (List.mem_of_getElem? (i := 273) (by decide +kernel)) (by decide +kernel)
theorem tw_228 : Cond.instanceMethod yX8_fault ∈ tb := tb_of (List.mem_of_getElem? (i := 274) (by decide +kernel)) (by decide +kernel)
theorem tw_229 : Cond.selects RX8 yX8_fault yX8_fault ∈ tb := tb_of (List.mem_of_getElem? (i := 275) (by decide +kernel)) (by decide +kernel)
theorem tw_230 : Cond.code yX8_fault cX8_fault 1 (some .int) ∈ tb := tb_of (List.mem_of_getElem? (i := 276) (by decide +kernel)) (by decide +kernel)
theorem tw_231 : Cond.methodLink RX8 100 yX2_flaw ∈ tb := tb_of (List.mem_of_getElem? (i := 277) (by decide +kernel)) (by decide +kernel)
theorem tw_232 : Cond.instanceMethod yX2_flaw ∈ tb := tb_of (List.mem_of_getElem? (i := 278) (by decide +kernel)) (by decide +kernel)
theorem tw_233 : Cond.selects RX2 yX2_flaw yX2_flaw ∈ tb := tb_of (List.mem_of_getElem? (i := 279) (by decide +kernel)) (by decide +kernel)
theorem tw_234 : Cond.code yX2_flaw cX2_flaw 3 (some .int) ∈ tb := tb_of (List.mem_of_getElem? (i := 280) (by decide +kernel)) (by decide +kernel)
theorem tw_235 : Cond.methodLink RX2 19 yX2_awaitedBehind ∈ tb := tb_of (List.mem_of_getElem? (i := 281) (by decide +kernel)) (by decide +kernel)
theorem tw_236 : Cond.static yX2_awaitedBehind ∈ tb := tb_of (List.mem_of_getElem? (i := 282) (by decide +kernel)) (by decide +kernel)
theorem tw_237 : Cond.code yX2_awaitedBehind cX2_awaitedBehind 2 (some .int) ∈ tb := tb_of (List.mem_of_getElem? (i := 283) (by decide +kernel)) (by decide +kernel)
theorem tw_238 : Cond.methodLink RX2 23 yX2_isLetter ∈ tb := tb_of (List.mem_of_getElem? (i := 284) (by decide +kernel)) (by decide +kernel)
theorem tw_239 : Cond.static yX2_isLetter ∈ tb := tb_of (List.mem_of_getElem? (i := 285) (by decide +kernel)) (by decide +kernel)
theorem tw_240 : Cond.code yX2_isLetter cX2_isLetter 1 (some .boolean) ∈ tb := tb_of (List.mem_of_getElem? (i := 286) (by decide +kernel)) (by decide +kernel)
theorem tw_242 : Cond.methodLink RX2 27 yX2_isDigit ∈ tb := tb_of (List.mem_of_getElem? (i := 288) (by decide +kernel)) (by decide +kernel)
theorem tw_243 : Cond.static yX2_isDigit ∈ tb := tb_of (List.mem_of_getElem? (i := 289) (by decide +kernel)) (by decide +kernel)
theorem tw_244 : Cond.code yX2_isDigit cX2_isDigit 1 (some .boolean) ∈ tb := tb_of (List.mem_of_getElem? (i := 290) (by decide +kernel)) (by decide +kernel)
theorem tw_245 : Cond.methodLink RX2 30 yX2_isWay ∈ tb := tb_of (List.mem_of_getElem? (i := 291) (by decide +kernel)) (by decide +kernel)
theorem tw_246 : Cond.static yX2_isWay ∈ tb := tb_of (List.mem_of_getElem? (i := 292) (by decide +kernel)) (by decide +kernel)
theorem tw_247 : Cond.code yX2_isWay cX2_isWay 1 (some .boolean) ∈ tb := tb_of (List.mem_of_getElem? (i := 293) (by decide +kernel)) (by decide +kernel)
theorem tw_248 : Cond.methodLink RX2 33 yX2_isPlainDeed ∈ tb := tb_of (List.mem_of_getElem? (i := 294) (by decide +kernel)) (by decide +kernel)
theorem tw_249 : Cond.static yX2_isPlainDeed ∈ tb := tb_of (List.mem_of_getElem? (i := 295) (by decide +kernel)) (by decide +kernel)
theorem tw_250 : Cond.code yX2_isPlainDeed cX2_isPlainDeed 1 (some .boolean) ∈ tb := tb_of (List.mem_of_getElem? (i := 296) (by decide +kernel)) (by decide +kernel)
theorem tw_251 : Cond.methodLink RL 37 yX8_judge ∈ tb := tb_of (List.mem_of_getElem? (i := 297) (by decide +kernel)) (by decide +kernel)
theorem tw_252 : Cond.instanceMethod yX8_judge ∈ tb := tb_of (List.mem_of_getElem? (i := 298) (by decide +kernel)) (by decide +kernel)
theorem tw_253 : Cond.selects RX8 yX8_judge yX8_judge ∈ tb := tb_of (List.mem_of_getElem? (i := 299) (by decide +kernel)) (by decide +kernel)
theorem tw_254 : Cond.code yX8_judge cX8_judge 3 (some .int) ∈ tb := tb_of (List.mem_of_getElem? (i := 300) (by decide +kernel)) (by decide +kernel)
theorem tw_255 : Cond.methodLink RX8 103 yX8_followText ∈ tb := tb_of (List.mem_of_getElem? (i := 301) (by decide +kernel)) (by decide +kernel)
theorem tw_257 : Cond.instanceMethod yX8_followText ∈ tb := tb_of (List.mem_of_getElem? (i := 303) (by decide +kernel)) (by decide +kernel)
theorem tw_258 : Cond.code yX8_followText cX8_followText 1 (some .int) ∈ tb := tb_of (List.mem_of_getElem? (i := 304) (by decide +kernel)) (by decide +kernel)
theorem tw_259 : Cond.methodLink RX8 235 yX7_follow ∈ tb := tb_of (List.mem_of_getElem? (i := 305) (by decide +kernel)) (by decide +kernel)
theorem tw_260 : Cond.instanceMethod yX7_follow ∈ tb := tb_of (List.mem_of_getElem? (i := 306) (by decide +kernel)) (by decide +kernel)
theorem tw_261 : Cond.selects RX7 yX7_follow yX7_follow ∈ tb := tb_of (List.mem_of_getElem? (i := 307) (by decide +kernel)) (by decide +kernel)
theorem tw_262 : Cond.code yX7_follow cX7_follow 7 none ∈ tb := tb_of (List.mem_of_getElem? (i := 308) (by decide +kernel)) (by decide +kernel)
theorem tw_263 : Cond.methodLink RX7 18 yX7_begin ∈ tb := tb_of (List.mem_of_getElem? (i := 309) (by decide +kernel)) (by decide +kernel)
theorem tw_265 : Cond.instanceMethod yX7_begin ∈ tb := tb_of (List.mem_of_getElem? (i := 311) (by decide +kernel)) (by decide +kernel)
theorem tw_266 : Cond.code yX7_begin cX7_begin 2 none ∈ tb := tb_of (List.mem_of_getElem? (i := 312) (by decide +kernel)) (by decide +kernel)
theorem tw_267 : Cond.methodLink RX7 61 yX0_copyFrom ∈ tb := tb_of (List.mem_of_getElem? (i := 313) (by decide +kernel)) (by decide +kernel)
theorem tw_268 : Cond.instanceMethod yX0_copyFrom ∈ tb := tb_of (List.mem_of_getElem? (i := 314) (by decide +kernel)) (by decide +kernel)
theorem tw_269 : Cond.selects RX0 yX0_copyFrom yX0_copyFrom ∈ tb := tb_of (List.mem_of_getElem? (i := 315) (by decide +kernel)) (by decide +kernel)
theorem tw_270 : Cond.code yX0_copyFrom cX0_copyFrom 2 none ∈ tb := tb_of (List.mem_of_getElem? (i := 316) (by decide +kernel)) (by decide +kernel)
theorem tw_271 : Cond.methodLink RX0 33 arraycopyName ∈ tb := tb_of (List.mem_of_getElem? (i := 317) (by decide +kernel)) (by decide +kernel)
theorem tw_272 : Cond.static arraycopyName ∈ tb := tb_of (List.mem_of_getElem? (i := 318) (by decide +kernel)) (by decide +kernel)
theorem tw_273 : Cond.native arraycopyName ∈ tb := tb_of (List.mem_of_getElem? (i := 319) (by decide +kernel)) (by decide +kernel)
theorem tw_274 : Cond.methodLink RX7 35 yX7_attempt ∈ tb := tb_of (List.mem_of_getElem? (i := 320) (by decide +kernel)) (by decide +kernel)
theorem tw_276 : Cond.instanceMethod yX7_attempt ∈ tb := tb_of (List.mem_of_getElem? (i := 322) (by decide +kernel)) (by decide +kernel)
theorem tw_277 : Cond.code yX7_attempt cX7_attempt 5 none ∈ tb := tb_of (List.mem_of_getElem? (i := 323) (by decide +kernel)) (by decide +kernel)
theorem tw_278 : Cond.methodLink RX7 54 yX0_bar ∈ tb := tb_of (List.mem_of_getElem? (i := 324) (by decide +kernel)) (by decide +kernel)
theorem tw_279 : Cond.instanceMethod yX0_bar ∈ tb := tb_of (List.mem_of_getElem? (i := 325) (by decide +kernel)) (by decide +kernel)
theorem tw_280 : Cond.selects RX0 yX0_bar yX0_bar ∈ tb := tb_of (List.mem_of_getElem? (i := 326) (by decide +kernel)) (by decide +kernel)
theorem tw_281 : Cond.code yX0_bar cX0_bar 5 (some .int) ∈ tb := tb_of (List.mem_of_getElem? (i := 327) (by decide +kernel)) (by decide +kernel)
theorem tw_283 : Cond.methodLink RX0 47 yX0_isChosen ∈ tb := tb_of (List.mem_of_getElem? (i := 329) (by decide +kernel)) (by decide +kernel)
theorem tw_285 : Cond.instanceMethod yX0_isChosen ∈ tb := tb_of (List.mem_of_getElem? (i := 331) (by decide +kernel)) (by decide +kernel)
theorem tw_286 : Cond.code yX0_isChosen cX0_isChosen 3 (some .boolean) ∈ tb := tb_of (List.mem_of_getElem? (i := 332) (by decide +kernel)) (by decide +kernel)
theorem tw_287 : Cond.methodLink RX7 79 yX0_hearsOwnBeat ∈ tb := tb_of (List.mem_of_getElem? (i := 333) (by decide +kernel)) (by decide +kernel)
theorem tw_288 : Cond.instanceMethod yX0_hearsOwnBeat ∈ tb := tb_of (List.mem_of_getElem? (i := 334) (by decide +kernel)) (by decide +kernel)
theorem tw_289 : Cond.selects RX0 yX0_hearsOwnBeat yX0_hearsOwnBeat ∈ tb := tb_of (List.mem_of_getElem? (i := 335) (by decide +kernel)) (by decide +kernel)
theorem tw_290 : Cond.code yX0_hearsOwnBeat cX0_hearsOwnBeat 2 (some .boolean) ∈ tb := tb_of (List.mem_of_getElem? (i := 336) (by decide +kernel)) (by decide +kernel)
theorem tw_291 : Cond.methodLink RX7 82 yX0_standsAtOwn ∈ tb := tb_of (List.mem_of_getElem? (i := 337) (by decide +kernel)) (by decide +kernel)
theorem tw_292 : Cond.instanceMethod yX0_standsAtOwn ∈ tb := tb_of (List.mem_of_getElem? (i := 338) (by decide +kernel)) (by decide +kernel)
theorem tw_293 : Cond.selects RX0 yX0_standsAtOwn yX0_standsAtOwn ∈ tb := tb_of (List.mem_of_getElem? (i := 339) (by decide +kernel)) (by decide +kernel)
theorem tw_294 : Cond.code yX0_standsAtOwn cX0_standsAtOwn 2 (some .boolean) ∈ tb := tb_of (List.mem_of_getElem? (i := 340) (by decide +kernel)) (by decide +kernel)
theorem tw_295 : Cond.methodLink RX7 58 yX0_act ∈ tb := tb_of (List.mem_of_getElem? (i := 341) (by decide +kernel)) (by decide +kernel)
theorem tw_296 : Cond.instanceMethod yX0_act ∈ tb := tb_of (List.mem_of_getElem? (i := 342) (by decide +kernel)) (by decide +kernel)
theorem tw_297 : Cond.selects RX0 yX0_act yX0_act ∈ tb := tb_of (List.mem_of_getElem? (i := 343) (by decide +kernel)) (by decide +kernel)
theorem tw_298 : Cond.code yX0_act cX0_act 5 none ∈ tb := tb_of (List.mem_of_getElem? (i := 344) (by decide +kernel)) (by decide +kernel)
theorem tw_299 : Cond.methodLink RX0 50 yX0_listen ∈ tb := tb_of (List.mem_of_getElem? (i := 345) (by decide +kernel)) (by decide +kernel)
theorem tw_301 : Cond.instanceMethod yX0_listen ∈ tb := tb_of (List.mem_of_getElem? (i := 347) (by decide +kernel)) (by decide +kernel)
theorem tw_302 : Cond.code yX0_listen cX0_listen 2 none ∈ tb := tb_of (List.mem_of_getElem? (i := 348) (by decide +kernel)) (by decide +kernel)
theorem tw_303 : Cond.methodLink RX0 60 yX0_hearsOwnBeat ∈ tb := tb_of (List.mem_of_getElem? (i := 349) (by decide +kernel)) (by decide +kernel)
theorem tw_304 : Cond.methodLink RX0 54 yX0_changeWithNext ∈ tb := tb_of (List.mem_of_getElem? (i := 350) (by decide +kernel)) (by decide +kernel)
theorem tw_306 : Cond.instanceMethod yX0_changeWithNext ∈ tb := tb_of (List.mem_of_getElem? (i := 352) (by decide +kernel)) (by decide +kernel)
theorem tw_307 : Cond.code yX0_changeWithNext cX0_changeWithNext 2 none ∈ tb := tb_of (List.mem_of_getElem? (i := 353) (by decide +kernel)) (by decide +kernel)
theorem tw_308 : Cond.methodLink RX0 63 yX0_swapWithNext ∈ tb := tb_of (List.mem_of_getElem? (i := 354) (by decide +kernel)) (by decide +kernel)
theorem tw_309 : Cond.static yX0_swapWithNext ∈ tb := tb_of (List.mem_of_getElem? (i := 355) (by decide +kernel)) (by decide +kernel)
theorem tw_310 : Cond.code yX0_swapWithNext cX0_swapWithNext 3 none ∈ tb := tb_of (List.mem_of_getElem? (i := 356) (by decide +kernel)) (by decide +kernel)
theorem tw_311 : Cond.methodLink RX0 57 yX0_letMinutePass ∈ tb := tb_of (List.mem_of_getElem? (i := 357) (by decide +kernel)) (by decide +kernel)
theorem tw_313 : Cond.instanceMethod yX0_letMinutePass ∈ tb := tb_of (List.mem_of_getElem? (i := 359) (by decide +kernel)) (by decide +kernel)
theorem tw_314 : Cond.code yX0_letMinutePass cX0_letMinutePass 3 none ∈ tb := tb_of (List.mem_of_getElem? (i := 360) (by decide +kernel)) (by decide +kernel)
theorem tw_315 : Cond.methodLink RX7 39 yX2_isLetter ∈ tb := tb_of (List.mem_of_getElem? (i := 361) (by decide +kernel)) (by decide +kernel)
theorem tw_316 : Cond.methodLink RX7 43 yX2_isWay ∈ tb := tb_of (List.mem_of_getElem? (i := 362) (by decide +kernel)) (by decide +kernel)
theorem tw_317 : Cond.methodLink RX7 46 yX2_isDigit ∈ tb := tb_of (List.mem_of_getElem? (i := 363) (by decide +kernel)) (by decide +kernel)
theorem tw_318 : Cond.methodLink RL 41 yX8_behind ∈ tb := tb_of (List.mem_of_getElem? (i := 364) (by decide +kernel)) (by decide +kernel)
theorem tw_319 : Cond.instanceMethod yX8_behind ∈ tb := tb_of (List.mem_of_getElem? (i := 365) (by decide +kernel)) (by decide +kernel)
theorem tw_320 : Cond.selects RX8 yX8_behind yX8_behind ∈ tb := tb_of (List.mem_of_getElem? (i := 366) (by decide +kernel)) (by decide +kernel)
theorem tw_321 : Cond.code yX8_behind cX8_behind 4 (some .int) ∈ tb := tb_of (List.mem_of_getElem? (i := 367) (by decide +kernel)) (by decide +kernel)
theorem tw_322 : Cond.methodLink RL 46 yX8_stands ∈ tb := tb_of (List.mem_of_getElem? (i := 368) (by decide +kernel)) (by decide +kernel)
theorem tw_323 : Cond.instanceMethod yX8_stands ∈ tb := tb_of (List.mem_of_getElem? (i := 369) (by decide +kernel)) (by decide +kernel)
theorem tw_324 : Cond.selects RX8 yX8_stands yX8_stands ∈ tb := tb_of (List.mem_of_getElem? (i := 370) (by decide +kernel)) (by decide +kernel)
theorem tw_325 : Cond.code yX8_stands cX8_stands 4 (some .int) ∈ tb := tb_of (List.mem_of_getElem? (i := 371) (by decide +kernel)) (by decide +kernel)
theorem tw_326 : Cond.methodLink RL 50 yX8_house ∈ tb := tb_of (List.mem_of_getElem? (i := 372) (by decide +kernel)) (by decide +kernel)
theorem tw_327 : Cond.instanceMethod yX8_house ∈ tb := tb_of (List.mem_of_getElem? (i := 373) (by decide +kernel)) (by decide +kernel)
theorem tw_328 : Cond.selects RX8 yX8_house yX8_house ∈ tb := tb_of (List.mem_of_getElem? (i := 374) (by decide +kernel)) (by decide +kernel)
theorem tw_329 : Cond.code yX8_house cX8_house 3 (some .int) ∈ tb := tb_of (List.mem_of_getElem? (i := 375) (by decide +kernel)) (by decide +kernel)
theorem tw_330 : Cond.methodLink RX8 119 yX0_chosenBits ∈ tb := tb_of (List.mem_of_getElem? (i := 376) (by decide +kernel)) (by decide +kernel)
theorem tw_331 : Cond.instanceMethod yX0_chosenBits ∈ tb := tb_of (List.mem_of_getElem? (i := 377) (by decide +kernel)) (by decide +kernel)
theorem tw_332 : Cond.selects RX0 yX0_chosenBits yX0_chosenBits ∈ tb := tb_of (List.mem_of_getElem? (i := 378) (by decide +kernel)) (by decide +kernel)
theorem tw_333 : Cond.code yX0_chosenBits cX0_chosenBits 3 (some .int) ∈ tb := tb_of (List.mem_of_getElem? (i := 379) (by decide +kernel)) (by decide +kernel)
theorem tw_334 : Cond.methodLink RX8 122 yX0_rightBits ∈ tb := tb_of (List.mem_of_getElem? (i := 380) (by decide +kernel)) (by decide +kernel)
theorem tw_335 : Cond.instanceMethod yX0_rightBits ∈ tb := tb_of (List.mem_of_getElem? (i := 381) (by decide +kernel)) (by decide +kernel)
theorem tw_336 : Cond.selects RX0 yX0_rightBits yX0_rightBits ∈ tb := tb_of (List.mem_of_getElem? (i := 382) (by decide +kernel)) (by decide +kernel)
theorem tw_337 : Cond.code yX0_rightBits cX0_rightBits 3 (some .int) ∈ tb := tb_of (List.mem_of_getElem? (i := 383) (by decide +kernel)) (by decide +kernel)
theorem tw_338 : Cond.methodLink RX8 125 yX0_nickCount ∈ tb := tb_of (List.mem_of_getElem? (i := 384) (by decide +kernel)) (by decide +kernel)
theorem tw_339 : Cond.instanceMethod yX0_nickCount ∈ tb := tb_of (List.mem_of_getElem? (i := 385) (by decide +kernel)) (by decide +kernel)
theorem tw_340 : Cond.selects RX0 yX0_nickCount yX0_nickCount ∈ tb := tb_of (List.mem_of_getElem? (i := 386) (by decide +kernel)) (by decide +kernel)
theorem tw_341 : Cond.code yX0_nickCount cX0_nickCount 3 (some .int) ∈ tb := tb_of (List.mem_of_getElem? (i := 387) (by decide +kernel)) (by decide +kernel)
theorem tw_342 : Cond.methodLink RL 54 yX8_wrong ∈ tb := tb_of (List.mem_of_getElem? (i := 388) (by decide +kernel)) (by decide +kernel)
theorem tw_343 : Cond.instanceMethod yX8_wrong ∈ tb := tb_of (List.mem_of_getElem? (i := 389) (by decide +kernel)) (by decide +kernel)
theorem tw_344 : Cond.selects RX8 yX8_wrong yX8_wrong ∈ tb := tb_of (List.mem_of_getElem? (i := 390) (by decide +kernel)) (by decide +kernel)
theorem tw_345 : Cond.code yX8_wrong cX8_wrong 3 (some .int) ∈ tb := tb_of (List.mem_of_getElem? (i := 391) (by decide +kernel)) (by decide +kernel)
theorem tw_346 : Cond.methodLink RL 58 yX8_done ∈ tb := tb_of (List.mem_of_getElem? (i := 392) (by decide +kernel)) (by decide +kernel)
theorem tw_347 : Cond.instanceMethod yX8_done ∈ tb := tb_of (List.mem_of_getElem? (i := 393) (by decide +kernel)) (by decide +kernel)
theorem tw_348 : Cond.selects RX8 yX8_done yX8_done ∈ tb := tb_of (List.mem_of_getElem? (i := 394) (by decide +kernel)) (by decide +kernel)
theorem tw_349 : Cond.code yX8_done cX8_done 2 (some .int) ∈ tb := tb_of (List.mem_of_getElem? (i := 395) (by decide +kernel)) (by decide +kernel)
theorem tw_350 : Cond.methodLink RX8 137 yX0_copyFrom ∈ tb := tb_of (List.mem_of_getElem? (i := 396) (by decide +kernel)) (by decide +kernel)
theorem tw_351 : Cond.methodLink RL 62 yX8_seek ∈ tb := tb_of (List.mem_of_getElem? (i := 397) (by decide +kernel)) (by decide +kernel)
theorem tw_352 : Cond.instanceMethod yX8_seek ∈ tb := tb_of (List.mem_of_getElem? (i := 398) (by decide +kernel)) (by decide +kernel)
theorem tw_353 : Cond.selects RX8 yX8_seek yX8_seek ∈ tb := tb_of (List.mem_of_getElem? (i := 399) (by decide +kernel)) (by decide +kernel)
theorem tw_354 : Cond.code yX8_seek cX8_seek 5 (some .long) ∈ tb := tb_of (List.mem_of_getElem? (i := 400) (by decide +kernel)) (by decide +kernel)
theorem tw_355 : Cond.methodLink RX8 144 yX5_isAsTold ∈ tb := tb_of (List.mem_of_getElem? (i := 401) (by decide +kernel)) (by decide +kernel)
theorem tw_356 : Cond.static yX5_isAsTold ∈ tb := tb_of (List.mem_of_getElem? (i := 402) (by decide +kernel)) (by decide +kernel)
theorem tw_357 : Cond.code yX5_isAsTold cX5_isAsTold 3 (some .boolean) ∈ tb := tb_of (List.mem_of_getElem? (i := 403) (by decide +kernel)) (by decide +kernel)
theorem tw_359 : Cond.methodLink RX5 15 yX5_isRow ∈ tb := tb_of (List.mem_of_getElem? (i := 405) (by decide +kernel)) (by decide +kernel)
theorem tw_360 : Cond.static yX5_isRow ∈ tb := tb_of (List.mem_of_getElem? (i := 406) (by decide +kernel)) (by decide +kernel)
theorem tw_361 : Cond.code yX5_isRow cX5_isRow 3 (some .boolean) ∈ tb := tb_of (List.mem_of_getElem? (i := 407) (by decide +kernel)) (by decide +kernel)
theorem tw_362 : Cond.fieldLink RX5 19 RX5 "TENS" "[I" ∈ tb := tb_of (List.mem_of_getElem? (i := 408) (by decide +kernel)) (by decide +kernel)
theorem tw_364 : Cond.methodLink RX5 23 yX5_digit ∈ tb := tb_of (List.mem_of_getElem? (i := 410) (by decide +kernel)) (by decide +kernel)
theorem tw_365 : Cond.static yX5_digit ∈ tb := tb_of (List.mem_of_getElem? (i := 411) (by decide +kernel)) (by decide +kernel)
theorem tw_366 : Cond.code yX5_digit cX5_digit 3 (some .int) ∈ tb := tb_of (List.mem_of_getElem? (i := 412) (by decide +kernel)) (by decide +kernel)
theorem tw_367 : Cond.constantLong RX8 149 (-1000000000000000002) ∈ tb := tb_of (List.mem_of_getElem? (i := 413) (by decide +kernel)) (by decide +kernel)
theorem tw_368 : Cond.methodLink RX8 151 yX5_leastSum ∈ tb := tb_of (List.mem_of_getElem? (i := 414) (by decide +kernel)) (by decide +kernel)
theorem tw_369 : Cond.static yX5_leastSum ∈ tb := tb_of (List.mem_of_getElem? (i := 415) (by decide +kernel)) (by decide +kernel)
theorem tw_370 : Cond.code yX5_leastSum cX5_leastSum 9 (some .long) ∈ tb := tb_of (List.mem_of_getElem? (i := 416) (by decide +kernel)) (by decide +kernel)
theorem tw_371 : Cond.methodLink RX5 27 Lib.Math.min.name ∈ tb := tb_of (List.mem_of_getElem? (i := 417) (by decide +kernel)) (by decide +kernel)
theorem tw_372 : Cond.static Lib.Math.min.name ∈ tb := tb_of (List.mem_of_getElem? (i := 418) (by decide +kernel)) (by decide +kernel)
theorem tw_373 : Cond.code Lib.Math.min.name Lib.Math.min.code 2 (some .int) ∈ tb := tb_of (List.mem_of_getElem? (i := 419) (by decide +kernel)) (by decide +kernel)
theorem tw_374 : Cond.methodLink RX8 155 yX5_digitSum ∈ tb := tb_of (List.mem_of_getElem? (i := 420) (by decide +kernel)) (by decide +kernel)
theorem tw_375 : Cond.static yX5_digitSum ∈ tb := tb_of (List.mem_of_getElem? (i := 421) (by decide +kernel)) (by decide +kernel)
theorem tw_376 : Cond.code yX5_digitSum cX5_digitSum 5 (some .long) ∈ tb := tb_of (List.mem_of_getElem? (i := 422) (by decide +kernel)) (by decide +kernel)
theorem tw_377 : Cond.methodLink RX8 159 yX8_lowestTerm ∈ tb := tb_of (List.mem_of_getElem? (i := 423) (by decide +kernel)) (by decide +kernel)
theorem tw_378 : Cond.static yX8_lowestTerm ∈ tb := tb_of (List.mem_of_getElem? (i := 424) (by decide +kernel)) (by decide +kernel)
theorem tw_379 : Cond.code yX8_lowestTerm cX8_lowestTerm 9 (some .long) ∈ tb := tb_of (List.mem_of_getElem? (i := 425) (by decide +kernel)) (by decide +kernel)
theorem tw_380 : Cond.methodLink RX8 239 yX8_commonDivisor ∈ tb := tb_of (List.mem_of_getElem? (i := 426) (by decide +kernel)) (by decide +kernel)
theorem tw_381 : Cond.static yX8_commonDivisor ∈ tb := tb_of (List.mem_of_getElem? (i := 427) (by decide +kernel)) (by decide +kernel)
theorem tw_382 : Cond.code yX8_commonDivisor cX8_commonDivisor 11 (some .long) ∈ tb := tb_of (List.mem_of_getElem? (i := 428) (by decide +kernel)) (by decide +kernel)
theorem tw_383 : Cond.methodLink RL 67 yX8_looks ∈ tb := tb_of (List.mem_of_getElem? (i := 429) (by decide +kernel)) (by decide +kernel)
theorem tw_384 : Cond.instanceMethod yX8_looks ∈ tb := tb_of (List.mem_of_getElem? (i := 430) (by decide +kernel)) (by decide +kernel)
theorem tw_385 : Cond.selects RX8 yX8_looks yX8_looks ∈ tb := tb_of (List.mem_of_getElem? (i := 431) (by decide +kernel)) (by decide +kernel)
theorem tw_386 : Cond.code yX8_looks cX8_looks 4 (some .int) ∈ tb := tb_of (List.mem_of_getElem? (i := 432) (by decide +kernel)) (by decide +kernel)
theorem tw_387 : Cond.methodLink RX8 163 yX5_first ∈ tb := tb_of (List.mem_of_getElem? (i := 433) (by decide +kernel)) (by decide +kernel)
theorem tw_388 : Cond.static yX5_first ∈ tb := tb_of (List.mem_of_getElem? (i := 434) (by decide +kernel)) (by decide +kernel)
theorem tw_389 : Cond.code yX5_first cX5_first 7 (some .int) ∈ tb := tb_of (List.mem_of_getElem? (i := 435) (by decide +kernel)) (by decide +kernel)
theorem tw_390 : Cond.methodLink RL 71 yX8_mix ∈ tb := tb_of (List.mem_of_getElem? (i := 436) (by decide +kernel)) (by decide +kernel)
theorem tw_391 : Cond.instanceMethod yX8_mix ∈ tb := tb_of (List.mem_of_getElem? (i := 437) (by decide +kernel)) (by decide +kernel)
theorem tw_392 : Cond.selects RX8 yX8_mix yX8_mix ∈ tb := tb_of (List.mem_of_getElem? (i := 438) (by decide +kernel)) (by decide +kernel)
theorem tw_393 : Cond.code yX8_mix cX8_mix 5 (some .int) ∈ tb := tb_of (List.mem_of_getElem? (i := 439) (by decide +kernel)) (by decide +kernel)
theorem tw_394 : Cond.constant RX8 167 (999999999) ∈ tb := tb_of (List.mem_of_getElem? (i := 440) (by decide +kernel)) (by decide +kernel)
theorem tw_395 : Cond.methodLink RX8 168 yX1_placeBehind ∈ tb := tb_of (List.mem_of_getElem? (i := 441) (by decide +kernel)) (by decide +kernel)
theorem tw_396 : Cond.static yX1_placeBehind ∈ tb := tb_of (List.mem_of_getElem? (i := 442) (by decide +kernel)) (by decide +kernel)
theorem tw_397 : Cond.code yX1_placeBehind cX1_placeBehind 7 (some .int) ∈ tb := tb_of (List.mem_of_getElem? (i := 443) (by decide +kernel)) (by decide +kernel)
theorem tw_398 : Cond.methodLink RX8 173 yX1_round ∈ tb := tb_of (List.mem_of_getElem? (i := 444) (by decide +kernel)) (by decide +kernel)
theorem tw_399 : Cond.static yX1_round ∈ tb := tb_of (List.mem_of_getElem? (i := 445) (by decide +kernel)) (by decide +kernel)
theorem tw_400 : Cond.code yX1_round cX1_round 5 (some .int) ∈ tb := tb_of (List.mem_of_getElem? (i := 446) (by decide +kernel)) (by decide +kernel)
theorem tw_401 : Cond.methodLink RL 75 yX8_rises ∈ tb := tb_of (List.mem_of_getElem? (i := 447) (by decide +kernel)) (by decide +kernel)
theorem tw_402 : Cond.instanceMethod yX8_rises ∈ tb := tb_of (List.mem_of_getElem? (i := 448) (by decide +kernel)) (by decide +kernel)
theorem tw_403 : Cond.selects RX8 yX8_rises yX8_rises ∈ tb := tb_of (List.mem_of_getElem? (i := 449) (by decide +kernel)) (by decide +kernel)
theorem tw_404 : Cond.code yX8_rises cX8_rises 3 (some .int) ∈ tb := tb_of (List.mem_of_getElem? (i := 450) (by decide +kernel)) (by decide +kernel)
theorem tw_405 : Cond.methodLink RX8 176 yX4_measure ∈ tb := tb_of (List.mem_of_getElem? (i := 451) (by decide +kernel)) (by decide +kernel)
theorem tw_406 : Cond.instanceMethod yX4_measure ∈ tb := tb_of (List.mem_of_getElem? (i := 452) (by decide +kernel)) (by decide +kernel)
theorem tw_407 : Cond.selects RX4 yX4_measure yX4_measure ∈ tb := tb_of (List.mem_of_getElem? (i := 453) (by decide +kernel)) (by decide +kernel)
theorem tw_408 : Cond.code yX4_measure cX4_measure 6 none ∈ tb := tb_of (List.mem_of_getElem? (i := 454) (by decide +kernel)) (by decide +kernel)
theorem tw_410 : Cond.methodLink RX4 26 yX4_longestFrom ∈ tb := tb_of (List.mem_of_getElem? (i := 456) (by decide +kernel)) (by decide +kernel)
theorem tw_412 : Cond.instanceMethod yX4_longestFrom ∈ tb := tb_of (List.mem_of_getElem? (i := 458) (by decide +kernel)) (by decide +kernel)
theorem tw_413 : Cond.code yX4_longestFrom cX4_longestFrom 4 (some .int) ∈ tb := tb_of (List.mem_of_getElem? (i := 459) (by decide +kernel)) (by decide +kernel)
theorem tw_414 : Cond.methodLink RX4 30 Lib.Math.max.name ∈ tb := tb_of (List.mem_of_getElem? (i := 460) (by decide +kernel)) (by decide +kernel)
theorem tw_415 : Cond.static Lib.Math.max.name ∈ tb := tb_of (List.mem_of_getElem? (i := 461) (by decide +kernel)) (by decide +kernel)
theorem tw_416 : Cond.code Lib.Math.max.name Lib.Math.max.code 2 (some .int) ∈ tb := tb_of (List.mem_of_getElem? (i := 462) (by decide +kernel)) (by decide +kernel)
theorem tw_417 : Cond.methodLink RL 79 yX8_like ∈ tb := tb_of (List.mem_of_getElem? (i := 463) (by decide +kernel)) (by decide +kernel)
theorem tw_418 : Cond.instanceMethod yX8_like ∈ tb := tb_of (List.mem_of_getElem? (i := 464) (by decide +kernel)) (by decide +kernel)
theorem tw_419 : Cond.selects RX8 yX8_like yX8_like ∈ tb := tb_of (List.mem_of_getElem? (i := 465) (by decide +kernel)) (by decide +kernel)
theorem tw_420 : Cond.code yX8_like cX8_like 4 (some .int) ∈ tb := tb_of (List.mem_of_getElem? (i := 466) (by decide +kernel)) (by decide +kernel)
theorem tw_421 : Cond.methodLink RX8 185 yX6_add ∈ tb := tb_of (List.mem_of_getElem? (i := 467) (by decide +kernel)) (by decide +kernel)
theorem tw_422 : Cond.instanceMethod yX6_add ∈ tb := tb_of (List.mem_of_getElem? (i := 468) (by decide +kernel)) (by decide +kernel)
theorem tw_423 : Cond.selects RX6 yX6_add yX6_add ∈ tb := tb_of (List.mem_of_getElem? (i := 469) (by decide +kernel)) (by decide +kernel)
theorem tw_424 : Cond.code yX6_add cX6_add 4 (some .int) ∈ tb := tb_of (List.mem_of_getElem? (i := 470) (by decide +kernel)) (by decide +kernel)
theorem tw_425 : Cond.methodLink RL 84 yX8_forget ∈ tb := tb_of (List.mem_of_getElem? (i := 471) (by decide +kernel)) (by decide +kernel)
theorem tw_426 : Cond.instanceMethod yX8_forget ∈ tb := tb_of (List.mem_of_getElem? (i := 472) (by decide +kernel)) (by decide +kernel)
theorem tw_427 : Cond.selects RX8 yX8_forget yX8_forget ∈ tb := tb_of (List.mem_of_getElem? (i := 473) (by decide +kernel)) (by decide +kernel)
theorem tw_428 : Cond.code yX8_forget cX8_forget 1 (some .int) ∈ tb := tb_of (List.mem_of_getElem? (i := 474) (by decide +kernel)) (by decide +kernel)
theorem tw_429 : Cond.methodLink RX8 188 yX6_clear ∈ tb := tb_of (List.mem_of_getElem? (i := 475) (by decide +kernel)) (by decide +kernel)
theorem tw_430 : Cond.instanceMethod yX6_clear ∈ tb := tb_of (List.mem_of_getElem? (i := 476) (by decide +kernel)) (by decide +kernel)
theorem tw_431 : Cond.selects RX6 yX6_clear yX6_clear ∈ tb := tb_of (List.mem_of_getElem? (i := 477) (by decide +kernel)) (by decide +kernel)
theorem tw_432 : Cond.code yX6_clear cX6_clear 2 (some .int) ∈ tb := tb_of (List.mem_of_getElem? (i := 478) (by decide +kernel)) (by decide +kernel)
theorem tw_433 : Cond.methodLink RL 88 yX8_own ∈ tb := tb_of (List.mem_of_getElem? (i := 479) (by decide +kernel)) (by decide +kernel)
theorem tw_434 : Cond.instanceMethod yX8_own ∈ tb := tb_of (List.mem_of_getElem? (i := 480) (by decide +kernel)) (by decide +kernel)
theorem tw_435 : Cond.selects RX8 yX8_own yX8_own ∈ tb := tb_of (List.mem_of_getElem? (i := 481) (by decide +kernel)) (by decide +kernel)
theorem tw_436 : Cond.code yX8_own cX8_own 4 (some .int) ∈ tb := tb_of (List.mem_of_getElem? (i := 482) (by decide +kernel)) (by decide +kernel)
theorem tw_437 : Cond.methodLink RX8 189 yX6_fit ∈ tb := tb_of (List.mem_of_getElem? (i := 483) (by decide +kernel)) (by decide +kernel)
theorem tw_438 : Cond.instanceMethod yX6_fit ∈ tb := tb_of (List.mem_of_getElem? (i := 484) (by decide +kernel)) (by decide +kernel)
theorem tw_439 : Cond.selects RX6 yX6_fit yX6_fit ∈ tb := tb_of (List.mem_of_getElem? (i := 485) (by decide +kernel)) (by decide +kernel)
theorem tw_440 : Cond.code yX6_fit cX6_fit 3 (some .boolean) ∈ tb := tb_of (List.mem_of_getElem? (i := 486) (by decide +kernel)) (by decide +kernel)
theorem tw_441 : Cond.methodLink RX6 29 yX6_isNear ∈ tb := tb_of (List.mem_of_getElem? (i := 487) (by decide +kernel)) (by decide +kernel)
theorem tw_442 : Cond.static yX6_isNear ∈ tb := tb_of (List.mem_of_getElem? (i := 488) (by decide +kernel)) (by decide +kernel)
theorem tw_443 : Cond.code yX6_isNear cX6_isNear 3 (some .boolean) ∈ tb := tb_of (List.mem_of_getElem? (i := 489) (by decide +kernel)) (by decide +kernel)
theorem tw_444 : Cond.methodLink RX6 59 Lib.Math.abs.name ∈ tb := tb_of (List.mem_of_getElem? (i := 490) (by decide +kernel)) (by decide +kernel)
theorem tw_445 : Cond.static Lib.Math.abs.name ∈ tb := tb_of (List.mem_of_getElem? (i := 491) (by decide +kernel)) (by decide +kernel)
theorem tw_446 : Cond.code Lib.Math.abs.name Lib.Math.abs.code 1 (some .int) ∈ tb := tb_of (List.mem_of_getElem? (i := 492) (by decide +kernel)) (by decide +kernel)
theorem tw_447 : Cond.methodLink RL 92 yX8_ask ∈ tb := tb_of (List.mem_of_getElem? (i := 493) (by decide +kernel)) (by decide +kernel)
theorem tw_448 : Cond.instanceMethod yX8_ask ∈ tb := tb_of (List.mem_of_getElem? (i := 494) (by decide +kernel)) (by decide +kernel)
theorem tw_449 : Cond.selects RX8 yX8_ask yX8_ask ∈ tb := tb_of (List.mem_of_getElem? (i := 495) (by decide +kernel)) (by decide +kernel)
theorem tw_450 : Cond.code yX8_ask cX8_ask 2 (some .int) ∈ tb := tb_of (List.mem_of_getElem? (i := 496) (by decide +kernel)) (by decide +kernel)
theorem tw_451 : Cond.methodLink RX8 192 yX6_findQuestion ∈ tb := tb_of (List.mem_of_getElem? (i := 497) (by decide +kernel)) (by decide +kernel)
theorem tw_452 : Cond.instanceMethod yX6_findQuestion ∈ tb := tb_of (List.mem_of_getElem? (i := 498) (by decide +kernel)) (by decide +kernel)
theorem tw_453 : Cond.selects RX6 yX6_findQuestion yX6_findQuestion ∈ tb := tb_of (List.mem_of_getElem? (i := 499) (by decide +kernel)) (by decide +kernel)
theorem tw_454 : Cond.code yX6_findQuestion cX6_findQuestion 7 none ∈ tb := tb_of (List.mem_of_getElem? (i := 500) (by decide +kernel)) (by decide +kernel)
theorem tw_455 : Cond.methodLink RX6 39 yX6_countFitting ∈ tb := tb_of (List.mem_of_getElem? (i := 501) (by decide +kernel)) (by decide +kernel)
theorem tw_457 : Cond.instanceMethod yX6_countFitting ∈ tb := tb_of (List.mem_of_getElem? (i := 503) (by decide +kernel)) (by decide +kernel)
theorem tw_458 : Cond.code yX6_countFitting cX6_countFitting 5 (some .int) ∈ tb := tb_of (List.mem_of_getElem? (i := 504) (by decide +kernel)) (by decide +kernel)
theorem tw_460 : Cond.methodLink RX6 56 yX6_fit ∈ tb := tb_of (List.mem_of_getElem? (i := 506) (by decide +kernel)) (by decide +kernel)
theorem tw_461 : Cond.methodLink RX6 43 yX6_countNear ∈ tb := tb_of (List.mem_of_getElem? (i := 507) (by decide +kernel)) (by decide +kernel)
theorem tw_463 : Cond.instanceMethod yX6_countNear ∈ tb := tb_of (List.mem_of_getElem? (i := 509) (by decide +kernel)) (by decide +kernel)
theorem tw_464 : Cond.code yX6_countNear cX6_countNear 5 (some .int) ∈ tb := tb_of (List.mem_of_getElem? (i := 510) (by decide +kernel)) (by decide +kernel)
theorem tw_465 : Cond.methodLink RX6 47 Lib.Math.max.name ∈ tb := tb_of (List.mem_of_getElem? (i := 511) (by decide +kernel)) (by decide +kernel)
theorem tw_466 : Cond.methodLink RL 96 yX8_take ∈ tb := tb_of (List.mem_of_getElem? (i := 512) (by decide +kernel)) (by decide +kernel)
theorem tw_467 : Cond.instanceMethod yX8_take ∈ tb := tb_of (List.mem_of_getElem? (i := 513) (by decide +kernel)) (by decide +kernel)
theorem tw_468 : Cond.selects RX8 yX8_take yX8_take ∈ tb := tb_of (List.mem_of_getElem? (i := 514) (by decide +kernel)) (by decide +kernel)
theorem tw_469 : Cond.code yX8_take cX8_take 4 (some .int) ∈ tb := tb_of (List.mem_of_getElem? (i := 515) (by decide +kernel)) (by decide +kernel)
theorem tw_470 : Cond.methodLink RX8 202 yX8_firstTaking ∈ tb := tb_of (List.mem_of_getElem? (i := 516) (by decide +kernel)) (by decide +kernel)
theorem tw_471 : Cond.static yX8_firstTaking ∈ tb := tb_of (List.mem_of_getElem? (i := 517) (by decide +kernel)) (by decide +kernel)
theorem tw_472 : Cond.code yX8_firstTaking cX8_firstTaking 3 (some .int) ∈ tb := tb_of (List.mem_of_getElem? (i := 518) (by decide +kernel)) (by decide +kernel)
theorem tw_473 : Cond.methodLink RL 100 yX8_pass ∈ tb := tb_of (List.mem_of_getElem? (i := 519) (by decide +kernel)) (by decide +kernel)
theorem tw_474 : Cond.instanceMethod yX8_pass ∈ tb := tb_of (List.mem_of_getElem? (i := 520) (by decide +kernel)) (by decide +kernel)
theorem tw_475 : Cond.selects RX8 yX8_pass yX8_pass ∈ tb := tb_of (List.mem_of_getElem? (i := 521) (by decide +kernel)) (by decide +kernel)
theorem tw_476 : Cond.code yX8_pass cX8_pass 4 (some .long) ∈ tb := tb_of (List.mem_of_getElem? (i := 522) (by decide +kernel)) (by decide +kernel)
theorem tw_477 : Cond.methodLink RX8 207 yX3_weight ∈ tb := tb_of (List.mem_of_getElem? (i := 523) (by decide +kernel)) (by decide +kernel)
theorem tw_478 : Cond.static yX3_weight ∈ tb := tb_of (List.mem_of_getElem? (i := 524) (by decide +kernel)) (by decide +kernel)
theorem tw_479 : Cond.code yX3_weight cX3_weight 5 (some .long) ∈ tb := tb_of (List.mem_of_getElem? (i := 525) (by decide +kernel)) (by decide +kernel)
theorem tw_480 : Cond.constantLong RX3 9 (232792560) ∈ tb := tb_of (List.mem_of_getElem? (i := 526) (by decide +kernel)) (by decide +kernel)
theorem tw_481 : Cond.methodLink RX8 210 yX3_whole ∈ tb := tb_of (List.mem_of_getElem? (i := 527) (by decide +kernel)) (by decide +kernel)
theorem tw_482 : Cond.static yX3_whole ∈ tb := tb_of (List.mem_of_getElem? (i := 528) (by decide +kernel)) (by decide +kernel)
theorem tw_483 : Cond.code yX3_whole cX3_whole 1 (some .long) ∈ tb := tb_of (List.mem_of_getElem? (i := 529) (by decide +kernel)) (by decide +kernel)
theorem tw_484 : Cond.methodLink RL 105 yX8_passes ∈ tb := tb_of (List.mem_of_getElem? (i := 530) (by decide +kernel)) (by decide +kernel)
theorem tw_485 : Cond.instanceMethod yX8_passes ∈ tb := tb_of (List.mem_of_getElem? (i := 531) (by decide +kernel)) (by decide +kernel)
theorem tw_486 : Cond.selects RX8 yX8_passes yX8_passes ∈ tb := tb_of (List.mem_of_getElem? (i := 532) (by decide +kernel)) (by decide +kernel)
theorem tw_487 : Cond.code yX8_passes cX8_passes 2 (some .int) ∈ tb := tb_of (List.mem_of_getElem? (i := 533) (by decide +kernel)) (by decide +kernel)
theorem tw_488 : Cond.methodLink RX8 214 yX3_best ∈ tb := tb_of (List.mem_of_getElem? (i := 534) (by decide +kernel)) (by decide +kernel)
theorem tw_489 : Cond.static yX3_best ∈ tb := tb_of (List.mem_of_getElem? (i := 535) (by decide +kernel)) (by decide +kernel)
theorem tw_490 : Cond.code yX3_best cX3_best 3 (some .int) ∈ tb := tb_of (List.mem_of_getElem? (i := 536) (by decide +kernel)) (by decide +kernel)
theorem tw_491 : Cond.methodLink RX3 11 yX3_weight ∈ tb := tb_of (List.mem_of_getElem? (i := 537) (by decide +kernel)) (by decide +kernel)
theorem tw_492 : Cond.methodLink RL 109 yX8_hour ∈ tb := tb_of (List.mem_of_getElem? (i := 538) (by decide +kernel)) (by decide +kernel)
theorem tw_493 : Cond.instanceMethod yX8_hour ∈ tb := tb_of (List.mem_of_getElem? (i := 539) (by decide +kernel)) (by decide +kernel)
theorem tw_494 : Cond.selects RX8 yX8_hour yX8_hour ∈ tb := tb_of (List.mem_of_getElem? (i := 540) (by decide +kernel)) (by decide +kernel)
theorem tw_495 : Cond.code yX8_hour cX8_hour 4 (some .int) ∈ tb := tb_of (List.mem_of_getElem? (i := 541) (by decide +kernel)) (by decide +kernel)
theorem tw_496 : Cond.methodLink RX8 217 yX7_draw ∈ tb := tb_of (List.mem_of_getElem? (i := 542) (by decide +kernel)) (by decide +kernel)
theorem tw_497 : Cond.instanceMethod yX7_draw ∈ tb := tb_of (List.mem_of_getElem? (i := 543) (by decide +kernel)) (by decide +kernel)
theorem tw_498 : Cond.selects RX7 yX7_draw yX7_draw ∈ tb := tb_of (List.mem_of_getElem? (i := 544) (by decide +kernel)) (by decide +kernel)
theorem tw_499 : Cond.code yX7_draw cX7_draw 8 none ∈ tb := tb_of (List.mem_of_getElem? (i := 545) (by decide +kernel)) (by decide +kernel)
theorem tw_500 : Cond.constant RX7 49 (65537) ∈ tb := tb_of (List.mem_of_getElem? (i := 546) (by decide +kernel)) (by decide +kernel)
theorem tw_501 : Cond.methodLink RX7 50 yX7_drawnKind ∈ tb := tb_of (List.mem_of_getElem? (i := 547) (by decide +kernel)) (by decide +kernel)
theorem tw_502 : Cond.static yX7_drawnKind ∈ tb := tb_of (List.mem_of_getElem? (i := 548) (by decide +kernel)) (by decide +kernel)
theorem tw_503 : Cond.code yX7_drawnKind cX7_drawnKind 2 (some .int) ∈ tb := tb_of (List.mem_of_getElem? (i := 549) (by decide +kernel)) (by decide +kernel)
theorem tw_504 : Cond.methodLink RL 113 yX8_image ∈ tb := tb_of (List.mem_of_getElem? (i := 550) (by decide +kernel)) (by decide +kernel)
theorem tw_505 : Cond.instanceMethod yX8_image ∈ tb := tb_of (List.mem_of_getElem? (i := 551) (by decide +kernel)) (by decide +kernel)
theorem tw_506 : Cond.selects RX8 yX8_image yX8_image ∈ tb := tb_of (List.mem_of_getElem? (i := 552) (by decide +kernel)) (by decide +kernel)
theorem tw_507 : Cond.code yX8_image cX8_image 2 (some .int) ∈ tb := tb_of (List.mem_of_getElem? (i := 553) (by decide +kernel)) (by decide +kernel)
theorem tw_508 : Cond.methodLink RX8 221 yX6_copyFrom ∈ tb := tb_of (List.mem_of_getElem? (i := 554) (by decide +kernel)) (by decide +kernel)
theorem tw_509 : Cond.instanceMethod yX6_copyFrom ∈ tb := tb_of (List.mem_of_getElem? (i := 555) (by decide +kernel)) (by decide +kernel)
theorem tw_510 : Cond.selects RX6 yX6_copyFrom yX6_copyFrom ∈ tb := tb_of (List.mem_of_getElem? (i := 556) (by decide +kernel)) (by decide +kernel)
theorem tw_511 : Cond.code yX6_copyFrom cX6_copyFrom 3 none ∈ tb := tb_of (List.mem_of_getElem? (i := 557) (by decide +kernel)) (by decide +kernel)
theorem tw_512 : Cond.methodLink RL 117 yX8_restore ∈ tb := tb_of (List.mem_of_getElem? (i := 558) (by decide +kernel)) (by decide +kernel)
theorem tw_513 : Cond.instanceMethod yX8_restore ∈ tb := tb_of (List.mem_of_getElem? (i := 559) (by decide +kernel)) (by decide +kernel)
theorem tw_514 : Cond.selects RX8 yX8_restore yX8_restore ∈ tb := tb_of (List.mem_of_getElem? (i := 560) (by decide +kernel)) (by decide +kernel)
theorem tw_515 : Cond.code yX8_restore cX8_restore 2 (some .int) ∈ tb := tb_of (List.mem_of_getElem? (i := 561) (by decide +kernel)) (by decide +kernel)
theorem tw_516 : Cond.methodLink RL 121 yX8_told ∈ tb := tb_of (List.mem_of_getElem? (i := 562) (by decide +kernel)) (by decide +kernel)
theorem tw_517 : Cond.instanceMethod yX8_told ∈ tb := tb_of (List.mem_of_getElem? (i := 563) (by decide +kernel)) (by decide +kernel)
theorem tw_518 : Cond.selects RX8 yX8_told yX8_told ∈ tb := tb_of (List.mem_of_getElem? (i := 564) (by decide +kernel)) (by decide +kernel)
theorem tw_519 : Cond.code yX8_told cX8_told 2 (some .int) ∈ tb := tb_of (List.mem_of_getElem? (i := 565) (by decide +kernel)) (by decide +kernel)
theorem tw_520 : Cond.methodLink RX8 224 yX8_toldOfPlace ∈ tb := tb_of (List.mem_of_getElem? (i := 566) (by decide +kernel)) (by decide +kernel)
theorem tw_522 : Cond.instanceMethod yX8_toldOfPlace ∈ tb := tb_of (List.mem_of_getElem? (i := 568) (by decide +kernel)) (by decide +kernel)
theorem tw_523 : Cond.code yX8_toldOfPlace cX8_toldOfPlace 3 (some .int) ∈ tb := tb_of (List.mem_of_getElem? (i := 569) (by decide +kernel)) (by decide +kernel)
theorem tw_524 : Cond.methodLink RX8 228 yX8_toldOfHeir ∈ tb := tb_of (List.mem_of_getElem? (i := 570) (by decide +kernel)) (by decide +kernel)
theorem tw_526 : Cond.instanceMethod yX8_toldOfHeir ∈ tb := tb_of (List.mem_of_getElem? (i := 572) (by decide +kernel)) (by decide +kernel)
theorem tw_527 : Cond.code yX8_toldOfHeir cX8_toldOfHeir 3 (some .int) ∈ tb := tb_of (List.mem_of_getElem? (i := 573) (by decide +kernel)) (by decide +kernel)
theorem tw_528 : Cond.classLink RL 10 RX9 ∈ tb := tb_of (List.mem_of_getElem? (i := 574) (by decide +kernel)) (by decide +kernel)
theorem tw_529 : Cond.instantiable RX9 33 ∈ tb := tb_of (List.mem_of_getElem? (i := 575) (by decide +kernel)) (by decide +kernel)
theorem tw_530 : Cond.methodLink RL 12 yX9_init ∈ tb := tb_of (List.mem_of_getElem? (i := 576) (by decide +kernel)) (by decide +kernel)
theorem tw_531 : Cond.instanceMethod yX9_init ∈ tb := tb_of (List.mem_of_getElem? (i := 577) (by decide +kernel)) (by decide +kernel)
theorem tw_532 : Cond.code yX9_init cX9_init 2 none ∈ tb := tb_of (List.mem_of_getElem? (i := 578) (by decide +kernel)) (by decide +kernel)
theorem tw_533 : Cond.methodLink RX9 1 objectInit ∈ tb := tb_of (List.mem_of_getElem? (i := 579) (by decide +kernel)) (by decide +kernel)
theorem tw_534 : Cond.fieldLink RX9 7 RX9 "beat" "[I" ∈ tb := tb_of (List.mem_of_getElem? (i := 580) (by decide +kernel)) (by decide +kernel)
theorem tw_535 : Cond.fieldLink RX9 13 RX9 "nick" "[I" ∈ tb := tb_of (List.mem_of_getElem? (i := 581) (by decide +kernel)) (by decide +kernel)
theorem tw_536 : Cond.fieldLink RX9 16 RX9 "owner" "[I" ∈ tb := tb_of (List.mem_of_getElem? (i := 582) (by decide +kernel)) (by decide +kernel)
theorem tw_537 : Cond.fieldLink RX9 19 RX9 "place" "[I" ∈ tb := tb_of (List.mem_of_getElem? (i := 583) (by decide +kernel)) (by decide +kernel)
theorem tw_538 : Cond.fieldLink RX9 22 RX9 "kept" "[I" ∈ tb := tb_of (List.mem_of_getElem? (i := 584) (by decide +kernel)) (by decide +kernel)
theorem tw_539 : Cond.fieldLink RX9 25 RX9 "heard" "[I" ∈ tb := tb_of (List.mem_of_getElem? (i := 585) (by decide +kernel)) (by decide +kernel)
theorem tw_540 : Cond.fieldLink RX9 28 RX9 "chosen" "[I" ∈ tb := tb_of (List.mem_of_getElem? (i := 586) (by decide +kernel)) (by decide +kernel)
theorem tw_541 : Cond.fieldLink RX9 129 RX9 "minutes" "I" ∈ tb := tb_of (List.mem_of_getElem? (i := 587) (by decide +kernel)) (by decide +kernel)
theorem tw_542 : Cond.fieldLink RX9 31 RX9 "sightBeat" "[I" ∈ tb := tb_of (List.mem_of_getElem? (i := 588) (by decide +kernel)) (by decide +kernel)
theorem tw_543 : Cond.fieldLink RX9 34 RX9 "sightOff" "[I" ∈ tb := tb_of (List.mem_of_getElem? (i := 589) (by decide +kernel)) (by decide +kernel)
theorem tw_544 : Cond.fieldLink RX9 37 RX9 "sightIs" "[I" ∈ tb := tb_of (List.mem_of_getElem? (i := 590) (by decide +kernel)) (by decide +kernel)
theorem tw_545 : Cond.fieldLink RX9 250 RX9 "sights" "I" ∈ tb := tb_of (List.mem_of_getElem? (i := 591) (by decide +kernel)) (by decide +kernel)
theorem tw_546 : Cond.fieldLink RX9 40 RX9 "pad" "[I" ∈ tb := tb_of (List.mem_of_getElem? (i := 592) (by decide +kernel)) (by decide +kernel)
theorem tw_547 : Cond.fieldLink RX9 97 RX9 "padMany" "I" ∈ tb := tb_of (List.mem_of_getElem? (i := 593) (by decide +kernel)) (by decide +kernel)
theorem tw_548 : Cond.fieldLink RX9 43 RX9 "act" "[I" ∈ tb := tb_of (List.mem_of_getElem? (i := 594) (by decide +kernel)) (by decide +kernel)
theorem tw_549 : Cond.fieldLink RX9 46 RX9 "who" "[I" ∈ tb := tb_of (List.mem_of_getElem? (i := 595) (by decide +kernel)) (by decide +kernel)
theorem tw_550 : Cond.fieldLink RX9 49 RX9 "much" "[I" ∈ tb := tb_of (List.mem_of_getElem? (i := 596) (by decide +kernel)) (by decide +kernel)
theorem tw_551 : Cond.fieldLink RX9 101 RX9 "acts" "I" ∈ tb := tb_of (List.mem_of_getElem? (i := 597) (by decide +kernel)) (by decide +kernel)
theorem tw_552 : Cond.fieldLink RX9 135 RX9 "heardMany" "I" ∈ tb := tb_of (List.mem_of_getElem? (i := 598) (by decide +kernel)) (by decide +kernel)
theorem tw_553 : Cond.fieldLink RX9 141 RX9 "wrongNow" "I" ∈ tb := tb_of (List.mem_of_getElem? (i := 599) (by decide +kernel)) (by decide +kernel)
theorem tw_554 : Cond.fieldLink RX9 52 RX9 "had" "[I" ∈ tb := tb_of (List.mem_of_getElem? (i := 600) (by decide +kernel)) (by decide +kernel)
theorem tw_555 : Cond.fieldLink RX9 167 RX9 "badAct" "I" ∈ tb := tb_of (List.mem_of_getElem? (i := 601) (by decide +kernel)) (by decide +kernel)
theorem tw_556 : Cond.fieldLink RX9 170 RX9 "badWhy" "I" ∈ tb := tb_of (List.mem_of_getElem? (i := 602) (by decide +kernel)) (by decide +kernel)
theorem tw_557 : Cond.fieldLink RX9 161 RX9 "wrongAct" "I" ∈ tb := tb_of (List.mem_of_getElem? (i := 603) (by decide +kernel)) (by decide +kernel)
theorem tw_558 : Cond.fieldLink RX9 164 RX9 "wrongHeir" "I" ∈ tb := tb_of (List.mem_of_getElem? (i := 604) (by decide +kernel)) (by decide +kernel)
theorem tw_559 : Cond.fieldLink RX9 55 RX9 "odd" "[I" ∈ tb := tb_of (List.mem_of_getElem? (i := 605) (by decide +kernel)) (by decide +kernel)
theorem tw_560 : Cond.fieldLink RX9 58 RX9 "span" "[I" ∈ tb := tb_of (List.mem_of_getElem? (i := 606) (by decide +kernel)) (by decide +kernel)
theorem tw_561 : Cond.fieldLink RX9 61 RX9 "rise" "[I" ∈ tb := tb_of (List.mem_of_getElem? (i := 607) (by decide +kernel)) (by decide +kernel)
theorem tw_562 : Cond.fieldLink RX9 64 RX9 "wins" "[Z" ∈ tb := tb_of (List.mem_of_getElem? (i := 608) (by decide +kernel)) (by decide +kernel)
theorem tw_563 : Cond.fieldLink RX9 68 RX9 "stored" "[I" ∈ tb := tb_of (List.mem_of_getElem? (i := 609) (by decide +kernel)) (by decide +kernel)
theorem tw_564 : Cond.fieldLink RX9 71 RX9 "isStored" "[Z" ∈ tb := tb_of (List.mem_of_getElem? (i := 610) (by decide +kernel)) (by decide +kernel)
theorem tw_565 : Cond.fieldLink RX9 292 RX9 "storedAt" "I" ∈ tb := tb_of (List.mem_of_getElem? (i := 611) (by decide +kernel)) (by decide +kernel)
theorem tw_566 : Cond.fieldLink RX9 288 RX9 "isWriting" "Z" ∈ tb := tb_of (List.mem_of_getElem? (i := 612) (by decide +kernel)) (by decide +kernel)
theorem tw_634 : Cond.methodLink RL 17 yX9_cradle ∈ tb := tb_of (List.mem_of_getElem? (i := 680) (by decide +kernel)) (by decide +kernel)
theorem tw_635 : Cond.instanceMethod yX9_cradle ∈ tb := tb_of (List.mem_of_getElem? (i := 681) (by decide +kernel)) (by decide +kernel)
theorem tw_636 : Cond.selects RX9 yX9_cradle yX9_cradle ∈ tb := tb_of (List.mem_of_getElem? (i := 682) (by decide +kernel)) (by decide +kernel)
theorem tw_637 : Cond.code yX9_cradle cX9_cradle 6 (some .int) ∈ tb := tb_of (List.mem_of_getElem? (i := 683) (by decide +kernel)) (by decide +kernel)
theorem tw_638 : Cond.methodLink RX9 82 yX9_isPlace ∈ tb := tb_of (List.mem_of_getElem? (i := 684) (by decide +kernel)) (by decide +kernel)
theorem tw_639 : Cond.static yX9_isPlace ∈ tb := tb_of (List.mem_of_getElem? (i := 685) (by decide +kernel)) (by decide +kernel)
theorem tw_640 : Cond.code yX9_isPlace cX9_isPlace 1 (some .boolean) ∈ tb := tb_of (List.mem_of_getElem? (i := 686) (by decide +kernel)) (by decide +kernel)
theorem tw_641 : Cond.constantLong RX9 74 (39) ∈ tb := tb_of (List.mem_of_getElem? (i := 687) (by decide +kernel)) (by decide +kernel)
theorem tw_642 : Cond.methodLink RX9 76 yX9_in ∈ tb := tb_of (List.mem_of_getElem? (i := 688) (by decide +kernel)) (by decide +kernel)
theorem tw_643 : Cond.static yX9_in ∈ tb := tb_of (List.mem_of_getElem? (i := 689) (by decide +kernel)) (by decide +kernel)
theorem tw_644 : Cond.code yX9_in cX9_in 6 (some .boolean) ∈ tb := tb_of (List.mem_of_getElem? (i := 690) (by decide +kernel)) (by decide +kernel)
theorem tw_645 : Cond.constantLong RX9 86 (-1) ∈ tb := tb_of (List.mem_of_getElem? (i := 691) (by decide +kernel)) (by decide +kernel)
theorem tw_646 : Cond.constantLong RX9 80 (5) ∈ tb := tb_of (List.mem_of_getElem? (i := 692) (by decide +kernel)) (by decide +kernel)
theorem tw_647 : Cond.constantLong RX9 88 (9) ∈ tb := tb_of (List.mem_of_getElem? (i := 693) (by decide +kernel)) (by decide +kernel)
theorem tw_648 : Cond.methodLink RL 22 yX9_heir ∈ tb := tb_of (List.mem_of_getElem? (i := 694) (by decide +kernel)) (by decide +kernel)
theorem tw_649 : Cond.instanceMethod yX9_heir ∈ tb := tb_of (List.mem_of_getElem? (i := 695) (by decide +kernel)) (by decide +kernel)
theorem tw_650 : Cond.selects RX9 yX9_heir yX9_heir ∈ tb := tb_of (List.mem_of_getElem? (i := 696) (by decide +kernel)) (by decide +kernel)
theorem tw_651 : Cond.code yX9_heir cX9_heir 5 (some .int) ∈ tb := tb_of (List.mem_of_getElem? (i := 697) (by decide +kernel)) (by decide +kernel)
theorem tw_652 : Cond.methodLink RX9 90 yX9_isHeir ∈ tb := tb_of (List.mem_of_getElem? (i := 698) (by decide +kernel)) (by decide +kernel)
theorem tw_653 : Cond.static yX9_isHeir ∈ tb := tb_of (List.mem_of_getElem? (i := 699) (by decide +kernel)) (by decide +kernel)
theorem tw_654 : Cond.code yX9_isHeir cX9_isHeir 1 (some .boolean) ∈ tb := tb_of (List.mem_of_getElem? (i := 700) (by decide +kernel)) (by decide +kernel)
theorem tw_655 : Cond.methodLink RL 27 yX9_say ∈ tb := tb_of (List.mem_of_getElem? (i := 701) (by decide +kernel)) (by decide +kernel)
theorem tw_656 : Cond.instanceMethod yX9_say ∈ tb := tb_of (List.mem_of_getElem? (i := 702) (by decide +kernel)) (by decide +kernel)
theorem tw_657 : Cond.selects RX9 yX9_say yX9_say ∈ tb := tb_of (List.mem_of_getElem? (i := 703) (by decide +kernel)) (by decide +kernel)
theorem tw_658 : Cond.code yX9_say cX9_say 2 (some .int) ∈ tb := tb_of (List.mem_of_getElem? (i := 704) (by decide +kernel)) (by decide +kernel)
theorem tw_659 : Cond.constantLong RX9 93 (33) ∈ tb := tb_of (List.mem_of_getElem? (i := 705) (by decide +kernel)) (by decide +kernel)
theorem tw_660 : Cond.constantLong RX9 95 (126) ∈ tb := tb_of (List.mem_of_getElem? (i := 706) (by decide +kernel)) (by decide +kernel)
theorem tw_661 : Cond.methodLink RL 32 yX9_wipe ∈ tb := tb_of (List.mem_of_getElem? (i := 707) (by decide +kernel)) (by decide +kernel)
theorem tw_662 : Cond.instanceMethod yX9_wipe ∈ tb := tb_of (List.mem_of_getElem? (i := 708) (by decide +kernel)) (by decide +kernel)
theorem tw_663 : Cond.selects RX9 yX9_wipe yX9_wipe ∈ tb := tb_of (List.mem_of_getElem? (i := 709) (by decide +kernel)) (by decide +kernel)
theorem tw_664 : Cond.code yX9_wipe cX9_wipe 2 (some .int) ∈ tb := tb_of (List.mem_of_getElem? (i := 710) (by decide +kernel)) (by decide +kernel)
theorem tw_665 : Cond.methodLink RL 36 yX9_fault ∈ tb := tb_of (List.mem_of_getElem? (i := 711) (by decide +kernel)) (by decide +kernel)
theorem tw_666 : Cond.instanceMethod yX9_fault ∈ tb := tb_of (List.mem_of_getElem? (i := 712) (by decide +kernel)) (by decide +kernel)
theorem tw_667 : Cond.selects RX9 yX9_fault yX9_fault ∈ tb := tb_of (List.mem_of_getElem? (i := 713) (by decide +kernel)) (by decide +kernel)
theorem tw_668 : Cond.code yX9_fault cX9_fault 3 (some .int) ∈ tb := tb_of (List.mem_of_getElem? (i := 714) (by decide +kernel)) (by decide +kernel)
theorem tw_669 : Cond.methodLink RX9 126 yX9_readOn ∈ tb := tb_of (List.mem_of_getElem? (i := 715) (by decide +kernel)) (by decide +kernel)
theorem tw_671 : Cond.instanceMethod yX9_readOn ∈ tb := tb_of (List.mem_of_getElem? (i := 717) (by decide +kernel)) (by decide +kernel)
theorem tw_672 : Cond.code yX9_readOn cX9_readOn 3 (some .int) ∈ tb := tb_of (List.mem_of_getElem? (i := 718) (by decide +kernel)) (by decide +kernel)
theorem tw_673 : Cond.methodLink RX9 120 yX9_begin ∈ tb := tb_of (List.mem_of_getElem? (i := 719) (by decide +kernel)) (by decide +kernel)
theorem tw_675 : Cond.instanceMethod yX9_begin ∈ tb := tb_of (List.mem_of_getElem? (i := 721) (by decide +kernel)) (by decide +kernel)
theorem tw_676 : Cond.code yX9_begin cX9_begin 3 (some .int) ∈ tb := tb_of (List.mem_of_getElem? (i := 722) (by decide +kernel)) (by decide +kernel)
theorem tw_677 : Cond.constantLong RX9 104 (65) ∈ tb := tb_of (List.mem_of_getElem? (i := 723) (by decide +kernel)) (by decide +kernel)
theorem tw_678 : Cond.constantLong RX9 106 (70) ∈ tb := tb_of (List.mem_of_getElem? (i := 724) (by decide +kernel)) (by decide +kernel)
theorem tw_679 : Cond.methodLink RX9 108 yX9_close ∈ tb := tb_of (List.mem_of_getElem? (i := 725) (by decide +kernel)) (by decide +kernel)
theorem tw_681 : Cond.instanceMethod yX9_close ∈ tb := tb_of (List.mem_of_getElem? (i := 727) (by decide +kernel)) (by decide +kernel)
theorem tw_682 : Cond.code yX9_close cX9_close 2 (some .int) ∈ tb := tb_of (List.mem_of_getElem? (i := 728) (by decide +kernel)) (by decide +kernel)
theorem tw_683 : Cond.methodLink RX9 123 yX9_deed ∈ tb := tb_of (List.mem_of_getElem? (i := 729) (by decide +kernel)) (by decide +kernel)
theorem tw_685 : Cond.instanceMethod yX9_deed ∈ tb := tb_of (List.mem_of_getElem? (i := 731) (by decide +kernel)) (by decide +kernel)
theorem tw_686 : Cond.code yX9_deed cX9_deed 2 (some .int) ∈ tb := tb_of (List.mem_of_getElem? (i := 732) (by decide +kernel)) (by decide +kernel)
theorem tw_687 : Cond.methodLink RX9 116 yX9_count ∈ tb := tb_of (List.mem_of_getElem? (i := 733) (by decide +kernel)) (by decide +kernel)
theorem tw_689 : Cond.instanceMethod yX9_count ∈ tb := tb_of (List.mem_of_getElem? (i := 735) (by decide +kernel)) (by decide +kernel)
theorem tw_690 : Cond.code yX9_count cX9_count 3 (some .int) ∈ tb := tb_of (List.mem_of_getElem? (i := 736) (by decide +kernel)) (by decide +kernel)
theorem tw_691 : Cond.constantLong RX9 112 (49) ∈ tb := tb_of (List.mem_of_getElem? (i := 737) (by decide +kernel)) (by decide +kernel)
theorem tw_692 : Cond.constantLong RX9 114 (57) ∈ tb := tb_of (List.mem_of_getElem? (i := 738) (by decide +kernel)) (by decide +kernel)
theorem tw_693 : Cond.methodLink RL 40 yX9_judge ∈ tb := tb_of (List.mem_of_getElem? (i := 739) (by decide +kernel)) (by decide +kernel)
theorem tw_694 : Cond.instanceMethod yX9_judge ∈ tb := tb_of (List.mem_of_getElem? (i := 740) (by decide +kernel)) (by decide +kernel)
theorem tw_695 : Cond.selects RX9 yX9_judge yX9_judge ∈ tb := tb_of (List.mem_of_getElem? (i := 741) (by decide +kernel)) (by decide +kernel)
theorem tw_696 : Cond.code yX9_judge cX9_judge 3 (some .int) ∈ tb := tb_of (List.mem_of_getElem? (i := 742) (by decide +kernel)) (by decide +kernel)
theorem tw_697 : Cond.constantLong RX9 190 (2) ∈ tb := tb_of (List.mem_of_getElem? (i := 743) (by decide +kernel)) (by decide +kernel)
theorem tw_698 : Cond.methodLink RX9 192 yX9_refusal ∈ tb := tb_of (List.mem_of_getElem? (i := 744) (by decide +kernel)) (by decide +kernel)
theorem tw_700 : Cond.instanceMethod yX9_refusal ∈ tb := tb_of (List.mem_of_getElem? (i := 746) (by decide +kernel)) (by decide +kernel)
theorem tw_701 : Cond.code yX9_refusal cX9_refusal 1 (some .int) ∈ tb := tb_of (List.mem_of_getElem? (i := 747) (by decide +kernel)) (by decide +kernel)
theorem tw_702 : Cond.methodLink RX9 180 yX9_keepNow ∈ tb := tb_of (List.mem_of_getElem? (i := 748) (by decide +kernel)) (by decide +kernel)
theorem tw_704 : Cond.instanceMethod yX9_keepNow ∈ tb := tb_of (List.mem_of_getElem? (i := 750) (by decide +kernel)) (by decide +kernel)
theorem tw_705 : Cond.code yX9_keepNow cX9_keepNow 2 none ∈ tb := tb_of (List.mem_of_getElem? (i := 751) (by decide +kernel)) (by decide +kernel)
theorem tw_706 : Cond.methodLink RX9 183 yX9_fault ∈ tb := tb_of (List.mem_of_getElem? (i := 752) (by decide +kernel)) (by decide +kernel)
theorem tw_707 : Cond.methodLink RX9 187 yX9_goHours ∈ tb := tb_of (List.mem_of_getElem? (i := 753) (by decide +kernel)) (by decide +kernel)
theorem tw_709 : Cond.instanceMethod yX9_goHours ∈ tb := tb_of (List.mem_of_getElem? (i := 755) (by decide +kernel)) (by decide +kernel)
theorem tw_710 : Cond.code yX9_goHours cX9_goHours 3 none ∈ tb := tb_of (List.mem_of_getElem? (i := 756) (by decide +kernel)) (by decide +kernel)
theorem tw_711 : Cond.methodLink RX9 173 yX9_whyNot ∈ tb := tb_of (List.mem_of_getElem? (i := 757) (by decide +kernel)) (by decide +kernel)
theorem tw_713 : Cond.instanceMethod yX9_whyNot ∈ tb := tb_of (List.mem_of_getElem? (i := 759) (by decide +kernel)) (by decide +kernel)
theorem tw_714 : Cond.code yX9_whyNot cX9_whyNot 4 (some .int) ∈ tb := tb_of (List.mem_of_getElem? (i := 760) (by decide +kernel)) (by decide +kernel)
theorem tw_715 : Cond.methodLink RX9 132 yX9_isChosen ∈ tb := tb_of (List.mem_of_getElem? (i := 761) (by decide +kernel)) (by decide +kernel)
theorem tw_717 : Cond.instanceMethod yX9_isChosen ∈ tb := tb_of (List.mem_of_getElem? (i := 763) (by decide +kernel)) (by decide +kernel)
theorem tw_718 : Cond.code yX9_isChosen cX9_isChosen 4 (some .boolean) ∈ tb := tb_of (List.mem_of_getElem? (i := 764) (by decide +kernel)) (by decide +kernel)
theorem tw_719 : Cond.methodLink RX9 177 yX9_goOne ∈ tb := tb_of (List.mem_of_getElem? (i := 765) (by decide +kernel)) (by decide +kernel)
theorem tw_721 : Cond.instanceMethod yX9_goOne ∈ tb := tb_of (List.mem_of_getElem? (i := 767) (by decide +kernel)) (by decide +kernel)
theorem tw_722 : Cond.code yX9_goOne cX9_goOne 2 none ∈ tb := tb_of (List.mem_of_getElem? (i := 768) (by decide +kernel)) (by decide +kernel)
theorem tw_723 : Cond.methodLink RX9 157 yX9_happen ∈ tb := tb_of (List.mem_of_getElem? (i := 769) (by decide +kernel)) (by decide +kernel)
theorem tw_725 : Cond.instanceMethod yX9_happen ∈ tb := tb_of (List.mem_of_getElem? (i := 771) (by decide +kernel)) (by decide +kernel)
theorem tw_726 : Cond.code yX9_happen cX9_happen 4 none ∈ tb := tb_of (List.mem_of_getElem? (i := 772) (by decide +kernel)) (by decide +kernel)
theorem tw_727 : Cond.methodLink RX9 144 yX9_listen ∈ tb := tb_of (List.mem_of_getElem? (i := 773) (by decide +kernel)) (by decide +kernel)
theorem tw_729 : Cond.instanceMethod yX9_listen ∈ tb := tb_of (List.mem_of_getElem? (i := 775) (by decide +kernel)) (by decide +kernel)
theorem tw_730 : Cond.code yX9_listen cX9_listen 2 none ∈ tb := tb_of (List.mem_of_getElem? (i := 776) (by decide +kernel)) (by decide +kernel)
theorem tw_731 : Cond.methodLink RX9 138 yX9_less ∈ tb := tb_of (List.mem_of_getElem? (i := 777) (by decide +kernel)) (by decide +kernel)
theorem tw_732 : Cond.static yX9_less ∈ tb := tb_of (List.mem_of_getElem? (i := 778) (by decide +kernel)) (by decide +kernel)
theorem tw_733 : Cond.code yX9_less cX9_less 2 (some .int) ∈ tb := tb_of (List.mem_of_getElem? (i := 779) (by decide +kernel)) (by decide +kernel)
theorem tw_734 : Cond.methodLink RX9 148 yX9_swap ∈ tb := tb_of (List.mem_of_getElem? (i := 780) (by decide +kernel)) (by decide +kernel)
theorem tw_736 : Cond.instanceMethod yX9_swap ∈ tb := tb_of (List.mem_of_getElem? (i := 782) (by decide +kernel)) (by decide +kernel)
theorem tw_737 : Cond.code yX9_swap cX9_swap 5 none ∈ tb := tb_of (List.mem_of_getElem? (i := 783) (by decide +kernel)) (by decide +kernel)
theorem tw_738 : Cond.methodLink RX9 151 yX9_choose ∈ tb := tb_of (List.mem_of_getElem? (i := 784) (by decide +kernel)) (by decide +kernel)
theorem tw_740 : Cond.instanceMethod yX9_choose ∈ tb := tb_of (List.mem_of_getElem? (i := 786) (by decide +kernel)) (by decide +kernel)
theorem tw_741 : Cond.code yX9_choose cX9_choose 2 none ∈ tb := tb_of (List.mem_of_getElem? (i := 787) (by decide +kernel)) (by decide +kernel)
theorem tw_742 : Cond.methodLink RX9 154 yX9_passMinute ∈ tb := tb_of (List.mem_of_getElem? (i := 788) (by decide +kernel)) (by decide +kernel)
theorem tw_744 : Cond.instanceMethod yX9_passMinute ∈ tb := tb_of (List.mem_of_getElem? (i := 790) (by decide +kernel)) (by decide +kernel)
theorem tw_745 : Cond.code yX9_passMinute cX9_passMinute 3 none ∈ tb := tb_of (List.mem_of_getElem? (i := 791) (by decide +kernel)) (by decide +kernel)
theorem tw_746 : Cond.methodLink RX9 195 yX9_back ∈ tb := tb_of (List.mem_of_getElem? (i := 792) (by decide +kernel)) (by decide +kernel)
theorem tw_748 : Cond.instanceMethod yX9_back ∈ tb := tb_of (List.mem_of_getElem? (i := 794) (by decide +kernel)) (by decide +kernel)
theorem tw_749 : Cond.code yX9_back cX9_back 3 (some .int) ∈ tb := tb_of (List.mem_of_getElem? (i := 795) (by decide +kernel)) (by decide +kernel)
theorem tw_750 : Cond.methodLink RL 45 yX9_behind ∈ tb := tb_of (List.mem_of_getElem? (i := 796) (by decide +kernel)) (by decide +kernel)
theorem tw_751 : Cond.instanceMethod yX9_behind ∈ tb := tb_of (List.mem_of_getElem? (i := 797) (by decide +kernel)) (by decide +kernel)
theorem tw_752 : Cond.selects RX9 yX9_behind yX9_behind ∈ tb := tb_of (List.mem_of_getElem? (i := 798) (by decide +kernel)) (by decide +kernel)
theorem tw_753 : Cond.code yX9_behind cX9_behind 4 (some .int) ∈ tb := tb_of (List.mem_of_getElem? (i := 799) (by decide +kernel)) (by decide +kernel)
theorem tw_754 : Cond.methodLink RL 49 yX9_stands ∈ tb := tb_of (List.mem_of_getElem? (i := 800) (by decide +kernel)) (by decide +kernel)
theorem tw_755 : Cond.instanceMethod yX9_stands ∈ tb := tb_of (List.mem_of_getElem? (i := 801) (by decide +kernel)) (by decide +kernel)
theorem tw_756 : Cond.selects RX9 yX9_stands yX9_stands ∈ tb := tb_of (List.mem_of_getElem? (i := 802) (by decide +kernel)) (by decide +kernel)
theorem tw_757 : Cond.code yX9_stands cX9_stands 4 (some .int) ∈ tb := tb_of (List.mem_of_getElem? (i := 803) (by decide +kernel)) (by decide +kernel)
theorem tw_758 : Cond.methodLink RL 53 yX9_house ∈ tb := tb_of (List.mem_of_getElem? (i := 804) (by decide +kernel)) (by decide +kernel)
theorem tw_759 : Cond.instanceMethod yX9_house ∈ tb := tb_of (List.mem_of_getElem? (i := 805) (by decide +kernel)) (by decide +kernel)
theorem tw_760 : Cond.selects RX9 yX9_house yX9_house ∈ tb := tb_of (List.mem_of_getElem? (i := 806) (by decide +kernel)) (by decide +kernel)
theorem tw_761 : Cond.code yX9_house cX9_house 3 (some .int) ∈ tb := tb_of (List.mem_of_getElem? (i := 807) (by decide +kernel)) (by decide +kernel)
theorem tw_762 : Cond.constantLong RX9 207 (3) ∈ tb := tb_of (List.mem_of_getElem? (i := 808) (by decide +kernel)) (by decide +kernel)
theorem tw_763 : Cond.methodLink RX9 209 yX9_ofHouse ∈ tb := tb_of (List.mem_of_getElem? (i := 809) (by decide +kernel)) (by decide +kernel)
theorem tw_765 : Cond.instanceMethod yX9_ofHouse ∈ tb := tb_of (List.mem_of_getElem? (i := 811) (by decide +kernel)) (by decide +kernel)
theorem tw_766 : Cond.code yX9_ofHouse cX9_ofHouse 2 (some .int) ∈ tb := tb_of (List.mem_of_getElem? (i := 812) (by decide +kernel)) (by decide +kernel)
theorem tw_767 : Cond.methodLink RX9 198 yX9_whoChose ∈ tb := tb_of (List.mem_of_getElem? (i := 813) (by decide +kernel)) (by decide +kernel)
theorem tw_769 : Cond.instanceMethod yX9_whoChose ∈ tb := tb_of (List.mem_of_getElem? (i := 815) (by decide +kernel)) (by decide +kernel)
theorem tw_770 : Cond.code yX9_whoChose cX9_whoChose 3 (some .int) ∈ tb := tb_of (List.mem_of_getElem? (i := 816) (by decide +kernel)) (by decide +kernel)
theorem tw_771 : Cond.methodLink RX9 201 yX9_whoRight ∈ tb := tb_of (List.mem_of_getElem? (i := 817) (by decide +kernel)) (by decide +kernel)
theorem tw_773 : Cond.instanceMethod yX9_whoRight ∈ tb := tb_of (List.mem_of_getElem? (i := 819) (by decide +kernel)) (by decide +kernel)
theorem tw_774 : Cond.code yX9_whoRight cX9_whoRight 4 (some .int) ∈ tb := tb_of (List.mem_of_getElem? (i := 820) (by decide +kernel)) (by decide +kernel)
theorem tw_775 : Cond.methodLink RX9 204 yX9_nickMany ∈ tb := tb_of (List.mem_of_getElem? (i := 821) (by decide +kernel)) (by decide +kernel)
theorem tw_777 : Cond.instanceMethod yX9_nickMany ∈ tb := tb_of (List.mem_of_getElem? (i := 823) (by decide +kernel)) (by decide +kernel)
theorem tw_778 : Cond.code yX9_nickMany cX9_nickMany 3 (some .int) ∈ tb := tb_of (List.mem_of_getElem? (i := 824) (by decide +kernel)) (by decide +kernel)
theorem tw_779 : Cond.methodLink RL 57 yX9_wrong ∈ tb := tb_of (List.mem_of_getElem? (i := 825) (by decide +kernel)) (by decide +kernel)
theorem tw_780 : Cond.instanceMethod yX9_wrong ∈ tb := tb_of (List.mem_of_getElem? (i := 826) (by decide +kernel)) (by decide +kernel)
theorem tw_781 : Cond.selects RX9 yX9_wrong yX9_wrong ∈ tb := tb_of (List.mem_of_getElem? (i := 827) (by decide +kernel)) (by decide +kernel)
theorem tw_782 : Cond.code yX9_wrong cX9_wrong 3 (some .int) ∈ tb := tb_of (List.mem_of_getElem? (i := 828) (by decide +kernel)) (by decide +kernel)
theorem tw_783 : Cond.methodLink RL 61 yX9_done ∈ tb := tb_of (List.mem_of_getElem? (i := 829) (by decide +kernel)) (by decide +kernel)
theorem tw_784 : Cond.instanceMethod yX9_done ∈ tb := tb_of (List.mem_of_getElem? (i := 830) (by decide +kernel)) (by decide +kernel)
theorem tw_785 : Cond.selects RX9 yX9_done yX9_done ∈ tb := tb_of (List.mem_of_getElem? (i := 831) (by decide +kernel)) (by decide +kernel)
theorem tw_786 : Cond.code yX9_done cX9_done 2 (some .int) ∈ tb := tb_of (List.mem_of_getElem? (i := 832) (by decide +kernel)) (by decide +kernel)
theorem tw_787 : Cond.methodLink RL 66 yX9_seek ∈ tb := tb_of (List.mem_of_getElem? (i := 833) (by decide +kernel)) (by decide +kernel)
theorem tw_788 : Cond.instanceMethod yX9_seek ∈ tb := tb_of (List.mem_of_getElem? (i := 834) (by decide +kernel)) (by decide +kernel)
theorem tw_789 : Cond.selects RX9 yX9_seek yX9_seek ∈ tb := tb_of (List.mem_of_getElem? (i := 835) (by decide +kernel)) (by decide +kernel)
theorem tw_790 : Cond.code yX9_seek cX9_seek 5 (some .long) ∈ tb := tb_of (List.mem_of_getElem? (i := 836) (by decide +kernel)) (by decide +kernel)
theorem tw_791 : Cond.methodLink RX9 219 yX9_readBoth ∈ tb := tb_of (List.mem_of_getElem? (i := 837) (by decide +kernel)) (by decide +kernel)
theorem tw_793 : Cond.instanceMethod yX9_readBoth ∈ tb := tb_of (List.mem_of_getElem? (i := 839) (by decide +kernel)) (by decide +kernel)
theorem tw_794 : Cond.code yX9_readBoth cX9_readBoth 7 (some .boolean) ∈ tb := tb_of (List.mem_of_getElem? (i := 840) (by decide +kernel)) (by decide +kernel)
theorem tw_795 : Cond.methodLink RX9 212 yX9_isRow ∈ tb := tb_of (List.mem_of_getElem? (i := 841) (by decide +kernel)) (by decide +kernel)
theorem tw_796 : Cond.static yX9_isRow ∈ tb := tb_of (List.mem_of_getElem? (i := 842) (by decide +kernel)) (by decide +kernel)
theorem tw_797 : Cond.code yX9_isRow cX9_isRow 5 (some .boolean) ∈ tb := tb_of (List.mem_of_getElem? (i := 843) (by decide +kernel)) (by decide +kernel)
theorem tw_798 : Cond.constantLong RX9 223 (-1000000000000000002) ∈ tb := tb_of (List.mem_of_getElem? (i := 844) (by decide +kernel)) (by decide +kernel)
theorem tw_799 : Cond.methodLink RX9 225 yX9_timeOf ∈ tb := tb_of (List.mem_of_getElem? (i := 845) (by decide +kernel)) (by decide +kernel)
theorem tw_801 : Cond.instanceMethod yX9_timeOf ∈ tb := tb_of (List.mem_of_getElem? (i := 847) (by decide +kernel)) (by decide +kernel)
theorem tw_802 : Cond.code yX9_timeOf cX9_timeOf 6 (some .int) ∈ tb := tb_of (List.mem_of_getElem? (i := 848) (by decide +kernel)) (by decide +kernel)
theorem tw_803 : Cond.methodLink RX9 216 yX9_nextOf ∈ tb := tb_of (List.mem_of_getElem? (i := 849) (by decide +kernel)) (by decide +kernel)
theorem tw_805 : Cond.instanceMethod yX9_nextOf ∈ tb := tb_of (List.mem_of_getElem? (i := 851) (by decide +kernel)) (by decide +kernel)
theorem tw_806 : Cond.code yX9_nextOf cX9_nextOf 7 (some .int) ∈ tb := tb_of (List.mem_of_getElem? (i := 852) (by decide +kernel)) (by decide +kernel)
theorem tw_807 : Cond.methodLink RX9 228 yX9_sumOf ∈ tb := tb_of (List.mem_of_getElem? (i := 853) (by decide +kernel)) (by decide +kernel)
theorem tw_809 : Cond.instanceMethod yX9_sumOf ∈ tb := tb_of (List.mem_of_getElem? (i := 855) (by decide +kernel)) (by decide +kernel)
theorem tw_810 : Cond.code yX9_sumOf cX9_sumOf 4 (some .int) ∈ tb := tb_of (List.mem_of_getElem? (i := 856) (by decide +kernel)) (by decide +kernel)
theorem tw_811 : Cond.methodLink RX9 231 yX9_lowest ∈ tb := tb_of (List.mem_of_getElem? (i := 857) (by decide +kernel)) (by decide +kernel)
theorem tw_812 : Cond.static yX9_lowest ∈ tb := tb_of (List.mem_of_getElem? (i := 858) (by decide +kernel)) (by decide +kernel)
theorem tw_813 : Cond.code yX9_lowest cX9_lowest 11 (some .long) ∈ tb := tb_of (List.mem_of_getElem? (i := 859) (by decide +kernel)) (by decide +kernel)
theorem tw_814 : Cond.methodLink RL 70 yX9_looks ∈ tb := tb_of (List.mem_of_getElem? (i := 860) (by decide +kernel)) (by decide +kernel)
theorem tw_815 : Cond.instanceMethod yX9_looks ∈ tb := tb_of (List.mem_of_getElem? (i := 861) (by decide +kernel)) (by decide +kernel)
theorem tw_816 : Cond.selects RX9 yX9_looks yX9_looks ∈ tb := tb_of (List.mem_of_getElem? (i := 862) (by decide +kernel)) (by decide +kernel)
theorem tw_817 : Cond.code yX9_looks cX9_looks 4 (some .int) ∈ tb := tb_of (List.mem_of_getElem? (i := 863) (by decide +kernel)) (by decide +kernel)
theorem tw_818 : Cond.methodLink RL 74 yX9_mix ∈ tb := tb_of (List.mem_of_getElem? (i := 864) (by decide +kernel)) (by decide +kernel)
theorem tw_819 : Cond.instanceMethod yX9_mix ∈ tb := tb_of (List.mem_of_getElem? (i := 865) (by decide +kernel)) (by decide +kernel)
theorem tw_820 : Cond.selects RX9 yX9_mix yX9_mix ∈ tb := tb_of (List.mem_of_getElem? (i := 866) (by decide +kernel)) (by decide +kernel)
theorem tw_821 : Cond.code yX9_mix cX9_mix 8 (some .int) ∈ tb := tb_of (List.mem_of_getElem? (i := 867) (by decide +kernel)) (by decide +kernel)
theorem tw_822 : Cond.constantLong RX9 238 (998) ∈ tb := tb_of (List.mem_of_getElem? (i := 868) (by decide +kernel)) (by decide +kernel)
theorem tw_823 : Cond.constantLong RX9 240 (999999999) ∈ tb := tb_of (List.mem_of_getElem? (i := 869) (by decide +kernel)) (by decide +kernel)
theorem tw_824 : Cond.methodLink RX9 242 yX9_orderOf ∈ tb := tb_of (List.mem_of_getElem? (i := 870) (by decide +kernel)) (by decide +kernel)
theorem tw_825 : Cond.static yX9_orderOf ∈ tb := tb_of (List.mem_of_getElem? (i := 871) (by decide +kernel)) (by decide +kernel)
theorem tw_826 : Cond.code yX9_orderOf cX9_orderOf 3 (some .int) ∈ tb := tb_of (List.mem_of_getElem? (i := 872) (by decide +kernel)) (by decide +kernel)
theorem tw_827 : Cond.methodLink RX9 235 yX9_mixedOnce ∈ tb := tb_of (List.mem_of_getElem? (i := 873) (by decide +kernel)) (by decide +kernel)
theorem tw_828 : Cond.static yX9_mixedOnce ∈ tb := tb_of (List.mem_of_getElem? (i := 874) (by decide +kernel)) (by decide +kernel)
theorem tw_829 : Cond.code yX9_mixedOnce cX9_mixedOnce 2 (some .int) ∈ tb := tb_of (List.mem_of_getElem? (i := 875) (by decide +kernel)) (by decide +kernel)
theorem tw_830 : Cond.methodLink RL 78 yX9_rises ∈ tb := tb_of (List.mem_of_getElem? (i := 876) (by decide +kernel)) (by decide +kernel)
theorem tw_831 : Cond.instanceMethod yX9_rises ∈ tb := tb_of (List.mem_of_getElem? (i := 877) (by decide +kernel)) (by decide +kernel)
theorem tw_832 : Cond.selects RX9 yX9_rises yX9_rises ∈ tb := tb_of (List.mem_of_getElem? (i := 878) (by decide +kernel)) (by decide +kernel)
theorem tw_833 : Cond.code yX9_rises cX9_rises 5 (some .int) ∈ tb := tb_of (List.mem_of_getElem? (i := 879) (by decide +kernel)) (by decide +kernel)
theorem tw_834 : Cond.methodLink RX9 245 yX9_riseFrom ∈ tb := tb_of (List.mem_of_getElem? (i := 880) (by decide +kernel)) (by decide +kernel)
theorem tw_836 : Cond.instanceMethod yX9_riseFrom ∈ tb := tb_of (List.mem_of_getElem? (i := 882) (by decide +kernel)) (by decide +kernel)
theorem tw_837 : Cond.code yX9_riseFrom cX9_riseFrom 4 (some .int) ∈ tb := tb_of (List.mem_of_getElem? (i := 883) (by decide +kernel)) (by decide +kernel)
theorem tw_838 : Cond.methodLink RL 83 yX9_like ∈ tb := tb_of (List.mem_of_getElem? (i := 884) (by decide +kernel)) (by decide +kernel)
theorem tw_839 : Cond.instanceMethod yX9_like ∈ tb := tb_of (List.mem_of_getElem? (i := 885) (by decide +kernel)) (by decide +kernel)
theorem tw_840 : Cond.selects RX9 yX9_like yX9_like ∈ tb := tb_of (List.mem_of_getElem? (i := 886) (by decide +kernel)) (by decide +kernel)
theorem tw_841 : Cond.code yX9_like cX9_like 4 (some .int) ∈ tb := tb_of (List.mem_of_getElem? (i := 887) (by decide +kernel)) (by decide +kernel)
theorem tw_842 : Cond.constantLong RX9 248 (8) ∈ tb := tb_of (List.mem_of_getElem? (i := 888) (by decide +kernel)) (by decide +kernel)
theorem tw_843 : Cond.methodLink RL 87 yX9_forget ∈ tb := tb_of (List.mem_of_getElem? (i := 889) (by decide +kernel)) (by decide +kernel)
theorem tw_844 : Cond.instanceMethod yX9_forget ∈ tb := tb_of (List.mem_of_getElem? (i := 890) (by decide +kernel)) (by decide +kernel)
theorem tw_845 : Cond.selects RX9 yX9_forget yX9_forget ∈ tb := tb_of (List.mem_of_getElem? (i := 891) (by decide +kernel)) (by decide +kernel)
theorem tw_846 : Cond.code yX9_forget cX9_forget 2 (some .int) ∈ tb := tb_of (List.mem_of_getElem? (i := 892) (by decide +kernel)) (by decide +kernel)
theorem tw_847 : Cond.methodLink RL 91 yX9_own ∈ tb := tb_of (List.mem_of_getElem? (i := 893) (by decide +kernel)) (by decide +kernel)
theorem tw_848 : Cond.instanceMethod yX9_own ∈ tb := tb_of (List.mem_of_getElem? (i := 894) (by decide +kernel)) (by decide +kernel)
theorem tw_849 : Cond.selects RX9 yX9_own yX9_own ∈ tb := tb_of (List.mem_of_getElem? (i := 895) (by decide +kernel)) (by decide +kernel)
theorem tw_850 : Cond.code yX9_own cX9_own 4 (some .int) ∈ tb := tb_of (List.mem_of_getElem? (i := 896) (by decide +kernel)) (by decide +kernel)
theorem tw_851 : Cond.methodLink RX9 256 yX9_isFit ∈ tb := tb_of (List.mem_of_getElem? (i := 897) (by decide +kernel)) (by decide +kernel)
theorem tw_853 : Cond.instanceMethod yX9_isFit ∈ tb := tb_of (List.mem_of_getElem? (i := 899) (by decide +kernel)) (by decide +kernel)
theorem tw_854 : Cond.code yX9_isFit cX9_isFit 4 (some .boolean) ∈ tb := tb_of (List.mem_of_getElem? (i := 900) (by decide +kernel)) (by decide +kernel)
theorem tw_855 : Cond.methodLink RX9 253 yX9_isLike ∈ tb := tb_of (List.mem_of_getElem? (i := 901) (by decide +kernel)) (by decide +kernel)
theorem tw_856 : Cond.static yX9_isLike ∈ tb := tb_of (List.mem_of_getElem? (i := 902) (by decide +kernel)) (by decide +kernel)
theorem tw_857 : Cond.code yX9_isLike cX9_isLike 3 (some .boolean) ∈ tb := tb_of (List.mem_of_getElem? (i := 903) (by decide +kernel)) (by decide +kernel)
theorem tw_858 : Cond.methodLink RL 95 yX9_ask ∈ tb := tb_of (List.mem_of_getElem? (i := 904) (by decide +kernel)) (by decide +kernel)
theorem tw_859 : Cond.instanceMethod yX9_ask ∈ tb := tb_of (List.mem_of_getElem? (i := 905) (by decide +kernel)) (by decide +kernel)
theorem tw_860 : Cond.selects RX9 yX9_ask yX9_ask ∈ tb := tb_of (List.mem_of_getElem? (i := 906) (by decide +kernel)) (by decide +kernel)
theorem tw_861 : Cond.code yX9_ask cX9_ask 6 (some .int) ∈ tb := tb_of (List.mem_of_getElem? (i := 907) (by decide +kernel)) (by decide +kernel)
theorem tw_862 : Cond.methodLink RX9 259 yX9_mostLeft ∈ tb := tb_of (List.mem_of_getElem? (i := 908) (by decide +kernel)) (by decide +kernel)
theorem tw_864 : Cond.instanceMethod yX9_mostLeft ∈ tb := tb_of (List.mem_of_getElem? (i := 910) (by decide +kernel)) (by decide +kernel)
theorem tw_865 : Cond.code yX9_mostLeft cX9_mostLeft 7 (some .int) ∈ tb := tb_of (List.mem_of_getElem? (i := 911) (by decide +kernel)) (by decide +kernel)
theorem tw_866 : Cond.methodLink RL 99 yX9_take ∈ tb := tb_of (List.mem_of_getElem? (i := 912) (by decide +kernel)) (by decide +kernel)
theorem tw_867 : Cond.instanceMethod yX9_take ∈ tb := tb_of (List.mem_of_getElem? (i := 913) (by decide +kernel)) (by decide +kernel)
theorem tw_868 : Cond.selects RX9 yX9_take yX9_take ∈ tb := tb_of (List.mem_of_getElem? (i := 914) (by decide +kernel)) (by decide +kernel)
theorem tw_869 : Cond.code yX9_take cX9_take 4 (some .int) ∈ tb := tb_of (List.mem_of_getElem? (i := 915) (by decide +kernel)) (by decide +kernel)
theorem tw_870 : Cond.constantLong RX9 262 (999) ∈ tb := tb_of (List.mem_of_getElem? (i := 916) (by decide +kernel)) (by decide +kernel)
theorem tw_871 : Cond.methodLink RX9 264 yX9_leastTake ∈ tb := tb_of (List.mem_of_getElem? (i := 917) (by decide +kernel)) (by decide +kernel)
theorem tw_873 : Cond.instanceMethod yX9_leastTake ∈ tb := tb_of (List.mem_of_getElem? (i := 919) (by decide +kernel)) (by decide +kernel)
theorem tw_874 : Cond.code yX9_leastTake cX9_leastTake 4 (some .int) ∈ tb := tb_of (List.mem_of_getElem? (i := 920) (by decide +kernel)) (by decide +kernel)
theorem tw_875 : Cond.methodLink RL 104 yX9_pass ∈ tb := tb_of (List.mem_of_getElem? (i := 921) (by decide +kernel)) (by decide +kernel)
theorem tw_876 : Cond.instanceMethod yX9_pass ∈ tb := tb_of (List.mem_of_getElem? (i := 922) (by decide +kernel)) (by decide +kernel)
theorem tw_877 : Cond.selects RX9 yX9_pass yX9_pass ∈ tb := tb_of (List.mem_of_getElem? (i := 923) (by decide +kernel)) (by decide +kernel)
theorem tw_878 : Cond.code yX9_pass cX9_pass 4 (some .long) ∈ tb := tb_of (List.mem_of_getElem? (i := 924) (by decide +kernel)) (by decide +kernel)
theorem tw_879 : Cond.constantLong RX9 269 (20) ∈ tb := tb_of (List.mem_of_getElem? (i := 925) (by decide +kernel)) (by decide +kernel)
theorem tw_880 : Cond.methodLink RX9 271 yX9_likely ∈ tb := tb_of (List.mem_of_getElem? (i := 926) (by decide +kernel)) (by decide +kernel)
theorem tw_881 : Cond.static yX9_likely ∈ tb := tb_of (List.mem_of_getElem? (i := 927) (by decide +kernel)) (by decide +kernel)
theorem tw_882 : Cond.code yX9_likely cX9_likely 5 (some .long) ∈ tb := tb_of (List.mem_of_getElem? (i := 928) (by decide +kernel)) (by decide +kernel)
theorem tw_883 : Cond.constantLong RX9 267 (232792560) ∈ tb := tb_of (List.mem_of_getElem? (i := 929) (by decide +kernel)) (by decide +kernel)
theorem tw_884 : Cond.methodLink RL 108 yX9_passes ∈ tb := tb_of (List.mem_of_getElem? (i := 930) (by decide +kernel)) (by decide +kernel)
theorem tw_885 : Cond.instanceMethod yX9_passes ∈ tb := tb_of (List.mem_of_getElem? (i := 931) (by decide +kernel)) (by decide +kernel)
theorem tw_886 : Cond.selects RX9 yX9_passes yX9_passes ∈ tb := tb_of (List.mem_of_getElem? (i := 932) (by decide +kernel)) (by decide +kernel)
theorem tw_887 : Cond.code yX9_passes cX9_passes 4 (some .int) ∈ tb := tb_of (List.mem_of_getElem? (i := 933) (by decide +kernel)) (by decide +kernel)
theorem tw_888 : Cond.methodLink RL 112 yX9_hour ∈ tb := tb_of (List.mem_of_getElem? (i := 934) (by decide +kernel)) (by decide +kernel)
theorem tw_889 : Cond.instanceMethod yX9_hour ∈ tb := tb_of (List.mem_of_getElem? (i := 935) (by decide +kernel)) (by decide +kernel)
theorem tw_890 : Cond.selects RX9 yX9_hour yX9_hour ∈ tb := tb_of (List.mem_of_getElem? (i := 936) (by decide +kernel)) (by decide +kernel)
theorem tw_891 : Cond.code yX9_hour cX9_hour 9 (some .int) ∈ tb := tb_of (List.mem_of_getElem? (i := 937) (by decide +kernel)) (by decide +kernel)
theorem tw_892 : Cond.constantLong RX9 275 (9999) ∈ tb := tb_of (List.mem_of_getElem? (i := 938) (by decide +kernel)) (by decide +kernel)
theorem tw_893 : Cond.constantLong RX9 277 (99) ∈ tb := tb_of (List.mem_of_getElem? (i := 939) (by decide +kernel)) (by decide +kernel)
theorem tw_894 : Cond.constantLong RX9 279 (75) ∈ tb := tb_of (List.mem_of_getElem? (i := 940) (by decide +kernel)) (by decide +kernel)
theorem tw_895 : Cond.constantLong RX9 281 (74) ∈ tb := tb_of (List.mem_of_getElem? (i := 941) (by decide +kernel)) (by decide +kernel)
theorem tw_896 : Cond.constantLong RX9 283 (65537) ∈ tb := tb_of (List.mem_of_getElem? (i := 942) (by decide +kernel)) (by decide +kernel)
theorem tw_897 : Cond.methodLink RX9 285 yX9_actBy ∈ tb := tb_of (List.mem_of_getElem? (i := 943) (by decide +kernel)) (by decide +kernel)
theorem tw_898 : Cond.static yX9_actBy ∈ tb := tb_of (List.mem_of_getElem? (i := 944) (by decide +kernel)) (by decide +kernel)
theorem tw_899 : Cond.code yX9_actBy cX9_actBy 2 (some .int) ∈ tb := tb_of (List.mem_of_getElem? (i := 945) (by decide +kernel)) (by decide +kernel)
theorem tw_900 : Cond.methodLink RL 116 yX9_image ∈ tb := tb_of (List.mem_of_getElem? (i := 946) (by decide +kernel)) (by decide +kernel)
theorem tw_901 : Cond.instanceMethod yX9_image ∈ tb := tb_of (List.mem_of_getElem? (i := 947) (by decide +kernel)) (by decide +kernel)
theorem tw_902 : Cond.selects RX9 yX9_image yX9_image ∈ tb := tb_of (List.mem_of_getElem? (i := 948) (by decide +kernel)) (by decide +kernel)
theorem tw_903 : Cond.code yX9_image cX9_image 2 (some .int) ∈ tb := tb_of (List.mem_of_getElem? (i := 949) (by decide +kernel)) (by decide +kernel)
theorem tw_904 : Cond.methodLink RX9 302 yX9_passAll ∈ tb := tb_of (List.mem_of_getElem? (i := 950) (by decide +kernel)) (by decide +kernel)
theorem tw_906 : Cond.instanceMethod yX9_passAll ∈ tb := tb_of (List.mem_of_getElem? (i := 952) (by decide +kernel)) (by decide +kernel)
theorem tw_907 : Cond.code yX9_passAll cX9_passAll 1 none ∈ tb := tb_of (List.mem_of_getElem? (i := 953) (by decide +kernel)) (by decide +kernel)
theorem tw_908 : Cond.methodLink RX9 295 yX9_put ∈ tb := tb_of (List.mem_of_getElem? (i := 954) (by decide +kernel)) (by decide +kernel)
theorem tw_910 : Cond.instanceMethod yX9_put ∈ tb := tb_of (List.mem_of_getElem? (i := 956) (by decide +kernel)) (by decide +kernel)
theorem tw_911 : Cond.code yX9_put cX9_put 3 (some .int) ∈ tb := tb_of (List.mem_of_getElem? (i := 957) (by decide +kernel)) (by decide +kernel)
theorem tw_912 : Cond.methodLink RX9 298 yX9_passRow ∈ tb := tb_of (List.mem_of_getElem? (i := 958) (by decide +kernel)) (by decide +kernel)
theorem tw_914 : Cond.instanceMethod yX9_passRow ∈ tb := tb_of (List.mem_of_getElem? (i := 960) (by decide +kernel)) (by decide +kernel)
theorem tw_915 : Cond.code yX9_passRow cX9_passRow 4 none ∈ tb := tb_of (List.mem_of_getElem? (i := 961) (by decide +kernel)) (by decide +kernel)
theorem tw_916 : Cond.methodLink RL 120 yX9_restore ∈ tb := tb_of (List.mem_of_getElem? (i := 962) (by decide +kernel)) (by decide +kernel)
theorem tw_917 : Cond.instanceMethod yX9_restore ∈ tb := tb_of (List.mem_of_getElem? (i := 963) (by decide +kernel)) (by decide +kernel)
theorem tw_918 : Cond.selects RX9 yX9_restore yX9_restore ∈ tb := tb_of (List.mem_of_getElem? (i := 964) (by decide +kernel)) (by decide +kernel)
theorem tw_919 : Cond.code yX9_restore cX9_restore 2 (some .int) ∈ tb := tb_of (List.mem_of_getElem? (i := 965) (by decide +kernel)) (by decide +kernel)
theorem tw_920 : Cond.methodLink RL 124 yX9_told ∈ tb := tb_of (List.mem_of_getElem? (i := 966) (by decide +kernel)) (by decide +kernel)
theorem tw_921 : Cond.instanceMethod yX9_told ∈ tb := tb_of (List.mem_of_getElem? (i := 967) (by decide +kernel)) (by decide +kernel)
theorem tw_922 : Cond.selects RX9 yX9_told yX9_told ∈ tb := tb_of (List.mem_of_getElem? (i := 968) (by decide +kernel)) (by decide +kernel)
theorem tw_923 : Cond.code yX9_told cX9_told 2 (some .int) ∈ tb := tb_of (List.mem_of_getElem? (i := 969) (by decide +kernel)) (by decide +kernel)
theorem tw_924 : Cond.constantLong RX9 305 (100) ∈ tb := tb_of (List.mem_of_getElem? (i := 970) (by decide +kernel)) (by decide +kernel)
theorem tw_925 : Cond.constantLong RX9 307 (399) ∈ tb := tb_of (List.mem_of_getElem? (i := 971) (by decide +kernel)) (by decide +kernel)
theorem tw_926 : Cond.methodLink RX9 309 yX9_toldOfPlace ∈ tb := tb_of (List.mem_of_getElem? (i := 972) (by decide +kernel)) (by decide +kernel)
theorem tw_928 : Cond.instanceMethod yX9_toldOfPlace ∈ tb := tb_of (List.mem_of_getElem? (i := 974) (by decide +kernel)) (by decide +kernel)
theorem tw_929 : Cond.code yX9_toldOfPlace cX9_toldOfPlace 3 (some .int) ∈ tb := tb_of (List.mem_of_getElem? (i := 975) (by decide +kernel)) (by decide +kernel)
theorem tw_930 : Cond.constantLong RX9 312 (10) ∈ tb := tb_of (List.mem_of_getElem? (i := 976) (by decide +kernel)) (by decide +kernel)
theorem tw_931 : Cond.methodLink RX9 314 yX9_toldOfHeir ∈ tb := tb_of (List.mem_of_getElem? (i := 977) (by decide +kernel)) (by decide +kernel)
theorem tw_933 : Cond.instanceMethod yX9_toldOfHeir ∈ tb := tb_of (List.mem_of_getElem? (i := 979) (by decide +kernel)) (by decide +kernel)
theorem tw_934 : Cond.code yX9_toldOfHeir cX9_toldOfHeir 3 (some .int) ∈ tb := tb_of (List.mem_of_getElem? (i := 980) (by decide +kernel)) (by decide +kernel)
theorem ts_0 : Cond.selects RX8 yX8_followText yX8_followText ∈ tb := tb_of (List.mem_of_getElem? (i := 0) (by decide +kernel)) (by decide +kernel)
theorem ts_1 : Cond.selects RX7 yX7_begin yX7_begin ∈ tb := tb_of (List.mem_of_getElem? (i := 1) (by decide +kernel)) (by decide +kernel)
theorem ts_2 : Cond.selects RX7 yX7_attempt yX7_attempt ∈ tb := tb_of (List.mem_of_getElem? (i := 2) (by decide +kernel)) (by decide +kernel)
theorem ts_3 : Cond.selects RX0 yX0_isChosen yX0_isChosen ∈ tb := tb_of (List.mem_of_getElem? (i := 3) (by decide +kernel)) (by decide +kernel)
theorem ts_4 : Cond.selects RX0 yX0_listen yX0_listen ∈ tb := tb_of (List.mem_of_getElem? (i := 4) (by decide +kernel)) (by decide +kernel)
theorem ts_5 : Cond.selects RX0 yX0_changeWithNext yX0_changeWithNext ∈ tb := tb_of (List.mem_of_getElem? (i := 5) (by decide +kernel)) (by decide +kernel)
theorem ts_6 : Cond.selects RX0 yX0_letMinutePass yX0_letMinutePass ∈ tb := tb_of (List.mem_of_getElem? (i := 6) (by decide +kernel)) (by decide +kernel)
theorem ts_7 : Cond.selects RX4 yX4_longestFrom yX4_longestFrom ∈ tb := tb_of (List.mem_of_getElem? (i := 7) (by decide +kernel)) (by decide +kernel)
theorem ts_8 : Cond.selects RX6 yX6_countFitting yX6_countFitting ∈ tb := tb_of (List.mem_of_getElem? (i := 8) (by decide +kernel)) (by decide +kernel)
theorem ts_9 : Cond.selects RX6 yX6_countNear yX6_countNear ∈ tb := tb_of (List.mem_of_getElem? (i := 9) (by decide +kernel)) (by decide +kernel)
theorem ts_10 : Cond.selects RX8 yX8_toldOfPlace yX8_toldOfPlace ∈ tb := tb_of (List.mem_of_getElem? (i := 10) (by decide +kernel)) (by decide +kernel)
theorem ts_11 : Cond.selects RX8 yX8_toldOfHeir yX8_toldOfHeir ∈ tb := tb_of (List.mem_of_getElem? (i := 11) (by decide +kernel)) (by decide +kernel)
theorem ts_12 : Cond.selects RX9 yX9_readOn yX9_readOn ∈ tb := tb_of (List.mem_of_getElem? (i := 12) (by decide +kernel)) (by decide +kernel)
theorem ts_13 : Cond.selects RX9 yX9_begin yX9_begin ∈ tb := tb_of (List.mem_of_getElem? (i := 13) (by decide +kernel)) (by decide +kernel)
theorem ts_14 : Cond.selects RX9 yX9_close yX9_close ∈ tb := tb_of (List.mem_of_getElem? (i := 14) (by decide +kernel)) (by decide +kernel)
theorem ts_15 : Cond.selects RX9 yX9_deed yX9_deed ∈ tb := tb_of (List.mem_of_getElem? (i := 15) (by decide +kernel)) (by decide +kernel)
theorem ts_16 : Cond.selects RX9 yX9_count yX9_count ∈ tb := tb_of (List.mem_of_getElem? (i := 16) (by decide +kernel)) (by decide +kernel)
theorem ts_17 : Cond.selects RX9 yX9_refusal yX9_refusal ∈ tb := tb_of (List.mem_of_getElem? (i := 17) (by decide +kernel)) (by decide +kernel)
theorem ts_18 : Cond.selects RX9 yX9_keepNow yX9_keepNow ∈ tb := tb_of (List.mem_of_getElem? (i := 18) (by decide +kernel)) (by decide +kernel)
theorem ts_19 : Cond.selects RX9 yX9_goHours yX9_goHours ∈ tb := tb_of (List.mem_of_getElem? (i := 19) (by decide +kernel)) (by decide +kernel)
theorem ts_20 : Cond.selects RX9 yX9_whyNot yX9_whyNot ∈ tb := tb_of (List.mem_of_getElem? (i := 20) (by decide +kernel)) (by decide +kernel)
theorem ts_21 : Cond.selects RX9 yX9_isChosen yX9_isChosen ∈ tb := tb_of (List.mem_of_getElem? (i := 21) (by decide +kernel)) (by decide +kernel)
theorem ts_22 : Cond.selects RX9 yX9_goOne yX9_goOne ∈ tb := tb_of (List.mem_of_getElem? (i := 22) (by decide +kernel)) (by decide +kernel)
theorem ts_23 : Cond.selects RX9 yX9_happen yX9_happen ∈ tb := tb_of (List.mem_of_getElem? (i := 23) (by decide +kernel)) (by decide +kernel)
theorem ts_24 : Cond.selects RX9 yX9_listen yX9_listen ∈ tb := tb_of (List.mem_of_getElem? (i := 24) (by decide +kernel)) (by decide +kernel)
theorem ts_25 : Cond.selects RX9 yX9_swap yX9_swap ∈ tb := tb_of (List.mem_of_getElem? (i := 25) (by decide +kernel)) (by decide +kernel)
theorem ts_26 : Cond.selects RX9 yX9_choose yX9_choose ∈ tb := tb_of (List.mem_of_getElem? (i := 26) (by decide +kernel)) (by decide +kernel)
theorem ts_27 : Cond.selects RX9 yX9_passMinute yX9_passMinute ∈ tb := tb_of (List.mem_of_getElem? (i := 27) (by decide +kernel)) (by decide +kernel)
theorem ts_28 : Cond.selects RX9 yX9_back yX9_back ∈ tb := tb_of (List.mem_of_getElem? (i := 28) (by decide +kernel)) (by decide +kernel)
theorem ts_29 : Cond.selects RX9 yX9_ofHouse yX9_ofHouse ∈ tb := tb_of (List.mem_of_getElem? (i := 29) (by decide +kernel)) (by decide +kernel)
theorem ts_30 : Cond.selects RX9 yX9_whoChose yX9_whoChose ∈ tb := tb_of (List.mem_of_getElem? (i := 30) (by decide +kernel)) (by decide +kernel)
theorem ts_31 : Cond.selects RX9 yX9_whoRight yX9_whoRight ∈ tb := tb_of (List.mem_of_getElem? (i := 31) (by decide +kernel)) (by decide +kernel)
theorem ts_32 : Cond.selects RX9 yX9_nickMany yX9_nickMany ∈ tb := tb_of (List.mem_of_getElem? (i := 32) (by decide +kernel)) (by decide +kernel)
theorem ts_33 : Cond.selects RX9 yX9_readBoth yX9_readBoth ∈ tb := tb_of (List.mem_of_getElem? (i := 33) (by decide +kernel)) (by decide +kernel)
theorem ts_34 : Cond.selects RX9 yX9_timeOf yX9_timeOf ∈ tb := tb_of (List.mem_of_getElem? (i := 34) (by decide +kernel)) (by decide +kernel)
theorem ts_35 : Cond.selects RX9 yX9_nextOf yX9_nextOf ∈ tb := tb_of (List.mem_of_getElem? (i := 35) (by decide +kernel)) (by decide +kernel)
theorem ts_36 : Cond.selects RX9 yX9_sumOf yX9_sumOf ∈ tb := tb_of (List.mem_of_getElem? (i := 36) (by decide +kernel)) (by decide +kernel)
theorem ts_37 : Cond.selects RX9 yX9_riseFrom yX9_riseFrom ∈ tb := tb_of (List.mem_of_getElem? (i := 37) (by decide +kernel)) (by decide +kernel)
theorem ts_38 : Cond.selects RX9 yX9_isFit yX9_isFit ∈ tb := tb_of (List.mem_of_getElem? (i := 38) (by decide +kernel)) (by decide +kernel)
theorem ts_39 : Cond.selects RX9 yX9_mostLeft yX9_mostLeft ∈ tb := tb_of (List.mem_of_getElem? (i := 39) (by decide +kernel)) (by decide +kernel)
theorem ts_40 : Cond.selects RX9 yX9_leastTake yX9_leastTake ∈ tb := tb_of (List.mem_of_getElem? (i := 40) (by decide +kernel)) (by decide +kernel)
theorem ts_41 : Cond.selects RX9 yX9_passAll yX9_passAll ∈ tb := tb_of (List.mem_of_getElem? (i := 41) (by decide +kernel)) (by decide +kernel)
theorem ts_42 : Cond.selects RX9 yX9_put yX9_put ∈ tb := tb_of (List.mem_of_getElem? (i := 42) (by decide +kernel)) (by decide +kernel)
theorem ts_43 : Cond.selects RX9 yX9_passRow yX9_passRow ∈ tb := tb_of (List.mem_of_getElem? (i := 43) (by decide +kernel)) (by decide +kernel)
theorem ts_44 : Cond.selects RX9 yX9_toldOfPlace yX9_toldOfPlace ∈ tb := tb_of (List.mem_of_getElem? (i := 44) (by decide +kernel)) (by decide +kernel)
theorem ts_45 : Cond.selects RX9 yX9_toldOfHeir yX9_toldOfHeir ∈ tb := tb_of (List.mem_of_getElem? (i := 45) (by decide +kernel)) (by decide +kernel)
theorem in_X0 : ∀ w ∈ u_ws RX0 TX0 8, w ∈ tb := by decide +kernel
theorem in_X2 : ∀ w ∈ u_ws RX2 TX2 2, w ∈ tb := by decide +kernel
theorem in_X4 : ∀ w ∈ u_ws RX4 TX4 3, w ∈ tb := by decide +kernel
theorem in_X6 : ∀ w ∈ u_ws RX6 TX6 7, w ∈ tb := by decide +kernel
theorem in_X7 : ∀ w ∈ u_ws RX7 TX7 7, w ∈ tb := by decide +kernel
theorem in_X8 : ∀ w ∈ u_ws RX8 TX8 8, w ∈ tb := by decide +kernel
theorem in_X9 : ∀ w ∈ u_ws RX9 TX9 33, w ∈ tb := by decide +kernel
section GF
variable {ρ : Type} {X : KX} {D : va_G} {T : Nat → ClassId} {Q : ρ → State → Prop} {n : Nat × Nat} {ws ws' : va_W} {lv : List (Nat × Value)} {pc : Nat} {st : List Value} {o : Option ρ} {cc : ByteArray} {rm : Room}
theorem gf_X0_9 (C : Cx X D T cc RX0 rm) (q0 : Nat) {a : Nat} {fs : List Value} {v : Value} (he : ws[q0]? = some (a, .inr (0, fs))) (hv : fs[0]? = some v) (hd : decode cc pc = .ok (.getfield 9, 3)) (kk : GG X D Q n ws lv (pc + 3) (v :: st) o) : GG X D Q n ws lv pc (.ref a :: st) o := gg_get C in_X0 rfl 0 (by decide) tw_27 q0 he hv hd kk
theorem pF_X0_9 (C : Cx X D T cc RX0 rm) (hini : (kxM X).name = "<init>") (q0 : Nat) {a v : Nat} {fs : List Value} (he : ws[q0]? = some (a, .inr (0, fs))) (hl : 0 < fs.length) (hd : decode cc pc = .ok (.putfield 9, 3)) (hw : ws.set q0 (a, .inr (0, fs.set 0 (.ref v))) = ws') (kk : GG X D Q n ws' lv (pc + 3) st o) : GG X D Q n ws lv pc (.ref v :: .ref a :: st) o := gg_putF C hini in_X0 tyX0 tyX0_ok nmX0 rfl 0 (by decide) tw_27 rfl rfl q0 rfl rfl he hl hd hw kk
theorem gf_X8_70 (C : Cx X D T cc RX8 rm) (q0 : Nat) {a : Nat} {fs : List Value} {v : Value} (he : ws[q0]? = some (a, .inr (0, fs))) (hv : fs[0]? = some v) (hd : decode cc pc = .ok (.getfield 70, 3)) (kk : GG X D Q n ws lv (pc + 3) (v :: st) o) : GG X D Q n ws lv pc (.ref a :: st) o := gg_get C in_X0 rfl 0 (by decide) tw_28 q0 he hv hd kk
theorem gf_X0_15 (C : Cx X D T cc RX0 rm) (q0 : Nat) {a : Nat} {fs : List Value} {v : Value} (he : ws[q0]? = some (a, .inr (0, fs))) (hv : fs[1]? = some v) (hd : decode cc pc = .ok (.getfield 15, 3)) (kk : GG X D Q n ws lv (pc + 3) (v :: st) o) : GG X D Q n ws lv pc (.ref a :: st) o := gg_get C in_X0 rfl 1 (by decide) tw_29 q0 he hv hd kk
theorem pF_X0_15 (C : Cx X D T cc RX0 rm) (hini : (kxM X).name = "<init>") (q0 : Nat) {a v : Nat} {fs : List Value} (he : ws[q0]? = some (a, .inr (0, fs))) (hl : 1 < fs.length) (hd : decode cc pc = .ok (.putfield 15, 3)) (hw : ws.set q0 (a, .inr (0, fs.set 1 (.ref v))) = ws') (kk : GG X D Q n ws' lv (pc + 3) st o) : GG X D Q n ws lv pc (.ref v :: .ref a :: st) o := gg_putF C hini in_X0 tyX0 tyX0_ok nmX0 rfl 1 (by decide) tw_29 rfl rfl q0 rfl rfl he hl hd hw kk
theorem gf_X8_74 (C : Cx X D T cc RX8 rm) (q0 : Nat) {a : Nat} {fs : List Value} {v : Value} (he : ws[q0]? = some (a, .inr (0, fs))) (hv : fs[1]? = some v) (hd : decode cc pc = .ok (.getfield 74, 3)) (kk : GG X D Q n ws lv (pc + 3) (v :: st) o) : GG X D Q n ws lv pc (.ref a :: st) o := gg_get C in_X0 rfl 1 (by decide) tw_30 q0 he hv hd kk
theorem gf_X0_18 (C : Cx X D T cc RX0 rm) (q0 : Nat) {a : Nat} {fs : List Value} {v : Value} (he : ws[q0]? = some (a, .inr (0, fs))) (hv : fs[2]? = some v) (hd : decode cc pc = .ok (.getfield 18, 3)) (kk : GG X D Q n ws lv (pc + 3) (v :: st) o) : GG X D Q n ws lv pc (.ref a :: st) o := gg_get C in_X0 rfl 2 (by decide) tw_31 q0 he hv hd kk
theorem pF_X0_18 (C : Cx X D T cc RX0 rm) (hini : (kxM X).name = "<init>") (q0 : Nat) {a v : Nat} {fs : List Value} (he : ws[q0]? = some (a, .inr (0, fs))) (hl : 2 < fs.length) (hd : decode cc pc = .ok (.putfield 18, 3)) (hw : ws.set q0 (a, .inr (0, fs.set 2 (.ref v))) = ws') (kk : GG X D Q n ws' lv (pc + 3) st o) : GG X D Q n ws lv pc (.ref v :: .ref a :: st) o := gg_putF C hini in_X0 tyX0 tyX0_ok nmX0 rfl 2 (by decide) tw_31 rfl rfl q0 rfl rfl he hl hd hw kk
theorem gf_X8_77 (C : Cx X D T cc RX8 rm) (q0 : Nat) {a : Nat} {fs : List Value} {v : Value} (he : ws[q0]? = some (a, .inr (0, fs))) (hv : fs[2]? = some v) (hd : decode cc pc = .ok (.getfield 77, 3)) (kk : GG X D Q n ws lv (pc + 3) (v :: st) o) : GG X D Q n ws lv pc (.ref a :: st) o := gg_get C in_X0 rfl 2 (by decide) tw_32 q0 he hv hd kk
theorem gf_X0_21 (C : Cx X D T cc RX0 rm) (q0 : Nat) {a : Nat} {fs : List Value} {v : Value} (he : ws[q0]? = some (a, .inr (0, fs))) (hv : fs[3]? = some v) (hd : decode cc pc = .ok (.getfield 21, 3)) (kk : GG X D Q n ws lv (pc + 3) (v :: st) o) : GG X D Q n ws lv pc (.ref a :: st) o := gg_get C in_X0 rfl 3 (by decide) tw_33 q0 he hv hd kk
theorem pF_X0_21 (C : Cx X D T cc RX0 rm) (hini : (kxM X).name = "<init>") (q0 : Nat) {a v : Nat} {fs : List Value} (he : ws[q0]? = some (a, .inr (0, fs))) (hl : 3 < fs.length) (hd : decode cc pc = .ok (.putfield 21, 3)) (hw : ws.set q0 (a, .inr (0, fs.set 3 (.ref v))) = ws') (kk : GG X D Q n ws' lv (pc + 3) st o) : GG X D Q n ws lv pc (.ref v :: .ref a :: st) o := gg_putF C hini in_X0 tyX0 tyX0_ok nmX0 rfl 3 (by decide) tw_33 rfl rfl q0 rfl rfl he hl hd hw kk
theorem gf_X8_80 (C : Cx X D T cc RX8 rm) (q0 : Nat) {a : Nat} {fs : List Value} {v : Value} (he : ws[q0]? = some (a, .inr (0, fs))) (hv : fs[3]? = some v) (hd : decode cc pc = .ok (.getfield 80, 3)) (kk : GG X D Q n ws lv (pc + 3) (v :: st) o) : GG X D Q n ws lv pc (.ref a :: st) o := gg_get C in_X0 rfl 3 (by decide) tw_34 q0 he hv hd kk
theorem gf_X0_24 (C : Cx X D T cc RX0 rm) (q0 : Nat) {a : Nat} {fs : List Value} {v : Value} (he : ws[q0]? = some (a, .inr (0, fs))) (hv : fs[4]? = some v) (hd : decode cc pc = .ok (.getfield 24, 3)) (kk : GG X D Q n ws lv (pc + 3) (v :: st) o) : GG X D Q n ws lv pc (.ref a :: st) o := gg_get C in_X0 rfl 4 (by decide) tw_35 q0 he hv hd kk
theorem pF_X0_24 (C : Cx X D T cc RX0 rm) (hini : (kxM X).name = "<init>") (q0 : Nat) {a v : Nat} {fs : List Value} (he : ws[q0]? = some (a, .inr (0, fs))) (hl : 4 < fs.length) (hd : decode cc pc = .ok (.putfield 24, 3)) (hw : ws.set q0 (a, .inr (0, fs.set 4 (.ref v))) = ws') (kk : GG X D Q n ws' lv (pc + 3) st o) : GG X D Q n ws lv pc (.ref v :: .ref a :: st) o := gg_putF C hini in_X0 tyX0 tyX0_ok nmX0 rfl 4 (by decide) tw_35 rfl rfl q0 rfl rfl he hl hd hw kk
theorem gf_X8_83 (C : Cx X D T cc RX8 rm) (q0 : Nat) {a : Nat} {fs : List Value} {v : Value} (he : ws[q0]? = some (a, .inr (0, fs))) (hv : fs[4]? = some v) (hd : decode cc pc = .ok (.getfield 83, 3)) (kk : GG X D Q n ws lv (pc + 3) (v :: st) o) : GG X D Q n ws lv pc (.ref a :: st) o := gg_get C in_X0 rfl 4 (by decide) tw_36 q0 he hv hd kk
theorem gf_X0_27 (C : Cx X D T cc RX0 rm) (q0 : Nat) {a : Nat} {fs : List Value} {v : Value} (he : ws[q0]? = some (a, .inr (0, fs))) (hv : fs[5]? = some v) (hd : decode cc pc = .ok (.getfield 27, 3)) (kk : GG X D Q n ws lv (pc + 3) (v :: st) o) : GG X D Q n ws lv pc (.ref a :: st) o := gg_get C in_X0 rfl 5 (by decide) tw_37 q0 he hv hd kk
theorem pF_X0_27 (C : Cx X D T cc RX0 rm) (hini : (kxM X).name = "<init>") (q0 : Nat) {a v : Nat} {fs : List Value} (he : ws[q0]? = some (a, .inr (0, fs))) (hl : 5 < fs.length) (hd : decode cc pc = .ok (.putfield 27, 3)) (hw : ws.set q0 (a, .inr (0, fs.set 5 (.ref v))) = ws') (kk : GG X D Q n ws' lv (pc + 3) st o) : GG X D Q n ws lv pc (.ref v :: .ref a :: st) o := gg_putF C hini in_X0 tyX0 tyX0_ok nmX0 rfl 5 (by decide) tw_37 rfl rfl q0 rfl rfl he hl hd hw kk
theorem gf_X8_86 (C : Cx X D T cc RX8 rm) (q0 : Nat) {a : Nat} {fs : List Value} {v : Value} (he : ws[q0]? = some (a, .inr (0, fs))) (hv : fs[5]? = some v) (hd : decode cc pc = .ok (.getfield 86, 3)) (kk : GG X D Q n ws lv (pc + 3) (v :: st) o) : GG X D Q n ws lv pc (.ref a :: st) o := gg_get C in_X0 rfl 5 (by decide) tw_38 q0 he hv hd kk
theorem gf_X0_30 (C : Cx X D T cc RX0 rm) (q0 : Nat) {a : Nat} {fs : List Value} {v : Value} (he : ws[q0]? = some (a, .inr (0, fs))) (hv : fs[6]? = some v) (hd : decode cc pc = .ok (.getfield 30, 3)) (kk : GG X D Q n ws lv (pc + 3) (v :: st) o) : GG X D Q n ws lv pc (.ref a :: st) o := gg_get C in_X0 rfl 6 (by decide) tw_39 q0 he hv hd kk
theorem pF_X0_30 (C : Cx X D T cc RX0 rm) (hini : (kxM X).name = "<init>") (q0 : Nat) {a v : Nat} {fs : List Value} (he : ws[q0]? = some (a, .inr (0, fs))) (hl : 6 < fs.length) (hd : decode cc pc = .ok (.putfield 30, 3)) (hw : ws.set q0 (a, .inr (0, fs.set 6 (.ref v))) = ws') (kk : GG X D Q n ws' lv (pc + 3) st o) : GG X D Q n ws lv pc (.ref v :: .ref a :: st) o := gg_putF C hini in_X0 tyX0 tyX0_ok nmX0 rfl 6 (by decide) tw_39 rfl rfl q0 rfl rfl he hl hd hw kk
theorem gf_X8_89 (C : Cx X D T cc RX8 rm) (q0 : Nat) {a : Nat} {fs : List Value} {v : Value} (he : ws[q0]? = some (a, .inr (0, fs))) (hv : fs[6]? = some v) (hd : decode cc pc = .ok (.getfield 89, 3)) (kk : GG X D Q n ws lv (pc + 3) (v :: st) o) : GG X D Q n ws lv pc (.ref a :: st) o := gg_get C in_X0 rfl 6 (by decide) tw_40 q0 he hv hd kk
theorem gf_X0_39 (C : Cx X D T cc RX0 rm) (q0 : Nat) {a : Nat} {fs : List Value} {v : Value} (he : ws[q0]? = some (a, .inr (0, fs))) (hv : fs[7]? = some v) (hd : decode cc pc = .ok (.getfield 39, 3)) (kk : GG X D Q n ws lv (pc + 3) (v :: st) o) : GG X D Q n ws lv pc (.ref a :: st) o := gg_get C in_X0 rfl 7 (by decide) tw_41 q0 he hv hd kk
theorem pf_X0_39 (C : Cx X D T cc RX0 rm) (q0 : Nat) {a : Nat} {fs : List Value} {v : Int32} (he : ws[q0]? = some (a, .inr (0, fs))) (hl : 7 < fs.length) (hd : decode cc pc = .ok (.putfield 39, 3)) (hw : ws.set q0 (a, .inr (0, fs.set 7 (.int v))) = ws') (kk : GG X D Q n ws' lv (pc + 3) st o) : GG X D Q n ws lv pc (.int v :: .ref a :: st) o := gg_put C in_X0 tyX0 tyX0_ok nmX0 rfl 7 (by decide) tw_41 rfl q0 rfl rfl he hl hd hw kk
theorem gf_X8_128 (C : Cx X D T cc RX8 rm) (q0 : Nat) {a : Nat} {fs : List Value} {v : Value} (he : ws[q0]? = some (a, .inr (0, fs))) (hv : fs[7]? = some v) (hd : decode cc pc = .ok (.getfield 128, 3)) (kk : GG X D Q n ws lv (pc + 3) (v :: st) o) : GG X D Q n ws lv pc (.ref a :: st) o := gg_get C in_X0 rfl 7 (by decide) tw_42 q0 he hv hd kk
theorem pf_X8_128 (C : Cx X D T cc RX8 rm) (q0 : Nat) {a : Nat} {fs : List Value} {v : Int32} (he : ws[q0]? = some (a, .inr (0, fs))) (hl : 7 < fs.length) (hd : decode cc pc = .ok (.putfield 128, 3)) (hw : ws.set q0 (a, .inr (0, fs.set 7 (.int v))) = ws') (kk : GG X D Q n ws' lv (pc + 3) st o) : GG X D Q n ws lv pc (.int v :: .ref a :: st) o := gg_put C in_X0 tyX0 tyX0_ok nmX0 rfl 7 (by decide) tw_42 rfl q0 rfl rfl he hl hd hw kk
theorem gf_X6_11 (C : Cx X D T cc RX6 rm) (q0 : Nat) {a : Nat} {fs : List Value} {v : Value} (he : ws[q0]? = some (a, .inr (3, fs))) (hv : fs[0]? = some v) (hd : decode cc pc = .ok (.getfield 11, 3)) (kk : GG X D Q n ws lv (pc + 3) (v :: st) o) : GG X D Q n ws lv pc (.ref a :: st) o := gg_get C in_X6 rfl 0 (by decide) tw_67 q0 he hv hd kk
theorem pF_X6_11 (C : Cx X D T cc RX6 rm) (hini : (kxM X).name = "<init>") (q0 : Nat) {a v : Nat} {fs : List Value} (he : ws[q0]? = some (a, .inr (3, fs))) (hl : 0 < fs.length) (hd : decode cc pc = .ok (.putfield 11, 3)) (hw : ws.set q0 (a, .inr (3, fs.set 0 (.ref v))) = ws') (kk : GG X D Q n ws' lv (pc + 3) st o) : GG X D Q n ws lv pc (.ref v :: .ref a :: st) o := gg_putF C hini in_X6 tyX6 tyX6_ok nmX6 rfl 0 (by decide) tw_67 rfl rfl q0 rfl rfl he hl hd hw kk
theorem gf_X6_15 (C : Cx X D T cc RX6 rm) (q0 : Nat) {a : Nat} {fs : List Value} {v : Value} (he : ws[q0]? = some (a, .inr (3, fs))) (hv : fs[1]? = some v) (hd : decode cc pc = .ok (.getfield 15, 3)) (kk : GG X D Q n ws lv (pc + 3) (v :: st) o) : GG X D Q n ws lv pc (.ref a :: st) o := gg_get C in_X6 rfl 1 (by decide) tw_68 q0 he hv hd kk
theorem pF_X6_15 (C : Cx X D T cc RX6 rm) (hini : (kxM X).name = "<init>") (q0 : Nat) {a v : Nat} {fs : List Value} (he : ws[q0]? = some (a, .inr (3, fs))) (hl : 1 < fs.length) (hd : decode cc pc = .ok (.putfield 15, 3)) (hw : ws.set q0 (a, .inr (3, fs.set 1 (.ref v))) = ws') (kk : GG X D Q n ws' lv (pc + 3) st o) : GG X D Q n ws lv pc (.ref v :: .ref a :: st) o := gg_putF C hini in_X6 tyX6 tyX6_ok nmX6 rfl 1 (by decide) tw_68 rfl rfl q0 rfl rfl he hl hd hw kk
theorem gf_X6_18 (C : Cx X D T cc RX6 rm) (q0 : Nat) {a : Nat} {fs : List Value} {v : Value} (he : ws[q0]? = some (a, .inr (3, fs))) (hv : fs[2]? = some v) (hd : decode cc pc = .ok (.getfield 18, 3)) (kk : GG X D Q n ws lv (pc + 3) (v :: st) o) : GG X D Q n ws lv pc (.ref a :: st) o := gg_get C in_X6 rfl 2 (by decide) tw_69 q0 he hv hd kk
theorem pF_X6_18 (C : Cx X D T cc RX6 rm) (hini : (kxM X).name = "<init>") (q0 : Nat) {a v : Nat} {fs : List Value} (he : ws[q0]? = some (a, .inr (3, fs))) (hl : 2 < fs.length) (hd : decode cc pc = .ok (.putfield 18, 3)) (hw : ws.set q0 (a, .inr (3, fs.set 2 (.ref v))) = ws') (kk : GG X D Q n ws' lv (pc + 3) st o) : GG X D Q n ws lv pc (.ref v :: .ref a :: st) o := gg_putF C hini in_X6 tyX6 tyX6_ok nmX6 rfl 2 (by decide) tw_69 rfl rfl q0 rfl rfl he hl hd hw kk
theorem gf_X6_22 (C : Cx X D T cc RX6 rm) (q0 : Nat) {a : Nat} {fs : List Value} {v : Value} (he : ws[q0]? = some (a, .inr (3, fs))) (hv : fs[3]? = some v) (hd : decode cc pc = .ok (.getfield 22, 3)) (kk : GG X D Q n ws lv (pc + 3) (v :: st) o) : GG X D Q n ws lv pc (.ref a :: st) o := gg_get C in_X6 rfl 3 (by decide) tw_70 q0 he hv hd kk
theorem pF_X6_22 (C : Cx X D T cc RX6 rm) (hini : (kxM X).name = "<init>") (q0 : Nat) {a v : Nat} {fs : List Value} (he : ws[q0]? = some (a, .inr (3, fs))) (hl : 3 < fs.length) (hd : decode cc pc = .ok (.putfield 22, 3)) (hw : ws.set q0 (a, .inr (3, fs.set 3 (.ref v))) = ws') (kk : GG X D Q n ws' lv (pc + 3) st o) : GG X D Q n ws lv pc (.ref v :: .ref a :: st) o := gg_putF C hini in_X6 tyX6 tyX6_ok nmX6 rfl 3 (by decide) tw_70 rfl rfl q0 rfl rfl he hl hd hw kk
theorem gf_X6_25 (C : Cx X D T cc RX6 rm) (q0 : Nat) {a : Nat} {fs : List Value} {v : Value} (he : ws[q0]? = some (a, .inr (3, fs))) (hv : fs[4]? = some v) (hd : decode cc pc = .ok (.getfield 25, 3)) (kk : GG X D Q n ws lv (pc + 3) (v :: st) o) : GG X D Q n ws lv pc (.ref a :: st) o := gg_get C in_X6 rfl 4 (by decide) tw_71 q0 he hv hd kk
theorem pf_X6_25 (C : Cx X D T cc RX6 rm) (q0 : Nat) {a : Nat} {fs : List Value} {v : Int32} (he : ws[q0]? = some (a, .inr (3, fs))) (hl : 4 < fs.length) (hd : decode cc pc = .ok (.putfield 25, 3)) (hw : ws.set q0 (a, .inr (3, fs.set 4 (.int v))) = ws') (kk : GG X D Q n ws' lv (pc + 3) st o) : GG X D Q n ws lv pc (.int v :: .ref a :: st) o := gg_put C in_X6 tyX6 tyX6_ok nmX6 rfl 4 (by decide) tw_71 rfl q0 rfl rfl he hl hd hw kk
theorem gf_X8_234 (C : Cx X D T cc RX8 rm) (q0 : Nat) {a : Nat} {fs : List Value} {v : Value} (he : ws[q0]? = some (a, .inr (3, fs))) (hv : fs[4]? = some v) (hd : decode cc pc = .ok (.getfield 234, 3)) (kk : GG X D Q n ws lv (pc + 3) (v :: st) o) : GG X D Q n ws lv pc (.ref a :: st) o := gg_get C in_X6 rfl 4 (by decide) tw_72 q0 he hv hd kk
theorem pf_X8_234 (C : Cx X D T cc RX8 rm) (q0 : Nat) {a : Nat} {fs : List Value} {v : Int32} (he : ws[q0]? = some (a, .inr (3, fs))) (hl : 4 < fs.length) (hd : decode cc pc = .ok (.putfield 234, 3)) (hw : ws.set q0 (a, .inr (3, fs.set 4 (.int v))) = ws') (kk : GG X D Q n ws' lv (pc + 3) st o) : GG X D Q n ws lv pc (.int v :: .ref a :: st) o := gg_put C in_X6 tyX6 tyX6_ok nmX6 rfl 4 (by decide) tw_72 rfl q0 rfl rfl he hl hd hw kk
theorem gf_X6_33 (C : Cx X D T cc RX6 rm) (q0 : Nat) {a : Nat} {fs : List Value} {v : Value} (he : ws[q0]? = some (a, .inr (3, fs))) (hv : fs[5]? = some v) (hd : decode cc pc = .ok (.getfield 33, 3)) (kk : GG X D Q n ws lv (pc + 3) (v :: st) o) : GG X D Q n ws lv pc (.ref a :: st) o := gg_get C in_X6 rfl 5 (by decide) tw_73 q0 he hv hd kk
theorem pf_X6_33 (C : Cx X D T cc RX6 rm) (q0 : Nat) {a : Nat} {fs : List Value} {v : Int32} (he : ws[q0]? = some (a, .inr (3, fs))) (hl : 5 < fs.length) (hd : decode cc pc = .ok (.putfield 33, 3)) (hw : ws.set q0 (a, .inr (3, fs.set 5 (.int v))) = ws') (kk : GG X D Q n ws' lv (pc + 3) st o) : GG X D Q n ws lv pc (.int v :: .ref a :: st) o := gg_put C in_X6 tyX6 tyX6_ok nmX6 rfl 5 (by decide) tw_73 rfl q0 rfl rfl he hl hd hw kk
theorem gf_X8_196 (C : Cx X D T cc RX8 rm) (q0 : Nat) {a : Nat} {fs : List Value} {v : Value} (he : ws[q0]? = some (a, .inr (3, fs))) (hv : fs[5]? = some v) (hd : decode cc pc = .ok (.getfield 196, 3)) (kk : GG X D Q n ws lv (pc + 3) (v :: st) o) : GG X D Q n ws lv pc (.ref a :: st) o := gg_get C in_X6 rfl 5 (by decide) tw_74 q0 he hv hd kk
theorem pf_X8_196 (C : Cx X D T cc RX8 rm) (q0 : Nat) {a : Nat} {fs : List Value} {v : Int32} (he : ws[q0]? = some (a, .inr (3, fs))) (hl : 5 < fs.length) (hd : decode cc pc = .ok (.putfield 196, 3)) (hw : ws.set q0 (a, .inr (3, fs.set 5 (.int v))) = ws') (kk : GG X D Q n ws' lv (pc + 3) st o) : GG X D Q n ws lv pc (.int v :: .ref a :: st) o := gg_put C in_X6 tyX6 tyX6_ok nmX6 rfl 5 (by decide) tw_74 rfl q0 rfl rfl he hl hd hw kk
theorem gf_X6_36 (C : Cx X D T cc RX6 rm) (q0 : Nat) {a : Nat} {fs : List Value} {v : Value} (he : ws[q0]? = some (a, .inr (3, fs))) (hv : fs[6]? = some v) (hd : decode cc pc = .ok (.getfield 36, 3)) (kk : GG X D Q n ws lv (pc + 3) (v :: st) o) : GG X D Q n ws lv pc (.ref a :: st) o := gg_get C in_X6 rfl 6 (by decide) tw_75 q0 he hv hd kk
theorem pf_X6_36 (C : Cx X D T cc RX6 rm) (q0 : Nat) {a : Nat} {fs : List Value} {v : Int32} (he : ws[q0]? = some (a, .inr (3, fs))) (hl : 6 < fs.length) (hd : decode cc pc = .ok (.putfield 36, 3)) (hw : ws.set q0 (a, .inr (3, fs.set 6 (.int v))) = ws') (kk : GG X D Q n ws' lv (pc + 3) st o) : GG X D Q n ws lv pc (.int v :: .ref a :: st) o := gg_put C in_X6 tyX6 tyX6_ok nmX6 rfl 6 (by decide) tw_75 rfl q0 rfl rfl he hl hd hw kk
theorem gf_X8_199 (C : Cx X D T cc RX8 rm) (q0 : Nat) {a : Nat} {fs : List Value} {v : Value} (he : ws[q0]? = some (a, .inr (3, fs))) (hv : fs[6]? = some v) (hd : decode cc pc = .ok (.getfield 199, 3)) (kk : GG X D Q n ws lv (pc + 3) (v :: st) o) : GG X D Q n ws lv pc (.ref a :: st) o := gg_get C in_X6 rfl 6 (by decide) tw_76 q0 he hv hd kk
theorem pf_X8_199 (C : Cx X D T cc RX8 rm) (q0 : Nat) {a : Nat} {fs : List Value} {v : Int32} (he : ws[q0]? = some (a, .inr (3, fs))) (hl : 6 < fs.length) (hd : decode cc pc = .ok (.putfield 199, 3)) (hw : ws.set q0 (a, .inr (3, fs.set 6 (.int v))) = ws') (kk : GG X D Q n ws' lv (pc + 3) st o) : GG X D Q n ws lv pc (.int v :: .ref a :: st) o := gg_put C in_X6 tyX6 tyX6_ok nmX6 rfl 6 (by decide) tw_76 rfl q0 rfl rfl he hl hd hw kk
theorem gf_X2_11 (C : Cx X D T cc RX2 rm) (q0 : Nat) {a : Nat} {fs : List Value} {v : Value} (he : ws[q0]? = some (a, .inr (1, fs))) (hv : fs[0]? = some v) (hd : decode cc pc = .ok (.getfield 11, 3)) (kk : GG X D Q n ws lv (pc + 3) (v :: st) o) : GG X D Q n ws lv pc (.ref a :: st) o := gg_get C in_X2 rfl 0 (by decide) tw_99 q0 he hv hd kk
theorem pF_X2_11 (C : Cx X D T cc RX2 rm) (hini : (kxM X).name = "<init>") (q0 : Nat) {a v : Nat} {fs : List Value} (he : ws[q0]? = some (a, .inr (1, fs))) (hl : 0 < fs.length) (hd : decode cc pc = .ok (.putfield 11, 3)) (hw : ws.set q0 (a, .inr (1, fs.set 0 (.ref v))) = ws') (kk : GG X D Q n ws' lv (pc + 3) st o) : GG X D Q n ws lv pc (.ref v :: .ref a :: st) o := gg_putF C hini in_X2 tyX2 tyX2_ok nmX2 rfl 0 (by decide) tw_99 rfl rfl q0 rfl rfl he hl hd hw kk
theorem gf_X7_31 (C : Cx X D T cc RX7 rm) (q0 : Nat) {a : Nat} {fs : List Value} {v : Value} (he : ws[q0]? = some (a, .inr (1, fs))) (hv : fs[0]? = some v) (hd : decode cc pc = .ok (.getfield 31, 3)) (kk : GG X D Q n ws lv (pc + 3) (v :: st) o) : GG X D Q n ws lv pc (.ref a :: st) o := gg_get C in_X2 rfl 0 (by decide) tw_100 q0 he hv hd kk
theorem gf_X2_15 (C : Cx X D T cc RX2 rm) (q0 : Nat) {a : Nat} {fs : List Value} {v : Value} (he : ws[q0]? = some (a, .inr (1, fs))) (hv : fs[1]? = some v) (hd : decode cc pc = .ok (.getfield 15, 3)) (kk : GG X D Q n ws lv (pc + 3) (v :: st) o) : GG X D Q n ws lv pc (.ref a :: st) o := gg_get C in_X2 rfl 1 (by decide) tw_101 q0 he hv hd kk
theorem pf_X2_15 (C : Cx X D T cc RX2 rm) (q0 : Nat) {a : Nat} {fs : List Value} {v : Int32} (he : ws[q0]? = some (a, .inr (1, fs))) (hl : 1 < fs.length) (hd : decode cc pc = .ok (.putfield 15, 3)) (hw : ws.set q0 (a, .inr (1, fs.set 1 (.int v))) = ws') (kk : GG X D Q n ws' lv (pc + 3) st o) : GG X D Q n ws lv pc (.int v :: .ref a :: st) o := gg_put C in_X2 tyX2 tyX2_ok nmX2 rfl 1 (by decide) tw_101 rfl q0 rfl rfl he hl hd hw kk
theorem gf_X7_22 (C : Cx X D T cc RX7 rm) (q0 : Nat) {a : Nat} {fs : List Value} {v : Value} (he : ws[q0]? = some (a, .inr (1, fs))) (hv : fs[1]? = some v) (hd : decode cc pc = .ok (.getfield 22, 3)) (kk : GG X D Q n ws lv (pc + 3) (v :: st) o) : GG X D Q n ws lv pc (.ref a :: st) o := gg_get C in_X2 rfl 1 (by decide) tw_102 q0 he hv hd kk
theorem pf_X7_22 (C : Cx X D T cc RX7 rm) (q0 : Nat) {a : Nat} {fs : List Value} {v : Int32} (he : ws[q0]? = some (a, .inr (1, fs))) (hl : 1 < fs.length) (hd : decode cc pc = .ok (.putfield 22, 3)) (hw : ws.set q0 (a, .inr (1, fs.set 1 (.int v))) = ws') (kk : GG X D Q n ws' lv (pc + 3) st o) : GG X D Q n ws lv pc (.int v :: .ref a :: st) o := gg_put C in_X2 tyX2 tyX2_ok nmX2 rfl 1 (by decide) tw_102 rfl q0 rfl rfl he hl hd hw kk
theorem gf_X8_231 (C : Cx X D T cc RX8 rm) (q0 : Nat) {a : Nat} {fs : List Value} {v : Value} (he : ws[q0]? = some (a, .inr (1, fs))) (hv : fs[1]? = some v) (hd : decode cc pc = .ok (.getfield 231, 3)) (kk : GG X D Q n ws lv (pc + 3) (v :: st) o) : GG X D Q n ws lv pc (.ref a :: st) o := gg_get C in_X2 rfl 1 (by decide) tw_103 q0 he hv hd kk
theorem pf_X8_231 (C : Cx X D T cc RX8 rm) (q0 : Nat) {a : Nat} {fs : List Value} {v : Int32} (he : ws[q0]? = some (a, .inr (1, fs))) (hl : 1 < fs.length) (hd : decode cc pc = .ok (.putfield 231, 3)) (hw : ws.set q0 (a, .inr (1, fs.set 1 (.int v))) = ws') (kk : GG X D Q n ws' lv (pc + 3) st o) : GG X D Q n ws lv pc (.int v :: .ref a :: st) o := gg_put C in_X2 tyX2 tyX2_ok nmX2 rfl 1 (by decide) tw_103 rfl q0 rfl rfl he hl hd hw kk
theorem gf_X7_12 (C : Cx X D T cc RX7 rm) (q0 : Nat) {a : Nat} {fs : List Value} {v : Value} (he : ws[q0]? = some (a, .inr (4, fs))) (hv : fs[0]? = some v) (hd : decode cc pc = .ok (.getfield 12, 3)) (kk : GG X D Q n ws lv (pc + 3) (v :: st) o) : GG X D Q n ws lv pc (.ref a :: st) o := gg_get C in_X7 rfl 0 (by decide) tw_117 q0 he hv hd kk
theorem pF_X7_12 (C : Cx X D T cc RX7 rm) (hini : (kxM X).name = "<init>") (q0 : Nat) {a v : Nat} {fs : List Value} (he : ws[q0]? = some (a, .inr (4, fs))) (hl : 0 < fs.length) (hd : decode cc pc = .ok (.putfield 12, 3)) (hw : ws.set q0 (a, .inr (4, fs.set 0 (.ref v))) = ws') (kk : GG X D Q n ws' lv (pc + 3) st o) : GG X D Q n ws lv pc (.ref v :: .ref a :: st) o := gg_putF C hini in_X7 tyX7 tyX7_ok nmX7 rfl 0 (by decide) tw_117 rfl rfl q0 rfl rfl he hl hd hw kk
theorem gf_X8_116 (C : Cx X D T cc RX8 rm) (q0 : Nat) {a : Nat} {fs : List Value} {v : Value} (he : ws[q0]? = some (a, .inr (4, fs))) (hv : fs[0]? = some v) (hd : decode cc pc = .ok (.getfield 116, 3)) (kk : GG X D Q n ws lv (pc + 3) (v :: st) o) : GG X D Q n ws lv pc (.ref a :: st) o := gg_get C in_X7 rfl 0 (by decide) tw_118 q0 he hv hd kk
theorem gf_X7_64 (C : Cx X D T cc RX7 rm) (q0 : Nat) {a : Nat} {fs : List Value} {v : Value} (he : ws[q0]? = some (a, .inr (4, fs))) (hv : fs[1]? = some v) (hd : decode cc pc = .ok (.getfield 64, 3)) (kk : GG X D Q n ws lv (pc + 3) (v :: st) o) : GG X D Q n ws lv pc (.ref a :: st) o := gg_get C in_X7 rfl 1 (by decide) tw_119 q0 he hv hd kk
theorem pf_X7_64 (C : Cx X D T cc RX7 rm) (q0 : Nat) {a : Nat} {fs : List Value} {v : Int32} (he : ws[q0]? = some (a, .inr (4, fs))) (hl : 1 < fs.length) (hd : decode cc pc = .ok (.putfield 64, 3)) (hw : ws.set q0 (a, .inr (4, fs.set 1 (.int v))) = ws') (kk : GG X D Q n ws' lv (pc + 3) st o) : GG X D Q n ws lv pc (.int v :: .ref a :: st) o := gg_put C in_X7 tyX7 tyX7_ok nmX7 rfl 1 (by decide) tw_119 rfl q0 rfl rfl he hl hd hw kk
theorem gf_X8_141 (C : Cx X D T cc RX8 rm) (q0 : Nat) {a : Nat} {fs : List Value} {v : Value} (he : ws[q0]? = some (a, .inr (4, fs))) (hv : fs[1]? = some v) (hd : decode cc pc = .ok (.getfield 141, 3)) (kk : GG X D Q n ws lv (pc + 3) (v :: st) o) : GG X D Q n ws lv pc (.ref a :: st) o := gg_get C in_X7 rfl 1 (by decide) tw_120 q0 he hv hd kk
theorem pf_X8_141 (C : Cx X D T cc RX8 rm) (q0 : Nat) {a : Nat} {fs : List Value} {v : Int32} (he : ws[q0]? = some (a, .inr (4, fs))) (hl : 1 < fs.length) (hd : decode cc pc = .ok (.putfield 141, 3)) (hw : ws.set q0 (a, .inr (4, fs.set 1 (.int v))) = ws') (kk : GG X D Q n ws' lv (pc + 3) st o) : GG X D Q n ws lv pc (.int v :: .ref a :: st) o := gg_put C in_X7 tyX7 tyX7_ok nmX7 rfl 1 (by decide) tw_120 rfl q0 rfl rfl he hl hd hw kk
theorem gf_X7_28 (C : Cx X D T cc RX7 rm) (q0 : Nat) {a : Nat} {fs : List Value} {v : Value} (he : ws[q0]? = some (a, .inr (4, fs))) (hv : fs[2]? = some v) (hd : decode cc pc = .ok (.getfield 28, 3)) (kk : GG X D Q n ws lv (pc + 3) (v :: st) o) : GG X D Q n ws lv pc (.ref a :: st) o := gg_get C in_X7 rfl 2 (by decide) tw_121 q0 he hv hd kk
theorem pf_X7_28 (C : Cx X D T cc RX7 rm) (q0 : Nat) {a : Nat} {fs : List Value} {v : Int32} (he : ws[q0]? = some (a, .inr (4, fs))) (hl : 2 < fs.length) (hd : decode cc pc = .ok (.putfield 28, 3)) (hw : ws.set q0 (a, .inr (4, fs.set 2 (.int v))) = ws') (kk : GG X D Q n ws' lv (pc + 3) st o) : GG X D Q n ws lv pc (.int v :: .ref a :: st) o := gg_put C in_X7 tyX7 tyX7_ok nmX7 rfl 2 (by decide) tw_121 rfl q0 rfl rfl he hl hd hw kk
theorem gf_X8_106 (C : Cx X D T cc RX8 rm) (q0 : Nat) {a : Nat} {fs : List Value} {v : Value} (he : ws[q0]? = some (a, .inr (4, fs))) (hv : fs[2]? = some v) (hd : decode cc pc = .ok (.getfield 106, 3)) (kk : GG X D Q n ws lv (pc + 3) (v :: st) o) : GG X D Q n ws lv pc (.ref a :: st) o := gg_get C in_X7 rfl 2 (by decide) tw_122 q0 he hv hd kk
theorem pf_X8_106 (C : Cx X D T cc RX8 rm) (q0 : Nat) {a : Nat} {fs : List Value} {v : Int32} (he : ws[q0]? = some (a, .inr (4, fs))) (hl : 2 < fs.length) (hd : decode cc pc = .ok (.putfield 106, 3)) (hw : ws.set q0 (a, .inr (4, fs.set 2 (.int v))) = ws') (kk : GG X D Q n ws' lv (pc + 3) st o) : GG X D Q n ws lv pc (.int v :: .ref a :: st) o := gg_put C in_X7 tyX7 tyX7_ok nmX7 rfl 2 (by decide) tw_122 rfl q0 rfl rfl he hl hd hw kk
theorem gf_X7_67 (C : Cx X D T cc RX7 rm) (q0 : Nat) {a : Nat} {fs : List Value} {v : Value} (he : ws[q0]? = some (a, .inr (4, fs))) (hv : fs[3]? = some v) (hd : decode cc pc = .ok (.getfield 67, 3)) (kk : GG X D Q n ws lv (pc + 3) (v :: st) o) : GG X D Q n ws lv pc (.ref a :: st) o := gg_get C in_X7 rfl 3 (by decide) tw_123 q0 he hv hd kk
theorem pf_X7_67 (C : Cx X D T cc RX7 rm) (q0 : Nat) {a : Nat} {fs : List Value} {v : Int32} (he : ws[q0]? = some (a, .inr (4, fs))) (hl : 3 < fs.length) (hd : decode cc pc = .ok (.putfield 67, 3)) (hw : ws.set q0 (a, .inr (4, fs.set 3 (.int v))) = ws') (kk : GG X D Q n ws' lv (pc + 3) st o) : GG X D Q n ws lv pc (.int v :: .ref a :: st) o := gg_put C in_X7 tyX7 tyX7_ok nmX7 rfl 3 (by decide) tw_123 rfl q0 rfl rfl he hl hd hw kk
theorem gf_X8_110 (C : Cx X D T cc RX8 rm) (q0 : Nat) {a : Nat} {fs : List Value} {v : Value} (he : ws[q0]? = some (a, .inr (4, fs))) (hv : fs[3]? = some v) (hd : decode cc pc = .ok (.getfield 110, 3)) (kk : GG X D Q n ws lv (pc + 3) (v :: st) o) : GG X D Q n ws lv pc (.ref a :: st) o := gg_get C in_X7 rfl 3 (by decide) tw_124 q0 he hv hd kk
theorem pf_X8_110 (C : Cx X D T cc RX8 rm) (q0 : Nat) {a : Nat} {fs : List Value} {v : Int32} (he : ws[q0]? = some (a, .inr (4, fs))) (hl : 3 < fs.length) (hd : decode cc pc = .ok (.putfield 110, 3)) (hw : ws.set q0 (a, .inr (4, fs.set 3 (.int v))) = ws') (kk : GG X D Q n ws' lv (pc + 3) st o) : GG X D Q n ws lv pc (.int v :: .ref a :: st) o := gg_put C in_X7 tyX7 tyX7_ok nmX7 rfl 3 (by decide) tw_124 rfl q0 rfl rfl he hl hd hw kk
theorem gf_X7_70 (C : Cx X D T cc RX7 rm) (q0 : Nat) {a : Nat} {fs : List Value} {v : Value} (he : ws[q0]? = some (a, .inr (4, fs))) (hv : fs[4]? = some v) (hd : decode cc pc = .ok (.getfield 70, 3)) (kk : GG X D Q n ws lv (pc + 3) (v :: st) o) : GG X D Q n ws lv pc (.ref a :: st) o := gg_get C in_X7 rfl 4 (by decide) tw_125 q0 he hv hd kk
theorem pf_X7_70 (C : Cx X D T cc RX7 rm) (q0 : Nat) {a : Nat} {fs : List Value} {v : Int32} (he : ws[q0]? = some (a, .inr (4, fs))) (hl : 4 < fs.length) (hd : decode cc pc = .ok (.putfield 70, 3)) (hw : ws.set q0 (a, .inr (4, fs.set 4 (.int v))) = ws') (kk : GG X D Q n ws' lv (pc + 3) st o) : GG X D Q n ws lv pc (.int v :: .ref a :: st) o := gg_put C in_X7 tyX7 tyX7_ok nmX7 rfl 4 (by decide) tw_125 rfl q0 rfl rfl he hl hd hw kk
theorem gf_X8_113 (C : Cx X D T cc RX8 rm) (q0 : Nat) {a : Nat} {fs : List Value} {v : Value} (he : ws[q0]? = some (a, .inr (4, fs))) (hv : fs[4]? = some v) (hd : decode cc pc = .ok (.getfield 113, 3)) (kk : GG X D Q n ws lv (pc + 3) (v :: st) o) : GG X D Q n ws lv pc (.ref a :: st) o := gg_get C in_X7 rfl 4 (by decide) tw_126 q0 he hv hd kk
theorem pf_X8_113 (C : Cx X D T cc RX8 rm) (q0 : Nat) {a : Nat} {fs : List Value} {v : Int32} (he : ws[q0]? = some (a, .inr (4, fs))) (hl : 4 < fs.length) (hd : decode cc pc = .ok (.putfield 113, 3)) (hw : ws.set q0 (a, .inr (4, fs.set 4 (.int v))) = ws') (kk : GG X D Q n ws' lv (pc + 3) st o) : GG X D Q n ws lv pc (.int v :: .ref a :: st) o := gg_put C in_X7 tyX7 tyX7_ok nmX7 rfl 4 (by decide) tw_126 rfl q0 rfl rfl he hl hd hw kk
theorem gf_X7_73 (C : Cx X D T cc RX7 rm) (q0 : Nat) {a : Nat} {fs : List Value} {v : Value} (he : ws[q0]? = some (a, .inr (4, fs))) (hv : fs[5]? = some v) (hd : decode cc pc = .ok (.getfield 73, 3)) (kk : GG X D Q n ws lv (pc + 3) (v :: st) o) : GG X D Q n ws lv pc (.ref a :: st) o := gg_get C in_X7 rfl 5 (by decide) tw_127 q0 he hv hd kk
theorem pf_X7_73 (C : Cx X D T cc RX7 rm) (q0 : Nat) {a : Nat} {fs : List Value} {v : Int32} (he : ws[q0]? = some (a, .inr (4, fs))) (hl : 5 < fs.length) (hd : decode cc pc = .ok (.putfield 73, 3)) (hw : ws.set q0 (a, .inr (4, fs.set 5 (.int v))) = ws') (kk : GG X D Q n ws' lv (pc + 3) st o) : GG X D Q n ws lv pc (.int v :: .ref a :: st) o := gg_put C in_X7 tyX7 tyX7_ok nmX7 rfl 5 (by decide) tw_127 rfl q0 rfl rfl he hl hd hw kk
theorem gf_X8_131 (C : Cx X D T cc RX8 rm) (q0 : Nat) {a : Nat} {fs : List Value} {v : Value} (he : ws[q0]? = some (a, .inr (4, fs))) (hv : fs[5]? = some v) (hd : decode cc pc = .ok (.getfield 131, 3)) (kk : GG X D Q n ws lv (pc + 3) (v :: st) o) : GG X D Q n ws lv pc (.ref a :: st) o := gg_get C in_X7 rfl 5 (by decide) tw_128 q0 he hv hd kk
theorem pf_X8_131 (C : Cx X D T cc RX8 rm) (q0 : Nat) {a : Nat} {fs : List Value} {v : Int32} (he : ws[q0]? = some (a, .inr (4, fs))) (hl : 5 < fs.length) (hd : decode cc pc = .ok (.putfield 131, 3)) (hw : ws.set q0 (a, .inr (4, fs.set 5 (.int v))) = ws') (kk : GG X D Q n ws' lv (pc + 3) st o) : GG X D Q n ws lv pc (.int v :: .ref a :: st) o := gg_put C in_X7 tyX7 tyX7_ok nmX7 rfl 5 (by decide) tw_128 rfl q0 rfl rfl he hl hd hw kk
theorem gf_X7_76 (C : Cx X D T cc RX7 rm) (q0 : Nat) {a : Nat} {fs : List Value} {v : Value} (he : ws[q0]? = some (a, .inr (4, fs))) (hv : fs[6]? = some v) (hd : decode cc pc = .ok (.getfield 76, 3)) (kk : GG X D Q n ws lv (pc + 3) (v :: st) o) : GG X D Q n ws lv pc (.ref a :: st) o := gg_get C in_X7 rfl 6 (by decide) tw_129 q0 he hv hd kk
theorem pf_X7_76 (C : Cx X D T cc RX7 rm) (q0 : Nat) {a : Nat} {fs : List Value} {v : Int32} (he : ws[q0]? = some (a, .inr (4, fs))) (hl : 6 < fs.length) (hd : decode cc pc = .ok (.putfield 76, 3)) (hw : ws.set q0 (a, .inr (4, fs.set 6 (.int v))) = ws') (kk : GG X D Q n ws' lv (pc + 3) st o) : GG X D Q n ws lv pc (.int v :: .ref a :: st) o := gg_put C in_X7 tyX7 tyX7_ok nmX7 rfl 6 (by decide) tw_129 rfl q0 rfl rfl he hl hd hw kk
theorem gf_X8_134 (C : Cx X D T cc RX8 rm) (q0 : Nat) {a : Nat} {fs : List Value} {v : Value} (he : ws[q0]? = some (a, .inr (4, fs))) (hv : fs[6]? = some v) (hd : decode cc pc = .ok (.getfield 134, 3)) (kk : GG X D Q n ws lv (pc + 3) (v :: st) o) : GG X D Q n ws lv pc (.ref a :: st) o := gg_get C in_X7 rfl 6 (by decide) tw_130 q0 he hv hd kk
theorem pf_X8_134 (C : Cx X D T cc RX8 rm) (q0 : Nat) {a : Nat} {fs : List Value} {v : Int32} (he : ws[q0]? = some (a, .inr (4, fs))) (hl : 6 < fs.length) (hd : decode cc pc = .ok (.putfield 134, 3)) (hw : ws.set q0 (a, .inr (4, fs.set 6 (.int v))) = ws') (kk : GG X D Q n ws' lv (pc + 3) st o) : GG X D Q n ws lv pc (.int v :: .ref a :: st) o := gg_put C in_X7 tyX7 tyX7_ok nmX7 rfl 6 (by decide) tw_130 rfl q0 rfl rfl he hl hd hw kk
theorem gf_X4_9 (C : Cx X D T cc RX4 rm) (q0 : Nat) {a : Nat} {fs : List Value} {v : Value} (he : ws[q0]? = some (a, .inr (2, fs))) (hv : fs[0]? = some v) (hd : decode cc pc = .ok (.getfield 9, 3)) (kk : GG X D Q n ws lv (pc + 3) (v :: st) o) : GG X D Q n ws lv pc (.ref a :: st) o := gg_get C in_X4 rfl 0 (by decide) tw_152 q0 he hv hd kk
theorem pF_X4_9 (C : Cx X D T cc RX4 rm) (hini : (kxM X).name = "<init>") (q0 : Nat) {a v : Nat} {fs : List Value} (he : ws[q0]? = some (a, .inr (2, fs))) (hl : 0 < fs.length) (hd : decode cc pc = .ok (.putfield 9, 3)) (hw : ws.set q0 (a, .inr (2, fs.set 0 (.ref v))) = ws') (kk : GG X D Q n ws' lv (pc + 3) st o) : GG X D Q n ws lv pc (.ref v :: .ref a :: st) o := gg_putF C hini in_X4 tyX4 tyX4_ok nmX4 rfl 0 (by decide) tw_152 rfl rfl q0 rfl rfl he hl hd hw kk
theorem gf_X4_15 (C : Cx X D T cc RX4 rm) (q0 : Nat) {a : Nat} {fs : List Value} {v : Value} (he : ws[q0]? = some (a, .inr (2, fs))) (hv : fs[1]? = some v) (hd : decode cc pc = .ok (.getfield 15, 3)) (kk : GG X D Q n ws lv (pc + 3) (v :: st) o) : GG X D Q n ws lv pc (.ref a :: st) o := gg_get C in_X4 rfl 1 (by decide) tw_153 q0 he hv hd kk
theorem pf_X4_15 (C : Cx X D T cc RX4 rm) (q0 : Nat) {a : Nat} {fs : List Value} {v : Int32} (he : ws[q0]? = some (a, .inr (2, fs))) (hl : 1 < fs.length) (hd : decode cc pc = .ok (.putfield 15, 3)) (hw : ws.set q0 (a, .inr (2, fs.set 1 (.int v))) = ws') (kk : GG X D Q n ws' lv (pc + 3) st o) : GG X D Q n ws lv pc (.int v :: .ref a :: st) o := gg_put C in_X4 tyX4 tyX4_ok nmX4 rfl 1 (by decide) tw_153 rfl q0 rfl rfl he hl hd hw kk
theorem gf_X8_180 (C : Cx X D T cc RX8 rm) (q0 : Nat) {a : Nat} {fs : List Value} {v : Value} (he : ws[q0]? = some (a, .inr (2, fs))) (hv : fs[1]? = some v) (hd : decode cc pc = .ok (.getfield 180, 3)) (kk : GG X D Q n ws lv (pc + 3) (v :: st) o) : GG X D Q n ws lv pc (.ref a :: st) o := gg_get C in_X4 rfl 1 (by decide) tw_154 q0 he hv hd kk
theorem pf_X8_180 (C : Cx X D T cc RX8 rm) (q0 : Nat) {a : Nat} {fs : List Value} {v : Int32} (he : ws[q0]? = some (a, .inr (2, fs))) (hl : 1 < fs.length) (hd : decode cc pc = .ok (.putfield 180, 3)) (hw : ws.set q0 (a, .inr (2, fs.set 1 (.int v))) = ws') (kk : GG X D Q n ws' lv (pc + 3) st o) : GG X D Q n ws lv pc (.int v :: .ref a :: st) o := gg_put C in_X4 tyX4 tyX4_ok nmX4 rfl 1 (by decide) tw_154 rfl q0 rfl rfl he hl hd hw kk
theorem gf_X4_19 (C : Cx X D T cc RX4 rm) (q0 : Nat) {a : Nat} {fs : List Value} {v : Value} (he : ws[q0]? = some (a, .inr (2, fs))) (hv : fs[2]? = some v) (hd : decode cc pc = .ok (.getfield 19, 3)) (kk : GG X D Q n ws lv (pc + 3) (v :: st) o) : GG X D Q n ws lv pc (.ref a :: st) o := gg_get C in_X4 rfl 2 (by decide) tw_155 q0 he hv hd kk
theorem pf_X4_19 (C : Cx X D T cc RX4 rm) (q0 : Nat) {a : Nat} {fs : List Value} {v : Int32} (he : ws[q0]? = some (a, .inr (2, fs))) (hl : 2 < fs.length) (hd : decode cc pc = .ok (.putfield 19, 3)) (hw : ws.set q0 (a, .inr (2, fs.set 2 (.int v))) = ws') (kk : GG X D Q n ws' lv (pc + 3) st o) : GG X D Q n ws lv pc (.int v :: .ref a :: st) o := gg_put C in_X4 tyX4 tyX4_ok nmX4 rfl 2 (by decide) tw_155 rfl q0 rfl rfl he hl hd hw kk
theorem gf_X8_183 (C : Cx X D T cc RX8 rm) (q0 : Nat) {a : Nat} {fs : List Value} {v : Value} (he : ws[q0]? = some (a, .inr (2, fs))) (hv : fs[2]? = some v) (hd : decode cc pc = .ok (.getfield 183, 3)) (kk : GG X D Q n ws lv (pc + 3) (v :: st) o) : GG X D Q n ws lv pc (.ref a :: st) o := gg_get C in_X4 rfl 2 (by decide) tw_156 q0 he hv hd kk
theorem pf_X8_183 (C : Cx X D T cc RX8 rm) (q0 : Nat) {a : Nat} {fs : List Value} {v : Int32} (he : ws[q0]? = some (a, .inr (2, fs))) (hl : 2 < fs.length) (hd : decode cc pc = .ok (.putfield 183, 3)) (hw : ws.set q0 (a, .inr (2, fs.set 2 (.int v))) = ws') (kk : GG X D Q n ws' lv (pc + 3) st o) : GG X D Q n ws lv pc (.int v :: .ref a :: st) o := gg_put C in_X4 tyX4 tyX4_ok nmX4 rfl 2 (by decide) tw_156 rfl q0 rfl rfl he hl hd hw kk
theorem gf_X8_10 (C : Cx X D T cc RX8 rm) (q0 : Nat) {a : Nat} {fs : List Value} {v : Value} (he : ws[q0]? = some (a, .inr (5, fs))) (hv : fs[0]? = some v) (hd : decode cc pc = .ok (.getfield 10, 3)) (kk : GG X D Q n ws lv (pc + 3) (v :: st) o) : GG X D Q n ws lv pc (.ref a :: st) o := gg_get C in_X8 rfl 0 (by decide) tw_166 q0 he hv hd kk
theorem pF_X8_10 (C : Cx X D T cc RX8 rm) (hini : (kxM X).name = "<init>") (q0 : Nat) {a v : Nat} {fs : List Value} (he : ws[q0]? = some (a, .inr (5, fs))) (hl : 0 < fs.length) (hd : decode cc pc = .ok (.putfield 10, 3)) (hw : ws.set q0 (a, .inr (5, fs.set 0 (.ref v))) = ws') (kk : GG X D Q n ws' lv (pc + 3) st o) : GG X D Q n ws lv pc (.ref v :: .ref a :: st) o := gg_putF C hini in_X8 tyX8 tyX8_ok nmX8 rfl 0 (by decide) tw_166 rfl rfl q0 rfl rfl he hl hd hw kk
theorem gf_X8_19 (C : Cx X D T cc RX8 rm) (q0 : Nat) {a : Nat} {fs : List Value} {v : Value} (he : ws[q0]? = some (a, .inr (5, fs))) (hv : fs[1]? = some v) (hd : decode cc pc = .ok (.getfield 19, 3)) (kk : GG X D Q n ws lv (pc + 3) (v :: st) o) : GG X D Q n ws lv pc (.ref a :: st) o := gg_get C in_X8 rfl 1 (by decide) tw_167 q0 he hv hd kk
theorem pF_X8_19 (C : Cx X D T cc RX8 rm) (hini : (kxM X).name = "<init>") (q0 : Nat) {a v : Nat} {fs : List Value} (he : ws[q0]? = some (a, .inr (5, fs))) (hl : 1 < fs.length) (hd : decode cc pc = .ok (.putfield 19, 3)) (hw : ws.set q0 (a, .inr (5, fs.set 1 (.ref v))) = ws') (kk : GG X D Q n ws' lv (pc + 3) st o) : GG X D Q n ws lv pc (.ref v :: .ref a :: st) o := gg_putF C hini in_X8 tyX8 tyX8_ok nmX8 rfl 1 (by decide) tw_167 rfl rfl q0 rfl rfl he hl hd hw kk
theorem gf_X8_26 (C : Cx X D T cc RX8 rm) (q0 : Nat) {a : Nat} {fs : List Value} {v : Value} (he : ws[q0]? = some (a, .inr (5, fs))) (hv : fs[2]? = some v) (hd : decode cc pc = .ok (.getfield 26, 3)) (kk : GG X D Q n ws lv (pc + 3) (v :: st) o) : GG X D Q n ws lv pc (.ref a :: st) o := gg_get C in_X8 rfl 2 (by decide) tw_168 q0 he hv hd kk
theorem pF_X8_26 (C : Cx X D T cc RX8 rm) (hini : (kxM X).name = "<init>") (q0 : Nat) {a v : Nat} {fs : List Value} (he : ws[q0]? = some (a, .inr (5, fs))) (hl : 2 < fs.length) (hd : decode cc pc = .ok (.putfield 26, 3)) (hw : ws.set q0 (a, .inr (5, fs.set 2 (.ref v))) = ws') (kk : GG X D Q n ws' lv (pc + 3) st o) : GG X D Q n ws lv pc (.ref v :: .ref a :: st) o := gg_putF C hini in_X8 tyX8 tyX8_ok nmX8 rfl 2 (by decide) tw_168 rfl rfl q0 rfl rfl he hl hd hw kk
theorem gf_X8_33 (C : Cx X D T cc RX8 rm) (q0 : Nat) {a : Nat} {fs : List Value} {v : Value} (he : ws[q0]? = some (a, .inr (5, fs))) (hv : fs[3]? = some v) (hd : decode cc pc = .ok (.getfield 33, 3)) (kk : GG X D Q n ws lv (pc + 3) (v :: st) o) : GG X D Q n ws lv pc (.ref a :: st) o := gg_get C in_X8 rfl 3 (by decide) tw_169 q0 he hv hd kk
theorem pF_X8_33 (C : Cx X D T cc RX8 rm) (hini : (kxM X).name = "<init>") (q0 : Nat) {a v : Nat} {fs : List Value} (he : ws[q0]? = some (a, .inr (5, fs))) (hl : 3 < fs.length) (hd : decode cc pc = .ok (.putfield 33, 3)) (hw : ws.set q0 (a, .inr (5, fs.set 3 (.ref v))) = ws') (kk : GG X D Q n ws' lv (pc + 3) st o) : GG X D Q n ws lv pc (.ref v :: .ref a :: st) o := gg_putF C hini in_X8 tyX8 tyX8_ok nmX8 rfl 3 (by decide) tw_169 rfl rfl q0 rfl rfl he hl hd hw kk
theorem gf_X8_40 (C : Cx X D T cc RX8 rm) (q0 : Nat) {a : Nat} {fs : List Value} {v : Value} (he : ws[q0]? = some (a, .inr (5, fs))) (hv : fs[4]? = some v) (hd : decode cc pc = .ok (.getfield 40, 3)) (kk : GG X D Q n ws lv (pc + 3) (v :: st) o) : GG X D Q n ws lv pc (.ref a :: st) o := gg_get C in_X8 rfl 4 (by decide) tw_170 q0 he hv hd kk
theorem pF_X8_40 (C : Cx X D T cc RX8 rm) (hini : (kxM X).name = "<init>") (q0 : Nat) {a v : Nat} {fs : List Value} (he : ws[q0]? = some (a, .inr (5, fs))) (hl : 4 < fs.length) (hd : decode cc pc = .ok (.putfield 40, 3)) (hw : ws.set q0 (a, .inr (5, fs.set 4 (.ref v))) = ws') (kk : GG X D Q n ws' lv (pc + 3) st o) : GG X D Q n ws lv pc (.ref v :: .ref a :: st) o := gg_putF C hini in_X8 tyX8 tyX8_ok nmX8 rfl 4 (by decide) tw_170 rfl rfl q0 rfl rfl he hl hd hw kk
theorem gf_X8_44 (C : Cx X D T cc RX8 rm) (q0 : Nat) {a : Nat} {fs : List Value} {v : Value} (he : ws[q0]? = some (a, .inr (5, fs))) (hv : fs[5]? = some v) (hd : decode cc pc = .ok (.getfield 44, 3)) (kk : GG X D Q n ws lv (pc + 3) (v :: st) o) : GG X D Q n ws lv pc (.ref a :: st) o := gg_get C in_X8 rfl 5 (by decide) tw_171 q0 he hv hd kk
theorem pF_X8_44 (C : Cx X D T cc RX8 rm) (hini : (kxM X).name = "<init>") (q0 : Nat) {a v : Nat} {fs : List Value} (he : ws[q0]? = some (a, .inr (5, fs))) (hl : 5 < fs.length) (hd : decode cc pc = .ok (.putfield 44, 3)) (hw : ws.set q0 (a, .inr (5, fs.set 5 (.ref v))) = ws') (kk : GG X D Q n ws' lv (pc + 3) st o) : GG X D Q n ws lv pc (.ref v :: .ref a :: st) o := gg_putF C hini in_X8 tyX8 tyX8_ok nmX8 rfl 5 (by decide) tw_171 rfl rfl q0 rfl rfl he hl hd hw kk
theorem gf_X8_48 (C : Cx X D T cc RX8 rm) (q0 : Nat) {a : Nat} {fs : List Value} {v : Value} (he : ws[q0]? = some (a, .inr (5, fs))) (hv : fs[6]? = some v) (hd : decode cc pc = .ok (.getfield 48, 3)) (kk : GG X D Q n ws lv (pc + 3) (v :: st) o) : GG X D Q n ws lv pc (.ref a :: st) o := gg_get C in_X8 rfl 6 (by decide) tw_172 q0 he hv hd kk
theorem pF_X8_48 (C : Cx X D T cc RX8 rm) (hini : (kxM X).name = "<init>") (q0 : Nat) {a v : Nat} {fs : List Value} (he : ws[q0]? = some (a, .inr (5, fs))) (hl : 6 < fs.length) (hd : decode cc pc = .ok (.putfield 48, 3)) (hw : ws.set q0 (a, .inr (5, fs.set 6 (.ref v))) = ws') (kk : GG X D Q n ws' lv (pc + 3) st o) : GG X D Q n ws lv pc (.ref v :: .ref a :: st) o := gg_putF C hini in_X8 tyX8 tyX8_ok nmX8 rfl 6 (by decide) tw_172 rfl rfl q0 rfl rfl he hl hd hw kk
theorem gf_X8_52 (C : Cx X D T cc RX8 rm) (q0 : Nat) {a : Nat} {fs : List Value} {v : Value} (he : ws[q0]? = some (a, .inr (5, fs))) (hv : fs[7]? = some v) (hd : decode cc pc = .ok (.getfield 52, 3)) (kk : GG X D Q n ws lv (pc + 3) (v :: st) o) : GG X D Q n ws lv pc (.ref a :: st) o := gg_get C in_X8 rfl 7 (by decide) tw_173 q0 he hv hd kk
theorem pF_X8_52 (C : Cx X D T cc RX8 rm) (hini : (kxM X).name = "<init>") (q0 : Nat) {a v : Nat} {fs : List Value} (he : ws[q0]? = some (a, .inr (5, fs))) (hl : 7 < fs.length) (hd : decode cc pc = .ok (.putfield 52, 3)) (hw : ws.set q0 (a, .inr (5, fs.set 7 (.ref v))) = ws') (kk : GG X D Q n ws' lv (pc + 3) st o) : GG X D Q n ws lv pc (.ref v :: .ref a :: st) o := gg_putF C hini in_X8 tyX8 tyX8_ok nmX8 rfl 7 (by decide) tw_173 rfl rfl q0 rfl rfl he hl hd hw kk
theorem gf_X9_7 (C : Cx X D T cc RX9 rm) (q0 : Nat) {a : Nat} {fs : List Value} {v : Value} (he : ws[q0]? = some (a, .inr (6, fs))) (hv : fs[0]? = some v) (hd : decode cc pc = .ok (.getfield 7, 3)) (kk : GG X D Q n ws lv (pc + 3) (v :: st) o) : GG X D Q n ws lv pc (.ref a :: st) o := gg_get C in_X9 rfl 0 (by decide) tw_534 q0 he hv hd kk
theorem pF_X9_7 (C : Cx X D T cc RX9 rm) (hini : (kxM X).name = "<init>") (q0 : Nat) {a v : Nat} {fs : List Value} (he : ws[q0]? = some (a, .inr (6, fs))) (hl : 0 < fs.length) (hd : decode cc pc = .ok (.putfield 7, 3)) (hw : ws.set q0 (a, .inr (6, fs.set 0 (.ref v))) = ws') (kk : GG X D Q n ws' lv (pc + 3) st o) : GG X D Q n ws lv pc (.ref v :: .ref a :: st) o := gg_putF C hini in_X9 tyX9 tyX9_ok nmX9 rfl 0 (by decide) tw_534 rfl rfl q0 rfl rfl he hl hd hw kk
theorem gf_X9_13 (C : Cx X D T cc RX9 rm) (q0 : Nat) {a : Nat} {fs : List Value} {v : Value} (he : ws[q0]? = some (a, .inr (6, fs))) (hv : fs[1]? = some v) (hd : decode cc pc = .ok (.getfield 13, 3)) (kk : GG X D Q n ws lv (pc + 3) (v :: st) o) : GG X D Q n ws lv pc (.ref a :: st) o := gg_get C in_X9 rfl 1 (by decide) tw_535 q0 he hv hd kk
theorem pF_X9_13 (C : Cx X D T cc RX9 rm) (hini : (kxM X).name = "<init>") (q0 : Nat) {a v : Nat} {fs : List Value} (he : ws[q0]? = some (a, .inr (6, fs))) (hl : 1 < fs.length) (hd : decode cc pc = .ok (.putfield 13, 3)) (hw : ws.set q0 (a, .inr (6, fs.set 1 (.ref v))) = ws') (kk : GG X D Q n ws' lv (pc + 3) st o) : GG X D Q n ws lv pc (.ref v :: .ref a :: st) o := gg_putF C hini in_X9 tyX9 tyX9_ok nmX9 rfl 1 (by decide) tw_535 rfl rfl q0 rfl rfl he hl hd hw kk
theorem gf_X9_16 (C : Cx X D T cc RX9 rm) (q0 : Nat) {a : Nat} {fs : List Value} {v : Value} (he : ws[q0]? = some (a, .inr (6, fs))) (hv : fs[2]? = some v) (hd : decode cc pc = .ok (.getfield 16, 3)) (kk : GG X D Q n ws lv (pc + 3) (v :: st) o) : GG X D Q n ws lv pc (.ref a :: st) o := gg_get C in_X9 rfl 2 (by decide) tw_536 q0 he hv hd kk
theorem pF_X9_16 (C : Cx X D T cc RX9 rm) (hini : (kxM X).name = "<init>") (q0 : Nat) {a v : Nat} {fs : List Value} (he : ws[q0]? = some (a, .inr (6, fs))) (hl : 2 < fs.length) (hd : decode cc pc = .ok (.putfield 16, 3)) (hw : ws.set q0 (a, .inr (6, fs.set 2 (.ref v))) = ws') (kk : GG X D Q n ws' lv (pc + 3) st o) : GG X D Q n ws lv pc (.ref v :: .ref a :: st) o := gg_putF C hini in_X9 tyX9 tyX9_ok nmX9 rfl 2 (by decide) tw_536 rfl rfl q0 rfl rfl he hl hd hw kk
theorem gf_X9_19 (C : Cx X D T cc RX9 rm) (q0 : Nat) {a : Nat} {fs : List Value} {v : Value} (he : ws[q0]? = some (a, .inr (6, fs))) (hv : fs[3]? = some v) (hd : decode cc pc = .ok (.getfield 19, 3)) (kk : GG X D Q n ws lv (pc + 3) (v :: st) o) : GG X D Q n ws lv pc (.ref a :: st) o := gg_get C in_X9 rfl 3 (by decide) tw_537 q0 he hv hd kk
theorem pF_X9_19 (C : Cx X D T cc RX9 rm) (hini : (kxM X).name = "<init>") (q0 : Nat) {a v : Nat} {fs : List Value} (he : ws[q0]? = some (a, .inr (6, fs))) (hl : 3 < fs.length) (hd : decode cc pc = .ok (.putfield 19, 3)) (hw : ws.set q0 (a, .inr (6, fs.set 3 (.ref v))) = ws') (kk : GG X D Q n ws' lv (pc + 3) st o) : GG X D Q n ws lv pc (.ref v :: .ref a :: st) o := gg_putF C hini in_X9 tyX9 tyX9_ok nmX9 rfl 3 (by decide) tw_537 rfl rfl q0 rfl rfl he hl hd hw kk
theorem gf_X9_22 (C : Cx X D T cc RX9 rm) (q0 : Nat) {a : Nat} {fs : List Value} {v : Value} (he : ws[q0]? = some (a, .inr (6, fs))) (hv : fs[4]? = some v) (hd : decode cc pc = .ok (.getfield 22, 3)) (kk : GG X D Q n ws lv (pc + 3) (v :: st) o) : GG X D Q n ws lv pc (.ref a :: st) o := gg_get C in_X9 rfl 4 (by decide) tw_538 q0 he hv hd kk
theorem pF_X9_22 (C : Cx X D T cc RX9 rm) (hini : (kxM X).name = "<init>") (q0 : Nat) {a v : Nat} {fs : List Value} (he : ws[q0]? = some (a, .inr (6, fs))) (hl : 4 < fs.length) (hd : decode cc pc = .ok (.putfield 22, 3)) (hw : ws.set q0 (a, .inr (6, fs.set 4 (.ref v))) = ws') (kk : GG X D Q n ws' lv (pc + 3) st o) : GG X D Q n ws lv pc (.ref v :: .ref a :: st) o := gg_putF C hini in_X9 tyX9 tyX9_ok nmX9 rfl 4 (by decide) tw_538 rfl rfl q0 rfl rfl he hl hd hw kk
theorem gf_X9_25 (C : Cx X D T cc RX9 rm) (q0 : Nat) {a : Nat} {fs : List Value} {v : Value} (he : ws[q0]? = some (a, .inr (6, fs))) (hv : fs[5]? = some v) (hd : decode cc pc = .ok (.getfield 25, 3)) (kk : GG X D Q n ws lv (pc + 3) (v :: st) o) : GG X D Q n ws lv pc (.ref a :: st) o := gg_get C in_X9 rfl 5 (by decide) tw_539 q0 he hv hd kk
theorem pF_X9_25 (C : Cx X D T cc RX9 rm) (hini : (kxM X).name = "<init>") (q0 : Nat) {a v : Nat} {fs : List Value} (he : ws[q0]? = some (a, .inr (6, fs))) (hl : 5 < fs.length) (hd : decode cc pc = .ok (.putfield 25, 3)) (hw : ws.set q0 (a, .inr (6, fs.set 5 (.ref v))) = ws') (kk : GG X D Q n ws' lv (pc + 3) st o) : GG X D Q n ws lv pc (.ref v :: .ref a :: st) o := gg_putF C hini in_X9 tyX9 tyX9_ok nmX9 rfl 5 (by decide) tw_539 rfl rfl q0 rfl rfl he hl hd hw kk
theorem gf_X9_28 (C : Cx X D T cc RX9 rm) (q0 : Nat) {a : Nat} {fs : List Value} {v : Value} (he : ws[q0]? = some (a, .inr (6, fs))) (hv : fs[6]? = some v) (hd : decode cc pc = .ok (.getfield 28, 3)) (kk : GG X D Q n ws lv (pc + 3) (v :: st) o) : GG X D Q n ws lv pc (.ref a :: st) o := gg_get C in_X9 rfl 6 (by decide) tw_540 q0 he hv hd kk
theorem pF_X9_28 (C : Cx X D T cc RX9 rm) (hini : (kxM X).name = "<init>") (q0 : Nat) {a v : Nat} {fs : List Value} (he : ws[q0]? = some (a, .inr (6, fs))) (hl : 6 < fs.length) (hd : decode cc pc = .ok (.putfield 28, 3)) (hw : ws.set q0 (a, .inr (6, fs.set 6 (.ref v))) = ws') (kk : GG X D Q n ws' lv (pc + 3) st o) : GG X D Q n ws lv pc (.ref v :: .ref a :: st) o := gg_putF C hini in_X9 tyX9 tyX9_ok nmX9 rfl 6 (by decide) tw_540 rfl rfl q0 rfl rfl he hl hd hw kk
theorem gf_X9_129 (C : Cx X D T cc RX9 rm) (q0 : Nat) {a : Nat} {fs : List Value} {v : Value} (he : ws[q0]? = some (a, .inr (6, fs))) (hv : fs[7]? = some v) (hd : decode cc pc = .ok (.getfield 129, 3)) (kk : GG X D Q n ws lv (pc + 3) (v :: st) o) : GG X D Q n ws lv pc (.ref a :: st) o := gg_get C in_X9 rfl 7 (by decide) tw_541 q0 he hv hd kk
theorem pf_X9_129 (C : Cx X D T cc RX9 rm) (q0 : Nat) {a : Nat} {fs : List Value} {v : Int32} (he : ws[q0]? = some (a, .inr (6, fs))) (hl : 7 < fs.length) (hd : decode cc pc = .ok (.putfield 129, 3)) (hw : ws.set q0 (a, .inr (6, fs.set 7 (.int v))) = ws') (kk : GG X D Q n ws' lv (pc + 3) st o) : GG X D Q n ws lv pc (.int v :: .ref a :: st) o := gg_put C in_X9 tyX9 tyX9_ok nmX9 rfl 7 (by decide) tw_541 rfl q0 rfl rfl he hl hd hw kk
theorem gf_X9_31 (C : Cx X D T cc RX9 rm) (q0 : Nat) {a : Nat} {fs : List Value} {v : Value} (he : ws[q0]? = some (a, .inr (6, fs))) (hv : fs[8]? = some v) (hd : decode cc pc = .ok (.getfield 31, 3)) (kk : GG X D Q n ws lv (pc + 3) (v :: st) o) : GG X D Q n ws lv pc (.ref a :: st) o := gg_get C in_X9 rfl 8 (by decide) tw_542 q0 he hv hd kk
theorem pF_X9_31 (C : Cx X D T cc RX9 rm) (hini : (kxM X).name = "<init>") (q0 : Nat) {a v : Nat} {fs : List Value} (he : ws[q0]? = some (a, .inr (6, fs))) (hl : 8 < fs.length) (hd : decode cc pc = .ok (.putfield 31, 3)) (hw : ws.set q0 (a, .inr (6, fs.set 8 (.ref v))) = ws') (kk : GG X D Q n ws' lv (pc + 3) st o) : GG X D Q n ws lv pc (.ref v :: .ref a :: st) o := gg_putF C hini in_X9 tyX9 tyX9_ok nmX9 rfl 8 (by decide) tw_542 rfl rfl q0 rfl rfl he hl hd hw kk
theorem gf_X9_34 (C : Cx X D T cc RX9 rm) (q0 : Nat) {a : Nat} {fs : List Value} {v : Value} (he : ws[q0]? = some (a, .inr (6, fs))) (hv : fs[9]? = some v) (hd : decode cc pc = .ok (.getfield 34, 3)) (kk : GG X D Q n ws lv (pc + 3) (v :: st) o) : GG X D Q n ws lv pc (.ref a :: st) o := gg_get C in_X9 rfl 9 (by decide) tw_543 q0 he hv hd kk
theorem pF_X9_34 (C : Cx X D T cc RX9 rm) (hini : (kxM X).name = "<init>") (q0 : Nat) {a v : Nat} {fs : List Value} (he : ws[q0]? = some (a, .inr (6, fs))) (hl : 9 < fs.length) (hd : decode cc pc = .ok (.putfield 34, 3)) (hw : ws.set q0 (a, .inr (6, fs.set 9 (.ref v))) = ws') (kk : GG X D Q n ws' lv (pc + 3) st o) : GG X D Q n ws lv pc (.ref v :: .ref a :: st) o := gg_putF C hini in_X9 tyX9 tyX9_ok nmX9 rfl 9 (by decide) tw_543 rfl rfl q0 rfl rfl he hl hd hw kk
theorem gf_X9_37 (C : Cx X D T cc RX9 rm) (q0 : Nat) {a : Nat} {fs : List Value} {v : Value} (he : ws[q0]? = some (a, .inr (6, fs))) (hv : fs[10]? = some v) (hd : decode cc pc = .ok (.getfield 37, 3)) (kk : GG X D Q n ws lv (pc + 3) (v :: st) o) : GG X D Q n ws lv pc (.ref a :: st) o := gg_get C in_X9 rfl 10 (by decide) tw_544 q0 he hv hd kk
theorem pF_X9_37 (C : Cx X D T cc RX9 rm) (hini : (kxM X).name = "<init>") (q0 : Nat) {a v : Nat} {fs : List Value} (he : ws[q0]? = some (a, .inr (6, fs))) (hl : 10 < fs.length) (hd : decode cc pc = .ok (.putfield 37, 3)) (hw : ws.set q0 (a, .inr (6, fs.set 10 (.ref v))) = ws') (kk : GG X D Q n ws' lv (pc + 3) st o) : GG X D Q n ws lv pc (.ref v :: .ref a :: st) o := gg_putF C hini in_X9 tyX9 tyX9_ok nmX9 rfl 10 (by decide) tw_544 rfl rfl q0 rfl rfl he hl hd hw kk
theorem gf_X9_250 (C : Cx X D T cc RX9 rm) (q0 : Nat) {a : Nat} {fs : List Value} {v : Value} (he : ws[q0]? = some (a, .inr (6, fs))) (hv : fs[11]? = some v) (hd : decode cc pc = .ok (.getfield 250, 3)) (kk : GG X D Q n ws lv (pc + 3) (v :: st) o) : GG X D Q n ws lv pc (.ref a :: st) o := gg_get C in_X9 rfl 11 (by decide) tw_545 q0 he hv hd kk
theorem pf_X9_250 (C : Cx X D T cc RX9 rm) (q0 : Nat) {a : Nat} {fs : List Value} {v : Int32} (he : ws[q0]? = some (a, .inr (6, fs))) (hl : 11 < fs.length) (hd : decode cc pc = .ok (.putfield 250, 3)) (hw : ws.set q0 (a, .inr (6, fs.set 11 (.int v))) = ws') (kk : GG X D Q n ws' lv (pc + 3) st o) : GG X D Q n ws lv pc (.int v :: .ref a :: st) o := gg_put C in_X9 tyX9 tyX9_ok nmX9 rfl 11 (by decide) tw_545 rfl q0 rfl rfl he hl hd hw kk
theorem gf_X9_40 (C : Cx X D T cc RX9 rm) (q0 : Nat) {a : Nat} {fs : List Value} {v : Value} (he : ws[q0]? = some (a, .inr (6, fs))) (hv : fs[12]? = some v) (hd : decode cc pc = .ok (.getfield 40, 3)) (kk : GG X D Q n ws lv (pc + 3) (v :: st) o) : GG X D Q n ws lv pc (.ref a :: st) o := gg_get C in_X9 rfl 12 (by decide) tw_546 q0 he hv hd kk
theorem pF_X9_40 (C : Cx X D T cc RX9 rm) (hini : (kxM X).name = "<init>") (q0 : Nat) {a v : Nat} {fs : List Value} (he : ws[q0]? = some (a, .inr (6, fs))) (hl : 12 < fs.length) (hd : decode cc pc = .ok (.putfield 40, 3)) (hw : ws.set q0 (a, .inr (6, fs.set 12 (.ref v))) = ws') (kk : GG X D Q n ws' lv (pc + 3) st o) : GG X D Q n ws lv pc (.ref v :: .ref a :: st) o := gg_putF C hini in_X9 tyX9 tyX9_ok nmX9 rfl 12 (by decide) tw_546 rfl rfl q0 rfl rfl he hl hd hw kk
theorem gf_X9_97 (C : Cx X D T cc RX9 rm) (q0 : Nat) {a : Nat} {fs : List Value} {v : Value} (he : ws[q0]? = some (a, .inr (6, fs))) (hv : fs[13]? = some v) (hd : decode cc pc = .ok (.getfield 97, 3)) (kk : GG X D Q n ws lv (pc + 3) (v :: st) o) : GG X D Q n ws lv pc (.ref a :: st) o := gg_get C in_X9 rfl 13 (by decide) tw_547 q0 he hv hd kk
theorem pf_X9_97 (C : Cx X D T cc RX9 rm) (q0 : Nat) {a : Nat} {fs : List Value} {v : Int32} (he : ws[q0]? = some (a, .inr (6, fs))) (hl : 13 < fs.length) (hd : decode cc pc = .ok (.putfield 97, 3)) (hw : ws.set q0 (a, .inr (6, fs.set 13 (.int v))) = ws') (kk : GG X D Q n ws' lv (pc + 3) st o) : GG X D Q n ws lv pc (.int v :: .ref a :: st) o := gg_put C in_X9 tyX9 tyX9_ok nmX9 rfl 13 (by decide) tw_547 rfl q0 rfl rfl he hl hd hw kk
theorem gf_X9_43 (C : Cx X D T cc RX9 rm) (q0 : Nat) {a : Nat} {fs : List Value} {v : Value} (he : ws[q0]? = some (a, .inr (6, fs))) (hv : fs[14]? = some v) (hd : decode cc pc = .ok (.getfield 43, 3)) (kk : GG X D Q n ws lv (pc + 3) (v :: st) o) : GG X D Q n ws lv pc (.ref a :: st) o := gg_get C in_X9 rfl 14 (by decide) tw_548 q0 he hv hd kk
theorem pF_X9_43 (C : Cx X D T cc RX9 rm) (hini : (kxM X).name = "<init>") (q0 : Nat) {a v : Nat} {fs : List Value} (he : ws[q0]? = some (a, .inr (6, fs))) (hl : 14 < fs.length) (hd : decode cc pc = .ok (.putfield 43, 3)) (hw : ws.set q0 (a, .inr (6, fs.set 14 (.ref v))) = ws') (kk : GG X D Q n ws' lv (pc + 3) st o) : GG X D Q n ws lv pc (.ref v :: .ref a :: st) o := gg_putF C hini in_X9 tyX9 tyX9_ok nmX9 rfl 14 (by decide) tw_548 rfl rfl q0 rfl rfl he hl hd hw kk
theorem gf_X9_46 (C : Cx X D T cc RX9 rm) (q0 : Nat) {a : Nat} {fs : List Value} {v : Value} (he : ws[q0]? = some (a, .inr (6, fs))) (hv : fs[15]? = some v) (hd : decode cc pc = .ok (.getfield 46, 3)) (kk : GG X D Q n ws lv (pc + 3) (v :: st) o) : GG X D Q n ws lv pc (.ref a :: st) o := gg_get C in_X9 rfl 15 (by decide) tw_549 q0 he hv hd kk
theorem pF_X9_46 (C : Cx X D T cc RX9 rm) (hini : (kxM X).name = "<init>") (q0 : Nat) {a v : Nat} {fs : List Value} (he : ws[q0]? = some (a, .inr (6, fs))) (hl : 15 < fs.length) (hd : decode cc pc = .ok (.putfield 46, 3)) (hw : ws.set q0 (a, .inr (6, fs.set 15 (.ref v))) = ws') (kk : GG X D Q n ws' lv (pc + 3) st o) : GG X D Q n ws lv pc (.ref v :: .ref a :: st) o := gg_putF C hini in_X9 tyX9 tyX9_ok nmX9 rfl 15 (by decide) tw_549 rfl rfl q0 rfl rfl he hl hd hw kk
theorem gf_X9_49 (C : Cx X D T cc RX9 rm) (q0 : Nat) {a : Nat} {fs : List Value} {v : Value} (he : ws[q0]? = some (a, .inr (6, fs))) (hv : fs[16]? = some v) (hd : decode cc pc = .ok (.getfield 49, 3)) (kk : GG X D Q n ws lv (pc + 3) (v :: st) o) : GG X D Q n ws lv pc (.ref a :: st) o := gg_get C in_X9 rfl 16 (by decide) tw_550 q0 he hv hd kk
theorem pF_X9_49 (C : Cx X D T cc RX9 rm) (hini : (kxM X).name = "<init>") (q0 : Nat) {a v : Nat} {fs : List Value} (he : ws[q0]? = some (a, .inr (6, fs))) (hl : 16 < fs.length) (hd : decode cc pc = .ok (.putfield 49, 3)) (hw : ws.set q0 (a, .inr (6, fs.set 16 (.ref v))) = ws') (kk : GG X D Q n ws' lv (pc + 3) st o) : GG X D Q n ws lv pc (.ref v :: .ref a :: st) o := gg_putF C hini in_X9 tyX9 tyX9_ok nmX9 rfl 16 (by decide) tw_550 rfl rfl q0 rfl rfl he hl hd hw kk
theorem gf_X9_101 (C : Cx X D T cc RX9 rm) (q0 : Nat) {a : Nat} {fs : List Value} {v : Value} (he : ws[q0]? = some (a, .inr (6, fs))) (hv : fs[17]? = some v) (hd : decode cc pc = .ok (.getfield 101, 3)) (kk : GG X D Q n ws lv (pc + 3) (v :: st) o) : GG X D Q n ws lv pc (.ref a :: st) o := gg_get C in_X9 rfl 17 (by decide) tw_551 q0 he hv hd kk
theorem pf_X9_101 (C : Cx X D T cc RX9 rm) (q0 : Nat) {a : Nat} {fs : List Value} {v : Int32} (he : ws[q0]? = some (a, .inr (6, fs))) (hl : 17 < fs.length) (hd : decode cc pc = .ok (.putfield 101, 3)) (hw : ws.set q0 (a, .inr (6, fs.set 17 (.int v))) = ws') (kk : GG X D Q n ws' lv (pc + 3) st o) : GG X D Q n ws lv pc (.int v :: .ref a :: st) o := gg_put C in_X9 tyX9 tyX9_ok nmX9 rfl 17 (by decide) tw_551 rfl q0 rfl rfl he hl hd hw kk
theorem gf_X9_135 (C : Cx X D T cc RX9 rm) (q0 : Nat) {a : Nat} {fs : List Value} {v : Value} (he : ws[q0]? = some (a, .inr (6, fs))) (hv : fs[18]? = some v) (hd : decode cc pc = .ok (.getfield 135, 3)) (kk : GG X D Q n ws lv (pc + 3) (v :: st) o) : GG X D Q n ws lv pc (.ref a :: st) o := gg_get C in_X9 rfl 18 (by decide) tw_552 q0 he hv hd kk
theorem pf_X9_135 (C : Cx X D T cc RX9 rm) (q0 : Nat) {a : Nat} {fs : List Value} {v : Int32} (he : ws[q0]? = some (a, .inr (6, fs))) (hl : 18 < fs.length) (hd : decode cc pc = .ok (.putfield 135, 3)) (hw : ws.set q0 (a, .inr (6, fs.set 18 (.int v))) = ws') (kk : GG X D Q n ws' lv (pc + 3) st o) : GG X D Q n ws lv pc (.int v :: .ref a :: st) o := gg_put C in_X9 tyX9 tyX9_ok nmX9 rfl 18 (by decide) tw_552 rfl q0 rfl rfl he hl hd hw kk
theorem gf_X9_141 (C : Cx X D T cc RX9 rm) (q0 : Nat) {a : Nat} {fs : List Value} {v : Value} (he : ws[q0]? = some (a, .inr (6, fs))) (hv : fs[19]? = some v) (hd : decode cc pc = .ok (.getfield 141, 3)) (kk : GG X D Q n ws lv (pc + 3) (v :: st) o) : GG X D Q n ws lv pc (.ref a :: st) o := gg_get C in_X9 rfl 19 (by decide) tw_553 q0 he hv hd kk
theorem pf_X9_141 (C : Cx X D T cc RX9 rm) (q0 : Nat) {a : Nat} {fs : List Value} {v : Int32} (he : ws[q0]? = some (a, .inr (6, fs))) (hl : 19 < fs.length) (hd : decode cc pc = .ok (.putfield 141, 3)) (hw : ws.set q0 (a, .inr (6, fs.set 19 (.int v))) = ws') (kk : GG X D Q n ws' lv (pc + 3) st o) : GG X D Q n ws lv pc (.int v :: .ref a :: st) o := gg_put C in_X9 tyX9 tyX9_ok nmX9 rfl 19 (by decide) tw_553 rfl q0 rfl rfl he hl hd hw kk
theorem gf_X9_52 (C : Cx X D T cc RX9 rm) (q0 : Nat) {a : Nat} {fs : List Value} {v : Value} (he : ws[q0]? = some (a, .inr (6, fs))) (hv : fs[20]? = some v) (hd : decode cc pc = .ok (.getfield 52, 3)) (kk : GG X D Q n ws lv (pc + 3) (v :: st) o) : GG X D Q n ws lv pc (.ref a :: st) o := gg_get C in_X9 rfl 20 (by decide) tw_554 q0 he hv hd kk
theorem pF_X9_52 (C : Cx X D T cc RX9 rm) (hini : (kxM X).name = "<init>") (q0 : Nat) {a v : Nat} {fs : List Value} (he : ws[q0]? = some (a, .inr (6, fs))) (hl : 20 < fs.length) (hd : decode cc pc = .ok (.putfield 52, 3)) (hw : ws.set q0 (a, .inr (6, fs.set 20 (.ref v))) = ws') (kk : GG X D Q n ws' lv (pc + 3) st o) : GG X D Q n ws lv pc (.ref v :: .ref a :: st) o := gg_putF C hini in_X9 tyX9 tyX9_ok nmX9 rfl 20 (by decide) tw_554 rfl rfl q0 rfl rfl he hl hd hw kk
theorem gf_X9_167 (C : Cx X D T cc RX9 rm) (q0 : Nat) {a : Nat} {fs : List Value} {v : Value} (he : ws[q0]? = some (a, .inr (6, fs))) (hv : fs[21]? = some v) (hd : decode cc pc = .ok (.getfield 167, 3)) (kk : GG X D Q n ws lv (pc + 3) (v :: st) o) : GG X D Q n ws lv pc (.ref a :: st) o := gg_get C in_X9 rfl 21 (by decide) tw_555 q0 he hv hd kk
theorem pf_X9_167 (C : Cx X D T cc RX9 rm) (q0 : Nat) {a : Nat} {fs : List Value} {v : Int32} (he : ws[q0]? = some (a, .inr (6, fs))) (hl : 21 < fs.length) (hd : decode cc pc = .ok (.putfield 167, 3)) (hw : ws.set q0 (a, .inr (6, fs.set 21 (.int v))) = ws') (kk : GG X D Q n ws' lv (pc + 3) st o) : GG X D Q n ws lv pc (.int v :: .ref a :: st) o := gg_put C in_X9 tyX9 tyX9_ok nmX9 rfl 21 (by decide) tw_555 rfl q0 rfl rfl he hl hd hw kk
theorem gf_X9_170 (C : Cx X D T cc RX9 rm) (q0 : Nat) {a : Nat} {fs : List Value} {v : Value} (he : ws[q0]? = some (a, .inr (6, fs))) (hv : fs[22]? = some v) (hd : decode cc pc = .ok (.getfield 170, 3)) (kk : GG X D Q n ws lv (pc + 3) (v :: st) o) : GG X D Q n ws lv pc (.ref a :: st) o := gg_get C in_X9 rfl 22 (by decide) tw_556 q0 he hv hd kk
theorem pf_X9_170 (C : Cx X D T cc RX9 rm) (q0 : Nat) {a : Nat} {fs : List Value} {v : Int32} (he : ws[q0]? = some (a, .inr (6, fs))) (hl : 22 < fs.length) (hd : decode cc pc = .ok (.putfield 170, 3)) (hw : ws.set q0 (a, .inr (6, fs.set 22 (.int v))) = ws') (kk : GG X D Q n ws' lv (pc + 3) st o) : GG X D Q n ws lv pc (.int v :: .ref a :: st) o := gg_put C in_X9 tyX9 tyX9_ok nmX9 rfl 22 (by decide) tw_556 rfl q0 rfl rfl he hl hd hw kk
theorem gf_X9_161 (C : Cx X D T cc RX9 rm) (q0 : Nat) {a : Nat} {fs : List Value} {v : Value} (he : ws[q0]? = some (a, .inr (6, fs))) (hv : fs[23]? = some v) (hd : decode cc pc = .ok (.getfield 161, 3)) (kk : GG X D Q n ws lv (pc + 3) (v :: st) o) : GG X D Q n ws lv pc (.ref a :: st) o := gg_get C in_X9 rfl 23 (by decide) tw_557 q0 he hv hd kk
theorem pf_X9_161 (C : Cx X D T cc RX9 rm) (q0 : Nat) {a : Nat} {fs : List Value} {v : Int32} (he : ws[q0]? = some (a, .inr (6, fs))) (hl : 23 < fs.length) (hd : decode cc pc = .ok (.putfield 161, 3)) (hw : ws.set q0 (a, .inr (6, fs.set 23 (.int v))) = ws') (kk : GG X D Q n ws' lv (pc + 3) st o) : GG X D Q n ws lv pc (.int v :: .ref a :: st) o := gg_put C in_X9 tyX9 tyX9_ok nmX9 rfl 23 (by decide) tw_557 rfl q0 rfl rfl he hl hd hw kk
theorem gf_X9_164 (C : Cx X D T cc RX9 rm) (q0 : Nat) {a : Nat} {fs : List Value} {v : Value} (he : ws[q0]? = some (a, .inr (6, fs))) (hv : fs[24]? = some v) (hd : decode cc pc = .ok (.getfield 164, 3)) (kk : GG X D Q n ws lv (pc + 3) (v :: st) o) : GG X D Q n ws lv pc (.ref a :: st) o := gg_get C in_X9 rfl 24 (by decide) tw_558 q0 he hv hd kk
theorem pf_X9_164 (C : Cx X D T cc RX9 rm) (q0 : Nat) {a : Nat} {fs : List Value} {v : Int32} (he : ws[q0]? = some (a, .inr (6, fs))) (hl : 24 < fs.length) (hd : decode cc pc = .ok (.putfield 164, 3)) (hw : ws.set q0 (a, .inr (6, fs.set 24 (.int v))) = ws') (kk : GG X D Q n ws' lv (pc + 3) st o) : GG X D Q n ws lv pc (.int v :: .ref a :: st) o := gg_put C in_X9 tyX9 tyX9_ok nmX9 rfl 24 (by decide) tw_558 rfl q0 rfl rfl he hl hd hw kk
theorem gf_X9_55 (C : Cx X D T cc RX9 rm) (q0 : Nat) {a : Nat} {fs : List Value} {v : Value} (he : ws[q0]? = some (a, .inr (6, fs))) (hv : fs[25]? = some v) (hd : decode cc pc = .ok (.getfield 55, 3)) (kk : GG X D Q n ws lv (pc + 3) (v :: st) o) : GG X D Q n ws lv pc (.ref a :: st) o := gg_get C in_X9 rfl 25 (by decide) tw_559 q0 he hv hd kk
theorem pF_X9_55 (C : Cx X D T cc RX9 rm) (hini : (kxM X).name = "<init>") (q0 : Nat) {a v : Nat} {fs : List Value} (he : ws[q0]? = some (a, .inr (6, fs))) (hl : 25 < fs.length) (hd : decode cc pc = .ok (.putfield 55, 3)) (hw : ws.set q0 (a, .inr (6, fs.set 25 (.ref v))) = ws') (kk : GG X D Q n ws' lv (pc + 3) st o) : GG X D Q n ws lv pc (.ref v :: .ref a :: st) o := gg_putF C hini in_X9 tyX9 tyX9_ok nmX9 rfl 25 (by decide) tw_559 rfl rfl q0 rfl rfl he hl hd hw kk
theorem gf_X9_58 (C : Cx X D T cc RX9 rm) (q0 : Nat) {a : Nat} {fs : List Value} {v : Value} (he : ws[q0]? = some (a, .inr (6, fs))) (hv : fs[26]? = some v) (hd : decode cc pc = .ok (.getfield 58, 3)) (kk : GG X D Q n ws lv (pc + 3) (v :: st) o) : GG X D Q n ws lv pc (.ref a :: st) o := gg_get C in_X9 rfl 26 (by decide) tw_560 q0 he hv hd kk
theorem pF_X9_58 (C : Cx X D T cc RX9 rm) (hini : (kxM X).name = "<init>") (q0 : Nat) {a v : Nat} {fs : List Value} (he : ws[q0]? = some (a, .inr (6, fs))) (hl : 26 < fs.length) (hd : decode cc pc = .ok (.putfield 58, 3)) (hw : ws.set q0 (a, .inr (6, fs.set 26 (.ref v))) = ws') (kk : GG X D Q n ws' lv (pc + 3) st o) : GG X D Q n ws lv pc (.ref v :: .ref a :: st) o := gg_putF C hini in_X9 tyX9 tyX9_ok nmX9 rfl 26 (by decide) tw_560 rfl rfl q0 rfl rfl he hl hd hw kk
theorem gf_X9_61 (C : Cx X D T cc RX9 rm) (q0 : Nat) {a : Nat} {fs : List Value} {v : Value} (he : ws[q0]? = some (a, .inr (6, fs))) (hv : fs[27]? = some v) (hd : decode cc pc = .ok (.getfield 61, 3)) (kk : GG X D Q n ws lv (pc + 3) (v :: st) o) : GG X D Q n ws lv pc (.ref a :: st) o := gg_get C in_X9 rfl 27 (by decide) tw_561 q0 he hv hd kk
theorem pF_X9_61 (C : Cx X D T cc RX9 rm) (hini : (kxM X).name = "<init>") (q0 : Nat) {a v : Nat} {fs : List Value} (he : ws[q0]? = some (a, .inr (6, fs))) (hl : 27 < fs.length) (hd : decode cc pc = .ok (.putfield 61, 3)) (hw : ws.set q0 (a, .inr (6, fs.set 27 (.ref v))) = ws') (kk : GG X D Q n ws' lv (pc + 3) st o) : GG X D Q n ws lv pc (.ref v :: .ref a :: st) o := gg_putF C hini in_X9 tyX9 tyX9_ok nmX9 rfl 27 (by decide) tw_561 rfl rfl q0 rfl rfl he hl hd hw kk
theorem gf_X9_64 (C : Cx X D T cc RX9 rm) (q0 : Nat) {a : Nat} {fs : List Value} {v : Value} (he : ws[q0]? = some (a, .inr (6, fs))) (hv : fs[28]? = some v) (hd : decode cc pc = .ok (.getfield 64, 3)) (kk : GG X D Q n ws lv (pc + 3) (v :: st) o) : GG X D Q n ws lv pc (.ref a :: st) o := gg_get C in_X9 rfl 28 (by decide) tw_562 q0 he hv hd kk
theorem pF_X9_64 (C : Cx X D T cc RX9 rm) (hini : (kxM X).name = "<init>") (q0 : Nat) {a v : Nat} {fs : List Value} (he : ws[q0]? = some (a, .inr (6, fs))) (hl : 28 < fs.length) (hd : decode cc pc = .ok (.putfield 64, 3)) (hw : ws.set q0 (a, .inr (6, fs.set 28 (.ref v))) = ws') (kk : GG X D Q n ws' lv (pc + 3) st o) : GG X D Q n ws lv pc (.ref v :: .ref a :: st) o := gg_putF C hini in_X9 tyX9 tyX9_ok nmX9 rfl 28 (by decide) tw_562 rfl rfl q0 rfl rfl he hl hd hw kk
theorem gf_X9_68 (C : Cx X D T cc RX9 rm) (q0 : Nat) {a : Nat} {fs : List Value} {v : Value} (he : ws[q0]? = some (a, .inr (6, fs))) (hv : fs[29]? = some v) (hd : decode cc pc = .ok (.getfield 68, 3)) (kk : GG X D Q n ws lv (pc + 3) (v :: st) o) : GG X D Q n ws lv pc (.ref a :: st) o := gg_get C in_X9 rfl 29 (by decide) tw_563 q0 he hv hd kk
theorem pF_X9_68 (C : Cx X D T cc RX9 rm) (hini : (kxM X).name = "<init>") (q0 : Nat) {a v : Nat} {fs : List Value} (he : ws[q0]? = some (a, .inr (6, fs))) (hl : 29 < fs.length) (hd : decode cc pc = .ok (.putfield 68, 3)) (hw : ws.set q0 (a, .inr (6, fs.set 29 (.ref v))) = ws') (kk : GG X D Q n ws' lv (pc + 3) st o) : GG X D Q n ws lv pc (.ref v :: .ref a :: st) o := gg_putF C hini in_X9 tyX9 tyX9_ok nmX9 rfl 29 (by decide) tw_563 rfl rfl q0 rfl rfl he hl hd hw kk
theorem gf_X9_71 (C : Cx X D T cc RX9 rm) (q0 : Nat) {a : Nat} {fs : List Value} {v : Value} (he : ws[q0]? = some (a, .inr (6, fs))) (hv : fs[30]? = some v) (hd : decode cc pc = .ok (.getfield 71, 3)) (kk : GG X D Q n ws lv (pc + 3) (v :: st) o) : GG X D Q n ws lv pc (.ref a :: st) o := gg_get C in_X9 rfl 30 (by decide) tw_564 q0 he hv hd kk
theorem pF_X9_71 (C : Cx X D T cc RX9 rm) (hini : (kxM X).name = "<init>") (q0 : Nat) {a v : Nat} {fs : List Value} (he : ws[q0]? = some (a, .inr (6, fs))) (hl : 30 < fs.length) (hd : decode cc pc = .ok (.putfield 71, 3)) (hw : ws.set q0 (a, .inr (6, fs.set 30 (.ref v))) = ws') (kk : GG X D Q n ws' lv (pc + 3) st o) : GG X D Q n ws lv pc (.ref v :: .ref a :: st) o := gg_putF C hini in_X9 tyX9 tyX9_ok nmX9 rfl 30 (by decide) tw_564 rfl rfl q0 rfl rfl he hl hd hw kk
theorem gf_X9_292 (C : Cx X D T cc RX9 rm) (q0 : Nat) {a : Nat} {fs : List Value} {v : Value} (he : ws[q0]? = some (a, .inr (6, fs))) (hv : fs[31]? = some v) (hd : decode cc pc = .ok (.getfield 292, 3)) (kk : GG X D Q n ws lv (pc + 3) (v :: st) o) : GG X D Q n ws lv pc (.ref a :: st) o := gg_get C in_X9 rfl 31 (by decide) tw_565 q0 he hv hd kk
theorem pf_X9_292 (C : Cx X D T cc RX9 rm) (q0 : Nat) {a : Nat} {fs : List Value} {v : Int32} (he : ws[q0]? = some (a, .inr (6, fs))) (hl : 31 < fs.length) (hd : decode cc pc = .ok (.putfield 292, 3)) (hw : ws.set q0 (a, .inr (6, fs.set 31 (.int v))) = ws') (kk : GG X D Q n ws' lv (pc + 3) st o) : GG X D Q n ws lv pc (.int v :: .ref a :: st) o := gg_put C in_X9 tyX9 tyX9_ok nmX9 rfl 31 (by decide) tw_565 rfl q0 rfl rfl he hl hd hw kk
theorem gf_X9_288 (C : Cx X D T cc RX9 rm) (q0 : Nat) {a : Nat} {fs : List Value} {v : Value} (he : ws[q0]? = some (a, .inr (6, fs))) (hv : fs[32]? = some v) (hd : decode cc pc = .ok (.getfield 288, 3)) (kk : GG X D Q n ws lv (pc + 3) (v :: st) o) : GG X D Q n ws lv pc (.ref a :: st) o := gg_get C in_X9 rfl 32 (by decide) tw_566 q0 he hv hd kk
theorem pf_X9_288 (C : Cx X D T cc RX9 rm) (q0 : Nat) {a : Nat} {fs : List Value} {v : Int32} (hn : narrow .boolean (.int v) = .int v) (hf : fits .boolean (.int v) = true) (he : ws[q0]? = some (a, .inr (6, fs))) (hl : 32 < fs.length) (hd : decode cc pc = .ok (.putfield 288, 3)) (hw : ws.set q0 (a, .inr (6, fs.set 32 (.int v))) = ws') (kk : GG X D Q n ws' lv (pc + 3) st o) : GG X D Q n ws lv pc (.int v :: .ref a :: st) o := gg_put C in_X9 tyX9 tyX9_ok nmX9 rfl 32 (by decide) tw_566 rfl q0 hn hf he hl hd hw kk
end GF
theorem lk_L_9 : LkI RL 9 yX8_init cX8_init 2 0 := ⟨⟨tw_15, tw_16, tw_1, tw_17⟩, rfl, by decide +kernel, by decide +kernel, by decide +kernel⟩
theorem lk_X8_9 : LkI RX8 9 yX0_init cX0_init 2 0 := ⟨⟨tw_23, tw_24, tw_2, tw_25⟩, rfl, by decide +kernel, by decide +kernel, by decide +kernel⟩
theorem lk_X8_18 : LkI RX8 18 yX6_init cX6_init 1 0 := ⟨⟨tw_63, tw_64, tw_3, tw_65⟩, rfl, by decide +kernel, by decide +kernel, by decide +kernel⟩
theorem lk_X8_25 : LkI RX8 25 yX2_init cX2_init 1 0 := ⟨⟨tw_95, tw_96, tw_4, tw_97⟩, rfl, by decide +kernel, by decide +kernel, by decide +kernel⟩
theorem lk_X8_32 : LkI RX8 32 yX7_init cX7_init 1 0 := ⟨⟨tw_111, tw_112, tw_5, tw_113⟩, rfl, by decide +kernel, by decide +kernel, by decide +kernel⟩
theorem lk_X7_11 : LkI RX7 11 yX0_init cX0_init 2 0 := ⟨⟨tw_116, tw_24, tw_2, tw_25⟩, rfl, by decide +kernel, by decide +kernel, by decide +kernel⟩
theorem lk_X8_39 : LkI RX8 39 yX4_init cX4_init 1 0 := ⟨⟨tw_148, tw_149, tw_6, tw_150⟩, rfl, by decide +kernel, by decide +kernel, by decide +kernel⟩
theorem lk_L_13 : LkV RL 13 RX8 yX8_cradle cX8_cradle 6 (some .int) 4 := ⟨⟨tw_191, tw_192, tw_193, tw_1, tw_194⟩, rfl, by decide +kernel, by decide +kernel, by decide +kernel⟩
theorem lk_X8_56 : LkS RX8 56 yX8_isPlace cX8_isPlace 1 (some .boolean) 1 := ⟨⟨tw_195, tw_196, tw_1, tw_197⟩, by decide +kernel, by decide +kernel, by decide +kernel⟩
theorem lk_X8_66 : LkS RX8 66 yX8_isWithin cX8_isWithin 3 (some .boolean) 3 := ⟨⟨tw_198, tw_199, tw_1, tw_200⟩, by decide +kernel, by decide +kernel, by decide +kernel⟩
theorem lk_X8_60 : LkS RX8 60 yX8_isHeir cX8_isHeir 1 (some .boolean) 1 := ⟨⟨tw_201, tw_202, tw_1, tw_203⟩, by decide +kernel, by decide +kernel, by decide +kernel⟩
theorem lk_X8_63 : LkS RX8 63 yX8_isBeat cX8_isBeat 1 (some .boolean) 1 := ⟨⟨tw_204, tw_205, tw_1, tw_206⟩, by decide +kernel, by decide +kernel, by decide +kernel⟩
theorem lk_L_18 : LkV RL 18 RX8 yX8_heir cX8_heir 5 (some .int) 3 := ⟨⟨tw_207, tw_208, tw_209, tw_1, tw_210⟩, rfl, by decide +kernel, by decide +kernel, by decide +kernel⟩
theorem lk_L_23 : LkV RL 23 RX8 yX8_say cX8_say 2 (some .int) 1 := ⟨⟨tw_211, tw_212, tw_213, tw_1, tw_214⟩, rfl, by decide +kernel, by decide +kernel, by decide +kernel⟩
theorem lk_X8_92 : LkV RX8 92 RX2 yX2_add cX2_add 2 (some .int) 1 := ⟨⟨tw_215, tw_216, tw_217, tw_4, tw_218⟩, rfl, by decide +kernel, by decide +kernel, by decide +kernel⟩
theorem lk_L_28 : LkV RL 28 RX8 yX8_wipe cX8_wipe 1 (some .int) 0 := ⟨⟨tw_219, tw_220, tw_221, tw_1, tw_222⟩, rfl, by decide +kernel, by decide +kernel, by decide +kernel⟩
theorem lk_X8_96 : LkV RX8 96 RX2 yX2_clear cX2_clear 2 (some .int) 0 := ⟨⟨tw_223, tw_224, tw_225, tw_4, tw_226⟩, rfl, by decide +kernel, by decide +kernel, by decide +kernel⟩
theorem lk_L_33 : LkV RL 33 RX8 yX8_fault cX8_fault 1 (some .int) 0 := ⟨⟨tw_227, tw_228, tw_229, tw_1, tw_230⟩, rfl, by decide +kernel, by decide +kernel, by decide +kernel⟩
theorem lk_X8_100 : LkV RX8 100 RX2 yX2_flaw cX2_flaw 3 (some .int) 0 := ⟨⟨tw_231, tw_232, tw_233, tw_4, tw_234⟩, rfl, by decide +kernel, by decide +kernel, by decide +kernel⟩
theorem lk_X2_19 : LkS RX2 19 yX2_awaitedBehind cX2_awaitedBehind 2 (some .int) 2 := ⟨⟨tw_235, tw_236, tw_4, tw_237⟩, by decide +kernel, by decide +kernel, by decide +kernel⟩
theorem lk_X2_23 : LkS RX2 23 yX2_isLetter cX2_isLetter 1 (some .boolean) 1 := ⟨⟨tw_238, tw_239, tw_4, tw_240⟩, by decide +kernel, by decide +kernel, by decide +kernel⟩
theorem lk_X2_27 : LkS RX2 27 yX2_isDigit cX2_isDigit 1 (some .boolean) 1 := ⟨⟨tw_242, tw_243, tw_4, tw_244⟩, by decide +kernel, by decide +kernel, by decide +kernel⟩
theorem lk_X2_30 : LkS RX2 30 yX2_isWay cX2_isWay 1 (some .boolean) 1 := ⟨⟨tw_245, tw_246, tw_4, tw_247⟩, by decide +kernel, by decide +kernel, by decide +kernel⟩
theorem lk_X2_33 : LkS RX2 33 yX2_isPlainDeed cX2_isPlainDeed 1 (some .boolean) 1 := ⟨⟨tw_248, tw_249, tw_4, tw_250⟩, by decide +kernel, by decide +kernel, by decide +kernel⟩
theorem lk_L_37 : LkV RL 37 RX8 yX8_judge cX8_judge 3 (some .int) 1 := ⟨⟨tw_251, tw_252, tw_253, tw_1, tw_254⟩, rfl, by decide +kernel, by decide +kernel, by decide +kernel⟩
theorem lk_X8_103 : LkV RX8 103 RX8 yX8_followText cX8_followText 1 (some .int) 0 := ⟨⟨tw_255, tw_257, ts_0, tw_1, tw_258⟩, rfl, by decide +kernel, by decide +kernel, by decide +kernel⟩
theorem lk_X8_235 : LkV RX8 235 RX7 yX7_follow cX7_follow 7 none 2 := ⟨⟨tw_259, tw_260, tw_261, tw_5, tw_262⟩, rfl, by decide +kernel, by decide +kernel, by decide +kernel⟩
theorem lk_X7_18 : LkV RX7 18 RX7 yX7_begin cX7_begin 2 none 1 := ⟨⟨tw_263, tw_265, ts_1, tw_5, tw_266⟩, rfl, by decide +kernel, by decide +kernel, by decide +kernel⟩
theorem lk_X7_61 : LkV RX7 61 RX0 yX0_copyFrom cX0_copyFrom 2 none 1 := ⟨⟨tw_267, tw_268, tw_269, tw_2, tw_270⟩, rfl, by decide +kernel, by decide +kernel, by decide +kernel⟩
theorem lk_X7_35 : LkV RX7 35 RX7 yX7_attempt cX7_attempt 5 none 3 := ⟨⟨tw_274, tw_276, ts_2, tw_5, tw_277⟩, rfl, by decide +kernel, by decide +kernel, by decide +kernel⟩
theorem lk_X7_54 : LkV RX7 54 RX0 yX0_bar cX0_bar 5 (some .int) 3 := ⟨⟨tw_278, tw_279, tw_280, tw_2, tw_281⟩, rfl, by decide +kernel, by decide +kernel, by decide +kernel⟩
theorem lk_X0_47 : LkV RX0 47 RX0 yX0_isChosen cX0_isChosen 3 (some .boolean) 1 := ⟨⟨tw_283, tw_285, ts_3, tw_2, tw_286⟩, rfl, by decide +kernel, by decide +kernel, by decide +kernel⟩
theorem lk_X7_79 : LkV RX7 79 RX0 yX0_hearsOwnBeat cX0_hearsOwnBeat 2 (some .boolean) 1 := ⟨⟨tw_287, tw_288, tw_289, tw_2, tw_290⟩, rfl, by decide +kernel, by decide +kernel, by decide +kernel⟩
theorem lk_X7_82 : LkV RX7 82 RX0 yX0_standsAtOwn cX0_standsAtOwn 2 (some .boolean) 1 := ⟨⟨tw_291, tw_292, tw_293, tw_2, tw_294⟩, rfl, by decide +kernel, by decide +kernel, by decide +kernel⟩
theorem lk_X7_58 : LkV RX7 58 RX0 yX0_act cX0_act 5 none 3 := ⟨⟨tw_295, tw_296, tw_297, tw_2, tw_298⟩, rfl, by decide +kernel, by decide +kernel, by decide +kernel⟩
theorem lk_X0_50 : LkV RX0 50 RX0 yX0_listen cX0_listen 2 none 1 := ⟨⟨tw_299, tw_301, ts_4, tw_2, tw_302⟩, rfl, by decide +kernel, by decide +kernel, by decide +kernel⟩
theorem lk_X0_60 : LkV RX0 60 RX0 yX0_hearsOwnBeat cX0_hearsOwnBeat 2 (some .boolean) 1 := ⟨⟨tw_303, tw_288, tw_289, tw_2, tw_290⟩, rfl, by decide +kernel, by decide +kernel, by decide +kernel⟩
theorem lk_X0_54 : LkV RX0 54 RX0 yX0_changeWithNext cX0_changeWithNext 2 none 1 := ⟨⟨tw_304, tw_306, ts_5, tw_2, tw_307⟩, rfl, by decide +kernel, by decide +kernel, by decide +kernel⟩
theorem lk_X0_63 : LkS RX0 63 yX0_swapWithNext cX0_swapWithNext 3 none 2 := ⟨⟨tw_308, tw_309, tw_2, tw_310⟩, by decide +kernel, by decide +kernel, by decide +kernel⟩
theorem lk_X0_57 : LkV RX0 57 RX0 yX0_letMinutePass cX0_letMinutePass 3 none 0 := ⟨⟨tw_311, tw_313, ts_6, tw_2, tw_314⟩, rfl, by decide +kernel, by decide +kernel, by decide +kernel⟩
theorem lk_X7_39 : LkS RX7 39 yX2_isLetter cX2_isLetter 1 (some .boolean) 1 := ⟨⟨tw_315, tw_239, tw_4, tw_240⟩, by decide +kernel, by decide +kernel, by decide +kernel⟩
theorem lk_X7_43 : LkS RX7 43 yX2_isWay cX2_isWay 1 (some .boolean) 1 := ⟨⟨tw_316, tw_246, tw_4, tw_247⟩, by decide +kernel, by decide +kernel, by decide +kernel⟩
theorem lk_X7_46 : LkS RX7 46 yX2_isDigit cX2_isDigit 1 (some .boolean) 1 := ⟨⟨tw_317, tw_243, tw_4, tw_244⟩, by decide +kernel, by decide +kernel, by decide +kernel⟩
theorem lk_L_41 : LkV RL 41 RX8 yX8_behind cX8_behind 4 (some .int) 2 := ⟨⟨tw_318, tw_319, tw_320, tw_1, tw_321⟩, rfl, by decide +kernel, by decide +kernel, by decide +kernel⟩
theorem lk_L_46 : LkV RL 46 RX8 yX8_stands cX8_stands 4 (some .int) 2 := ⟨⟨tw_322, tw_323, tw_324, tw_1, tw_325⟩, rfl, by decide +kernel, by decide +kernel, by decide +kernel⟩
theorem lk_L_50 : LkV RL 50 RX8 yX8_house cX8_house 3 (some .int) 1 := ⟨⟨tw_326, tw_327, tw_328, tw_1, tw_329⟩, rfl, by decide +kernel, by decide +kernel, by decide +kernel⟩
theorem lk_X8_119 : LkV RX8 119 RX0 yX0_chosenBits cX0_chosenBits 3 (some .int) 0 := ⟨⟨tw_330, tw_331, tw_332, tw_2, tw_333⟩, rfl, by decide +kernel, by decide +kernel, by decide +kernel⟩
theorem lk_X8_122 : LkV RX8 122 RX0 yX0_rightBits cX0_rightBits 3 (some .int) 0 := ⟨⟨tw_334, tw_335, tw_336, tw_2, tw_337⟩, rfl, by decide +kernel, by decide +kernel, by decide +kernel⟩
theorem lk_X8_125 : LkV RX8 125 RX0 yX0_nickCount cX0_nickCount 3 (some .int) 0 := ⟨⟨tw_338, tw_339, tw_340, tw_2, tw_341⟩, rfl, by decide +kernel, by decide +kernel, by decide +kernel⟩
theorem lk_L_54 : LkV RL 54 RX8 yX8_wrong cX8_wrong 3 (some .int) 1 := ⟨⟨tw_342, tw_343, tw_344, tw_1, tw_345⟩, rfl, by decide +kernel, by decide +kernel, by decide +kernel⟩
theorem lk_L_58 : LkV RL 58 RX8 yX8_done cX8_done 2 (some .int) 0 := ⟨⟨tw_346, tw_347, tw_348, tw_1, tw_349⟩, rfl, by decide +kernel, by decide +kernel, by decide +kernel⟩
theorem lk_X8_137 : LkV RX8 137 RX0 yX0_copyFrom cX0_copyFrom 2 none 1 := ⟨⟨tw_350, tw_268, tw_269, tw_2, tw_270⟩, rfl, by decide +kernel, by decide +kernel, by decide +kernel⟩
theorem lk_L_62 : LkV RL 62 RX8 yX8_seek cX8_seek 5 (some .long) 4 := ⟨⟨tw_351, tw_352, tw_353, tw_1, tw_354⟩, rfl, by decide +kernel, by decide +kernel, by decide +kernel⟩
theorem lk_X8_144 : LkS RX8 144 yX5_isAsTold cX5_isAsTold 3 (some .boolean) 3 := ⟨⟨tw_355, tw_356, tw_9, tw_357⟩, by decide +kernel, by decide +kernel, by decide +kernel⟩
theorem lk_X5_15 : LkS RX5 15 yX5_isRow cX5_isRow 3 (some .boolean) 2 := ⟨⟨tw_359, tw_360, tw_9, tw_361⟩, by decide +kernel, by decide +kernel, by decide +kernel⟩
theorem lk_X5_23 : LkS RX5 23 yX5_digit cX5_digit 3 (some .int) 3 := ⟨⟨tw_364, tw_365, tw_9, tw_366⟩, by decide +kernel, by decide +kernel, by decide +kernel⟩
theorem lk_X8_151 : LkS RX8 151 yX5_leastSum cX5_leastSum 9 (some .long) 3 := ⟨⟨tw_368, tw_369, tw_9, tw_370⟩, by decide +kernel, by decide +kernel, by decide +kernel⟩
theorem lk_X8_155 : LkS RX8 155 yX5_digitSum cX5_digitSum 5 (some .long) 2 := ⟨⟨tw_374, tw_375, tw_9, tw_376⟩, by decide +kernel, by decide +kernel, by decide +kernel⟩
theorem lk_X8_159 : LkS RX8 159 yX8_lowestTerm cX8_lowestTerm 9 (some .long) 3 := ⟨⟨tw_377, tw_378, tw_1, tw_379⟩, by decide +kernel, by decide +kernel, by decide +kernel⟩
theorem lk_X8_239 : LkS RX8 239 yX8_commonDivisor cX8_commonDivisor 11 (some .long) 2 := ⟨⟨tw_380, tw_381, tw_1, tw_382⟩, by decide +kernel, by decide +kernel, by decide +kernel⟩
theorem lk_L_67 : LkV RL 67 RX8 yX8_looks cX8_looks 4 (some .int) 3 := ⟨⟨tw_383, tw_384, tw_385, tw_1, tw_386⟩, rfl, by decide +kernel, by decide +kernel, by decide +kernel⟩
theorem lk_X8_163 : LkS RX8 163 yX5_first cX5_first 7 (some .int) 3 := ⟨⟨tw_387, tw_388, tw_9, tw_389⟩, by decide +kernel, by decide +kernel, by decide +kernel⟩
theorem lk_L_71 : LkV RL 71 RX8 yX8_mix cX8_mix 5 (some .int) 4 := ⟨⟨tw_390, tw_391, tw_392, tw_1, tw_393⟩, rfl, by decide +kernel, by decide +kernel, by decide +kernel⟩
theorem lk_X8_168 : LkS RX8 168 yX1_placeBehind cX1_placeBehind 7 (some .int) 3 := ⟨⟨tw_395, tw_396, tw_11, tw_397⟩, by decide +kernel, by decide +kernel, by decide +kernel⟩
theorem lk_X8_173 : LkS RX8 173 yX1_round cX1_round 5 (some .int) 1 := ⟨⟨tw_398, tw_399, tw_11, tw_400⟩, by decide +kernel, by decide +kernel, by decide +kernel⟩
theorem lk_L_75 : LkV RL 75 RX8 yX8_rises cX8_rises 3 (some .int) 2 := ⟨⟨tw_401, tw_402, tw_403, tw_1, tw_404⟩, rfl, by decide +kernel, by decide +kernel, by decide +kernel⟩
theorem lk_X8_176 : LkV RX8 176 RX4 yX4_measure cX4_measure 6 none 2 := ⟨⟨tw_405, tw_406, tw_407, tw_6, tw_408⟩, rfl, by decide +kernel, by decide +kernel, by decide +kernel⟩
theorem lk_X4_26 : LkV RX4 26 RX4 yX4_longestFrom cX4_longestFrom 4 (some .int) 1 := ⟨⟨tw_410, tw_412, ts_7, tw_6, tw_413⟩, rfl, by decide +kernel, by decide +kernel, by decide +kernel⟩
theorem lk_L_79 : LkV RL 79 RX8 yX8_like cX8_like 4 (some .int) 3 := ⟨⟨tw_417, tw_418, tw_419, tw_1, tw_420⟩, rfl, by decide +kernel, by decide +kernel, by decide +kernel⟩
theorem lk_X8_185 : LkV RX8 185 RX6 yX6_add cX6_add 4 (some .int) 3 := ⟨⟨tw_421, tw_422, tw_423, tw_3, tw_424⟩, rfl, by decide +kernel, by decide +kernel, by decide +kernel⟩
theorem lk_L_84 : LkV RL 84 RX8 yX8_forget cX8_forget 1 (some .int) 0 := ⟨⟨tw_425, tw_426, tw_427, tw_1, tw_428⟩, rfl, by decide +kernel, by decide +kernel, by decide +kernel⟩
theorem lk_X8_188 : LkV RX8 188 RX6 yX6_clear cX6_clear 2 (some .int) 0 := ⟨⟨tw_429, tw_430, tw_431, tw_3, tw_432⟩, rfl, by decide +kernel, by decide +kernel, by decide +kernel⟩
theorem lk_L_88 : LkV RL 88 RX8 yX8_own cX8_own 4 (some .int) 1 := ⟨⟨tw_433, tw_434, tw_435, tw_1, tw_436⟩, rfl, by decide +kernel, by decide +kernel, by decide +kernel⟩
theorem lk_X8_189 : LkV RX8 189 RX6 yX6_fit cX6_fit 3 (some .boolean) 1 := ⟨⟨tw_437, tw_438, tw_439, tw_3, tw_440⟩, rfl, by decide +kernel, by decide +kernel, by decide +kernel⟩
theorem lk_X6_29 : LkS RX6 29 yX6_isNear cX6_isNear 3 (some .boolean) 3 := ⟨⟨tw_441, tw_442, tw_3, tw_443⟩, by decide +kernel, by decide +kernel, by decide +kernel⟩
theorem lk_L_92 : LkV RL 92 RX8 yX8_ask cX8_ask 2 (some .int) 1 := ⟨⟨tw_447, tw_448, tw_449, tw_1, tw_450⟩, rfl, by decide +kernel, by decide +kernel, by decide +kernel⟩
theorem lk_X8_192 : LkV RX8 192 RX6 yX6_findQuestion cX6_findQuestion 7 none 1 := ⟨⟨tw_451, tw_452, tw_453, tw_3, tw_454⟩, rfl, by decide +kernel, by decide +kernel, by decide +kernel⟩
theorem lk_X6_39 : LkV RX6 39 RX6 yX6_countFitting cX6_countFitting 5 (some .int) 1 := ⟨⟨tw_455, tw_457, ts_8, tw_3, tw_458⟩, rfl, by decide +kernel, by decide +kernel, by decide +kernel⟩
theorem lk_X6_56 : LkV RX6 56 RX6 yX6_fit cX6_fit 3 (some .boolean) 1 := ⟨⟨tw_460, tw_438, tw_439, tw_3, tw_440⟩, rfl, by decide +kernel, by decide +kernel, by decide +kernel⟩
theorem lk_X6_43 : LkV RX6 43 RX6 yX6_countNear cX6_countNear 5 (some .int) 2 := ⟨⟨tw_461, tw_463, ts_9, tw_3, tw_464⟩, rfl, by decide +kernel, by decide +kernel, by decide +kernel⟩
theorem lk_L_96 : LkV RL 96 RX8 yX8_take cX8_take 4 (some .int) 2 := ⟨⟨tw_466, tw_467, tw_468, tw_1, tw_469⟩, rfl, by decide +kernel, by decide +kernel, by decide +kernel⟩
theorem lk_X8_202 : LkS RX8 202 yX8_firstTaking cX8_firstTaking 3 (some .int) 1 := ⟨⟨tw_470, tw_471, tw_1, tw_472⟩, by decide +kernel, by decide +kernel, by decide +kernel⟩
theorem lk_L_100 : LkV RL 100 RX8 yX8_pass cX8_pass 4 (some .long) 3 := ⟨⟨tw_473, tw_474, tw_475, tw_1, tw_476⟩, rfl, by decide +kernel, by decide +kernel, by decide +kernel⟩
theorem lk_X8_207 : LkS RX8 207 yX3_weight cX3_weight 5 (some .long) 2 := ⟨⟨tw_477, tw_478, tw_12, tw_479⟩, by decide +kernel, by decide +kernel, by decide +kernel⟩
theorem lk_X8_210 : LkS RX8 210 yX3_whole cX3_whole 1 (some .long) 1 := ⟨⟨tw_481, tw_482, tw_12, tw_483⟩, by decide +kernel, by decide +kernel, by decide +kernel⟩
theorem lk_L_105 : LkV RL 105 RX8 yX8_passes cX8_passes 2 (some .int) 1 := ⟨⟨tw_484, tw_485, tw_486, tw_1, tw_487⟩, rfl, by decide +kernel, by decide +kernel, by decide +kernel⟩
theorem lk_X8_214 : LkS RX8 214 yX3_best cX3_best 3 (some .int) 1 := ⟨⟨tw_488, tw_489, tw_12, tw_490⟩, by decide +kernel, by decide +kernel, by decide +kernel⟩
theorem lk_X3_11 : LkS RX3 11 yX3_weight cX3_weight 5 (some .long) 2 := ⟨⟨tw_491, tw_478, tw_12, tw_479⟩, by decide +kernel, by decide +kernel, by decide +kernel⟩
theorem lk_L_109 : LkV RL 109 RX8 yX8_hour cX8_hour 4 (some .int) 3 := ⟨⟨tw_492, tw_493, tw_494, tw_1, tw_495⟩, rfl, by decide +kernel, by decide +kernel, by decide +kernel⟩
theorem lk_X8_217 : LkV RX8 217 RX7 yX7_draw cX7_draw 8 none 3 := ⟨⟨tw_496, tw_497, tw_498, tw_5, tw_499⟩, rfl, by decide +kernel, by decide +kernel, by decide +kernel⟩
theorem lk_X7_50 : LkS RX7 50 yX7_drawnKind cX7_drawnKind 2 (some .int) 2 := ⟨⟨tw_501, tw_502, tw_5, tw_503⟩, by decide +kernel, by decide +kernel, by decide +kernel⟩
theorem lk_L_113 : LkV RL 113 RX8 yX8_image cX8_image 2 (some .int) 1 := ⟨⟨tw_504, tw_505, tw_506, tw_1, tw_507⟩, rfl, by decide +kernel, by decide +kernel, by decide +kernel⟩
theorem lk_X8_221 : LkV RX8 221 RX6 yX6_copyFrom cX6_copyFrom 3 none 1 := ⟨⟨tw_508, tw_509, tw_510, tw_3, tw_511⟩, rfl, by decide +kernel, by decide +kernel, by decide +kernel⟩
theorem lk_L_117 : LkV RL 117 RX8 yX8_restore cX8_restore 2 (some .int) 1 := ⟨⟨tw_512, tw_513, tw_514, tw_1, tw_515⟩, rfl, by decide +kernel, by decide +kernel, by decide +kernel⟩
theorem lk_L_121 : LkV RL 121 RX8 yX8_told cX8_told 2 (some .int) 1 := ⟨⟨tw_516, tw_517, tw_518, tw_1, tw_519⟩, rfl, by decide +kernel, by decide +kernel, by decide +kernel⟩
theorem lk_X8_224 : LkV RX8 224 RX8 yX8_toldOfPlace cX8_toldOfPlace 3 (some .int) 2 := ⟨⟨tw_520, tw_522, ts_10, tw_1, tw_523⟩, rfl, by decide +kernel, by decide +kernel, by decide +kernel⟩
theorem lk_X8_228 : LkV RX8 228 RX8 yX8_toldOfHeir cX8_toldOfHeir 3 (some .int) 2 := ⟨⟨tw_524, tw_526, ts_11, tw_1, tw_527⟩, rfl, by decide +kernel, by decide +kernel, by decide +kernel⟩
theorem lk_L_12 : LkI RL 12 yX9_init cX9_init 2 0 := ⟨⟨tw_530, tw_531, tw_7, tw_532⟩, rfl, by decide +kernel, by decide +kernel, by decide +kernel⟩
theorem lk_L_17 : LkV RL 17 RX9 yX9_cradle cX9_cradle 6 (some .int) 4 := ⟨⟨tw_634, tw_635, tw_636, tw_7, tw_637⟩, rfl, by decide +kernel, by decide +kernel, by decide +kernel⟩
theorem lk_X9_82 : LkS RX9 82 yX9_isPlace cX9_isPlace 1 (some .boolean) 1 := ⟨⟨tw_638, tw_639, tw_7, tw_640⟩, by decide +kernel, by decide +kernel, by decide +kernel⟩
theorem lk_X9_76 : LkS RX9 76 yX9_in cX9_in 6 (some .boolean) 3 := ⟨⟨tw_642, tw_643, tw_7, tw_644⟩, by decide +kernel, by decide +kernel, by decide +kernel⟩
theorem lk_L_22 : LkV RL 22 RX9 yX9_heir cX9_heir 5 (some .int) 3 := ⟨⟨tw_648, tw_649, tw_650, tw_7, tw_651⟩, rfl, by decide +kernel, by decide +kernel, by decide +kernel⟩
theorem lk_X9_90 : LkS RX9 90 yX9_isHeir cX9_isHeir 1 (some .boolean) 1 := ⟨⟨tw_652, tw_653, tw_7, tw_654⟩, by decide +kernel, by decide +kernel, by decide +kernel⟩
theorem lk_L_27 : LkV RL 27 RX9 yX9_say cX9_say 2 (some .int) 1 := ⟨⟨tw_655, tw_656, tw_657, tw_7, tw_658⟩, rfl, by decide +kernel, by decide +kernel, by decide +kernel⟩
theorem lk_L_32 : LkV RL 32 RX9 yX9_wipe cX9_wipe 2 (some .int) 0 := ⟨⟨tw_661, tw_662, tw_663, tw_7, tw_664⟩, rfl, by decide +kernel, by decide +kernel, by decide +kernel⟩
theorem lk_L_36 : LkV RL 36 RX9 yX9_fault cX9_fault 3 (some .int) 0 := ⟨⟨tw_665, tw_666, tw_667, tw_7, tw_668⟩, rfl, by decide +kernel, by decide +kernel, by decide +kernel⟩
theorem lk_X9_126 : LkV RX9 126 RX9 yX9_readOn cX9_readOn 3 (some .int) 2 := ⟨⟨tw_669, tw_671, ts_12, tw_7, tw_672⟩, rfl, by decide +kernel, by decide +kernel, by decide +kernel⟩
theorem lk_X9_120 : LkV RX9 120 RX9 yX9_begin cX9_begin 3 (some .int) 1 := ⟨⟨tw_673, tw_675, ts_13, tw_7, tw_676⟩, rfl, by decide +kernel, by decide +kernel, by decide +kernel⟩
theorem lk_X9_108 : LkV RX9 108 RX9 yX9_close cX9_close 2 (some .int) 1 := ⟨⟨tw_679, tw_681, ts_14, tw_7, tw_682⟩, rfl, by decide +kernel, by decide +kernel, by decide +kernel⟩
theorem lk_X9_123 : LkV RX9 123 RX9 yX9_deed cX9_deed 2 (some .int) 1 := ⟨⟨tw_683, tw_685, ts_15, tw_7, tw_686⟩, rfl, by decide +kernel, by decide +kernel, by decide +kernel⟩
theorem lk_X9_116 : LkV RX9 116 RX9 yX9_count cX9_count 3 (some .int) 2 := ⟨⟨tw_687, tw_689, ts_16, tw_7, tw_690⟩, rfl, by decide +kernel, by decide +kernel, by decide +kernel⟩
theorem lk_L_40 : LkV RL 40 RX9 yX9_judge cX9_judge 3 (some .int) 1 := ⟨⟨tw_693, tw_694, tw_695, tw_7, tw_696⟩, rfl, by decide +kernel, by decide +kernel, by decide +kernel⟩
theorem lk_X9_192 : LkV RX9 192 RX9 yX9_refusal cX9_refusal 1 (some .int) 0 := ⟨⟨tw_698, tw_700, ts_17, tw_7, tw_701⟩, rfl, by decide +kernel, by decide +kernel, by decide +kernel⟩
theorem lk_X9_180 : LkV RX9 180 RX9 yX9_keepNow cX9_keepNow 2 none 0 := ⟨⟨tw_702, tw_704, ts_18, tw_7, tw_705⟩, rfl, by decide +kernel, by decide +kernel, by decide +kernel⟩
theorem lk_X9_183 : LkV RX9 183 RX9 yX9_fault cX9_fault 3 (some .int) 0 := ⟨⟨tw_706, tw_666, tw_667, tw_7, tw_668⟩, rfl, by decide +kernel, by decide +kernel, by decide +kernel⟩
theorem lk_X9_187 : LkV RX9 187 RX9 yX9_goHours cX9_goHours 3 none 0 := ⟨⟨tw_707, tw_709, ts_19, tw_7, tw_710⟩, rfl, by decide +kernel, by decide +kernel, by decide +kernel⟩
theorem lk_X9_173 : LkV RX9 173 RX9 yX9_whyNot cX9_whyNot 4 (some .int) 3 := ⟨⟨tw_711, tw_713, ts_20, tw_7, tw_714⟩, rfl, by decide +kernel, by decide +kernel, by decide +kernel⟩
theorem lk_X9_132 : LkV RX9 132 RX9 yX9_isChosen cX9_isChosen 4 (some .boolean) 1 := ⟨⟨tw_715, tw_717, ts_21, tw_7, tw_718⟩, rfl, by decide +kernel, by decide +kernel, by decide +kernel⟩
theorem lk_X9_177 : LkV RX9 177 RX9 yX9_goOne cX9_goOne 2 none 1 := ⟨⟨tw_719, tw_721, ts_22, tw_7, tw_722⟩, rfl, by decide +kernel, by decide +kernel, by decide +kernel⟩
theorem lk_X9_157 : LkV RX9 157 RX9 yX9_happen cX9_happen 4 none 3 := ⟨⟨tw_723, tw_725, ts_23, tw_7, tw_726⟩, rfl, by decide +kernel, by decide +kernel, by decide +kernel⟩
theorem lk_X9_144 : LkV RX9 144 RX9 yX9_listen cX9_listen 2 none 1 := ⟨⟨tw_727, tw_729, ts_24, tw_7, tw_730⟩, rfl, by decide +kernel, by decide +kernel, by decide +kernel⟩
theorem lk_X9_138 : LkS RX9 138 yX9_less cX9_less 2 (some .int) 2 := ⟨⟨tw_731, tw_732, tw_7, tw_733⟩, by decide +kernel, by decide +kernel, by decide +kernel⟩
theorem lk_X9_148 : LkV RX9 148 RX9 yX9_swap cX9_swap 5 none 1 := ⟨⟨tw_734, tw_736, ts_25, tw_7, tw_737⟩, rfl, by decide +kernel, by decide +kernel, by decide +kernel⟩
theorem lk_X9_151 : LkV RX9 151 RX9 yX9_choose cX9_choose 2 none 1 := ⟨⟨tw_738, tw_740, ts_26, tw_7, tw_741⟩, rfl, by decide +kernel, by decide +kernel, by decide +kernel⟩
theorem lk_X9_154 : LkV RX9 154 RX9 yX9_passMinute cX9_passMinute 3 none 0 := ⟨⟨tw_742, tw_744, ts_27, tw_7, tw_745⟩, rfl, by decide +kernel, by decide +kernel, by decide +kernel⟩
theorem lk_X9_195 : LkV RX9 195 RX9 yX9_back cX9_back 3 (some .int) 1 := ⟨⟨tw_746, tw_748, ts_28, tw_7, tw_749⟩, rfl, by decide +kernel, by decide +kernel, by decide +kernel⟩
theorem lk_L_45 : LkV RL 45 RX9 yX9_behind cX9_behind 4 (some .int) 2 := ⟨⟨tw_750, tw_751, tw_752, tw_7, tw_753⟩, rfl, by decide +kernel, by decide +kernel, by decide +kernel⟩
theorem lk_L_49 : LkV RL 49 RX9 yX9_stands cX9_stands 4 (some .int) 2 := ⟨⟨tw_754, tw_755, tw_756, tw_7, tw_757⟩, rfl, by decide +kernel, by decide +kernel, by decide +kernel⟩
theorem lk_L_53 : LkV RL 53 RX9 yX9_house cX9_house 3 (some .int) 1 := ⟨⟨tw_758, tw_759, tw_760, tw_7, tw_761⟩, rfl, by decide +kernel, by decide +kernel, by decide +kernel⟩
theorem lk_X9_209 : LkV RX9 209 RX9 yX9_ofHouse cX9_ofHouse 2 (some .int) 1 := ⟨⟨tw_763, tw_765, ts_29, tw_7, tw_766⟩, rfl, by decide +kernel, by decide +kernel, by decide +kernel⟩
theorem lk_X9_198 : LkV RX9 198 RX9 yX9_whoChose cX9_whoChose 3 (some .int) 0 := ⟨⟨tw_767, tw_769, ts_30, tw_7, tw_770⟩, rfl, by decide +kernel, by decide +kernel, by decide +kernel⟩
theorem lk_X9_201 : LkV RX9 201 RX9 yX9_whoRight cX9_whoRight 4 (some .int) 0 := ⟨⟨tw_771, tw_773, ts_31, tw_7, tw_774⟩, rfl, by decide +kernel, by decide +kernel, by decide +kernel⟩
theorem lk_X9_204 : LkV RX9 204 RX9 yX9_nickMany cX9_nickMany 3 (some .int) 0 := ⟨⟨tw_775, tw_777, ts_32, tw_7, tw_778⟩, rfl, by decide +kernel, by decide +kernel, by decide +kernel⟩
theorem lk_L_57 : LkV RL 57 RX9 yX9_wrong cX9_wrong 3 (some .int) 1 := ⟨⟨tw_779, tw_780, tw_781, tw_7, tw_782⟩, rfl, by decide +kernel, by decide +kernel, by decide +kernel⟩
theorem lk_L_61 : LkV RL 61 RX9 yX9_done cX9_done 2 (some .int) 0 := ⟨⟨tw_783, tw_784, tw_785, tw_7, tw_786⟩, rfl, by decide +kernel, by decide +kernel, by decide +kernel⟩
theorem lk_L_66 : LkV RL 66 RX9 yX9_seek cX9_seek 5 (some .long) 4 := ⟨⟨tw_787, tw_788, tw_789, tw_7, tw_790⟩, rfl, by decide +kernel, by decide +kernel, by decide +kernel⟩
theorem lk_X9_219 : LkV RX9 219 RX9 yX9_readBoth cX9_readBoth 7 (some .boolean) 3 := ⟨⟨tw_791, tw_793, ts_33, tw_7, tw_794⟩, rfl, by decide +kernel, by decide +kernel, by decide +kernel⟩
theorem lk_X9_212 : LkS RX9 212 yX9_isRow cX9_isRow 5 (some .boolean) 2 := ⟨⟨tw_795, tw_796, tw_7, tw_797⟩, by decide +kernel, by decide +kernel, by decide +kernel⟩
theorem lk_X9_225 : LkV RX9 225 RX9 yX9_timeOf cX9_timeOf 6 (some .int) 1 := ⟨⟨tw_799, tw_801, ts_34, tw_7, tw_802⟩, rfl, by decide +kernel, by decide +kernel, by decide +kernel⟩
theorem lk_X9_216 : LkV RX9 216 RX9 yX9_nextOf cX9_nextOf 7 (some .int) 2 := ⟨⟨tw_803, tw_805, ts_35, tw_7, tw_806⟩, rfl, by decide +kernel, by decide +kernel, by decide +kernel⟩
theorem lk_X9_228 : LkV RX9 228 RX9 yX9_sumOf cX9_sumOf 4 (some .int) 1 := ⟨⟨tw_807, tw_809, ts_36, tw_7, tw_810⟩, rfl, by decide +kernel, by decide +kernel, by decide +kernel⟩
theorem lk_X9_231 : LkS RX9 231 yX9_lowest cX9_lowest 11 (some .long) 3 := ⟨⟨tw_811, tw_812, tw_7, tw_813⟩, by decide +kernel, by decide +kernel, by decide +kernel⟩
theorem lk_L_70 : LkV RL 70 RX9 yX9_looks cX9_looks 4 (some .int) 3 := ⟨⟨tw_814, tw_815, tw_816, tw_7, tw_817⟩, rfl, by decide +kernel, by decide +kernel, by decide +kernel⟩
theorem lk_L_74 : LkV RL 74 RX9 yX9_mix cX9_mix 8 (some .int) 4 := ⟨⟨tw_818, tw_819, tw_820, tw_7, tw_821⟩, rfl, by decide +kernel, by decide +kernel, by decide +kernel⟩
theorem lk_X9_242 : LkS RX9 242 yX9_orderOf cX9_orderOf 3 (some .int) 1 := ⟨⟨tw_824, tw_825, tw_7, tw_826⟩, by decide +kernel, by decide +kernel, by decide +kernel⟩
theorem lk_X9_235 : LkS RX9 235 yX9_mixedOnce cX9_mixedOnce 2 (some .int) 2 := ⟨⟨tw_827, tw_828, tw_7, tw_829⟩, by decide +kernel, by decide +kernel, by decide +kernel⟩
theorem lk_L_78 : LkV RL 78 RX9 yX9_rises cX9_rises 5 (some .int) 2 := ⟨⟨tw_830, tw_831, tw_832, tw_7, tw_833⟩, rfl, by decide +kernel, by decide +kernel, by decide +kernel⟩
theorem lk_X9_245 : LkV RX9 245 RX9 yX9_riseFrom cX9_riseFrom 4 (some .int) 1 := ⟨⟨tw_834, tw_836, ts_37, tw_7, tw_837⟩, rfl, by decide +kernel, by decide +kernel, by decide +kernel⟩
theorem lk_L_83 : LkV RL 83 RX9 yX9_like cX9_like 4 (some .int) 3 := ⟨⟨tw_838, tw_839, tw_840, tw_7, tw_841⟩, rfl, by decide +kernel, by decide +kernel, by decide +kernel⟩
theorem lk_L_87 : LkV RL 87 RX9 yX9_forget cX9_forget 2 (some .int) 0 := ⟨⟨tw_843, tw_844, tw_845, tw_7, tw_846⟩, rfl, by decide +kernel, by decide +kernel, by decide +kernel⟩
theorem lk_L_91 : LkV RL 91 RX9 yX9_own cX9_own 4 (some .int) 1 := ⟨⟨tw_847, tw_848, tw_849, tw_7, tw_850⟩, rfl, by decide +kernel, by decide +kernel, by decide +kernel⟩
theorem lk_X9_256 : LkV RX9 256 RX9 yX9_isFit cX9_isFit 4 (some .boolean) 1 := ⟨⟨tw_851, tw_853, ts_38, tw_7, tw_854⟩, rfl, by decide +kernel, by decide +kernel, by decide +kernel⟩
theorem lk_X9_253 : LkS RX9 253 yX9_isLike cX9_isLike 3 (some .boolean) 3 := ⟨⟨tw_855, tw_856, tw_7, tw_857⟩, by decide +kernel, by decide +kernel, by decide +kernel⟩
theorem lk_L_95 : LkV RL 95 RX9 yX9_ask cX9_ask 6 (some .int) 1 := ⟨⟨tw_858, tw_859, tw_860, tw_7, tw_861⟩, rfl, by decide +kernel, by decide +kernel, by decide +kernel⟩
theorem lk_X9_259 : LkV RX9 259 RX9 yX9_mostLeft cX9_mostLeft 7 (some .int) 2 := ⟨⟨tw_862, tw_864, ts_39, tw_7, tw_865⟩, rfl, by decide +kernel, by decide +kernel, by decide +kernel⟩
theorem lk_L_99 : LkV RL 99 RX9 yX9_take cX9_take 4 (some .int) 2 := ⟨⟨tw_866, tw_867, tw_868, tw_7, tw_869⟩, rfl, by decide +kernel, by decide +kernel, by decide +kernel⟩
theorem lk_X9_264 : LkV RX9 264 RX9 yX9_leastTake cX9_leastTake 4 (some .int) 1 := ⟨⟨tw_871, tw_873, ts_40, tw_7, tw_874⟩, rfl, by decide +kernel, by decide +kernel, by decide +kernel⟩
theorem lk_L_104 : LkV RL 104 RX9 yX9_pass cX9_pass 4 (some .long) 3 := ⟨⟨tw_875, tw_876, tw_877, tw_7, tw_878⟩, rfl, by decide +kernel, by decide +kernel, by decide +kernel⟩
theorem lk_X9_271 : LkS RX9 271 yX9_likely cX9_likely 5 (some .long) 2 := ⟨⟨tw_880, tw_881, tw_7, tw_882⟩, by decide +kernel, by decide +kernel, by decide +kernel⟩
theorem lk_L_108 : LkV RL 108 RX9 yX9_passes cX9_passes 4 (some .int) 1 := ⟨⟨tw_884, tw_885, tw_886, tw_7, tw_887⟩, rfl, by decide +kernel, by decide +kernel, by decide +kernel⟩
theorem lk_L_112 : LkV RL 112 RX9 yX9_hour cX9_hour 9 (some .int) 3 := ⟨⟨tw_888, tw_889, tw_890, tw_7, tw_891⟩, rfl, by decide +kernel, by decide +kernel, by decide +kernel⟩
theorem lk_X9_285 : LkS RX9 285 yX9_actBy cX9_actBy 2 (some .int) 2 := ⟨⟨tw_897, tw_898, tw_7, tw_899⟩, by decide +kernel, by decide +kernel, by decide +kernel⟩
theorem lk_L_116 : LkV RL 116 RX9 yX9_image cX9_image 2 (some .int) 1 := ⟨⟨tw_900, tw_901, tw_902, tw_7, tw_903⟩, rfl, by decide +kernel, by decide +kernel, by decide +kernel⟩
theorem lk_X9_302 : LkV RX9 302 RX9 yX9_passAll cX9_passAll 1 none 0 := ⟨⟨tw_904, tw_906, ts_41, tw_7, tw_907⟩, rfl, by decide +kernel, by decide +kernel, by decide +kernel⟩
theorem lk_X9_295 : LkV RX9 295 RX9 yX9_put cX9_put 3 (some .int) 1 := ⟨⟨tw_908, tw_910, ts_42, tw_7, tw_911⟩, rfl, by decide +kernel, by decide +kernel, by decide +kernel⟩
theorem lk_X9_298 : LkV RX9 298 RX9 yX9_passRow cX9_passRow 4 none 2 := ⟨⟨tw_912, tw_914, ts_43, tw_7, tw_915⟩, rfl, by decide +kernel, by decide +kernel, by decide +kernel⟩
theorem lk_L_120 : LkV RL 120 RX9 yX9_restore cX9_restore 2 (some .int) 1 := ⟨⟨tw_916, tw_917, tw_918, tw_7, tw_919⟩, rfl, by decide +kernel, by decide +kernel, by decide +kernel⟩
theorem lk_L_124 : LkV RL 124 RX9 yX9_told cX9_told 2 (some .int) 1 := ⟨⟨tw_920, tw_921, tw_922, tw_7, tw_923⟩, rfl, by decide +kernel, by decide +kernel, by decide +kernel⟩
theorem lk_X9_309 : LkV RX9 309 RX9 yX9_toldOfPlace cX9_toldOfPlace 3 (some .int) 1 := ⟨⟨tw_926, tw_928, ts_44, tw_7, tw_929⟩, rfl, by decide +kernel, by decide +kernel, by decide +kernel⟩
theorem lk_X9_314 : LkV RX9 314 RX9 yX9_toldOfHeir cX9_toldOfHeir 3 (some .int) 1 := ⟨⟨tw_931, tw_933, ts_45, tw_7, tw_934⟩, rfl, by decide +kernel, by decide +kernel, by decide +kernel⟩
theorem lk_X2_36 : LkN RX2 36 yX8_isWithin cX8_isWithin 3 (some .boolean) 3 := ⟨⟨by decide +kernel, tw_199, tw_1, tw_200⟩, by decide +kernel, by decide +kernel, by decide +kernel⟩
theorem lk_X0_43 : LkN RX0 43 yX8_isPlace cX8_isPlace 1 (some .boolean) 1 := ⟨⟨by decide +kernel, tw_196, tw_1, tw_197⟩, by decide +kernel, by decide +kernel, by decide +kernel⟩
theorem lk_X5_9 : LkN RX5 9 yX8_isWithin cX8_isWithin 3 (some .boolean) 3 := ⟨⟨by decide +kernel, tw_199, tw_1, tw_200⟩, by decide +kernel, by decide +kernel, by decide +kernel⟩
theorem lk_X4_22 : LkN RX4 22 yX8_isBeat cX8_isBeat 1 (some .boolean) 1 := ⟨⟨by decide +kernel, tw_205, tw_1, tw_206⟩, by decide +kernel, by decide +kernel, by decide +kernel⟩
theorem lk_X6_52 : LkN RX6 52 yX8_isBeat cX8_isBeat 1 (some .boolean) 1 := ⟨⟨by decide +kernel, tw_205, tw_1, tw_206⟩, by decide +kernel, by decide +kernel, by decide +kernel⟩
