set_option maxRecDepth 20000 in
theorem wl_1_19 : Cond.code yX5_init cX5_init 1 none ∈ lw_tbl := tb1 (List.mem_of_getElem? (i := 19) rfl)
set_option maxRecDepth 20000 in
theorem wl_1_182 : Cond.fieldLink RX5 48 "PostRounders" "trial" "LPostRounders$Play;" ∈ lw_tbl := tb1 (List.mem_of_getElem? (i := 182) rfl)
set_option maxRecDepth 20000 in
theorem wl_1_3 : Cond.initialized RX2 ∈ lw_tbl := tb1 (List.mem_of_getElem? (i := 3) rfl)
set_option maxRecDepth 20000 in
theorem wl_1_30 : Cond.instantiable RX2 8 ∈ lw_tbl := tb1 (List.mem_of_getElem? (i := 30) rfl)
set_option maxRecDepth 20000 in
theorem wl_1_170 : Cond.classLink RX5 45 RX2 ∈ lw_tbl := tb1 (List.mem_of_getElem? (i := 170) rfl)
set_option maxRecDepth 20000 in
theorem wl_1_181 : Cond.fieldLink RX5 41 "PostRounders" "chances" "LPostRounders$Chances;" ∈ lw_tbl := tb1 (List.mem_of_getElem? (i := 181) rfl)
set_option maxRecDepth 20000 in
theorem wl_1_8 : Cond.initialized RX0 ∈ lw_tbl := tb1 (List.mem_of_getElem? (i := 8) rfl)
set_option maxRecDepth 20000 in
theorem wl_1_150 : Cond.instantiable RX0 3 ∈ lw_tbl := tb1 (List.mem_of_getElem? (i := 150) rfl)
set_option maxRecDepth 20000 in
theorem wl_1_149 : Cond.classLink RX5 38 RX0 ∈ lw_tbl := tb1 (List.mem_of_getElem? (i := 149) rfl)
set_option maxRecDepth 20000 in
theorem wl_1_180 : Cond.fieldLink RX5 34 "PostRounders" "reader" "LPostRounders$Reader;" ∈ lw_tbl := tb1 (List.mem_of_getElem? (i := 180) rfl)
set_option maxRecDepth 20000 in
theorem wl_1_7 : Cond.initialized RX3 ∈ lw_tbl := tb1 (List.mem_of_getElem? (i := 7) rfl)
set_option maxRecDepth 20000 in
theorem wl_1_119 : Cond.instantiable RX3 7 ∈ lw_tbl := tb1 (List.mem_of_getElem? (i := 119) rfl)
set_option maxRecDepth 20000 in
theorem wl_1_118 : Cond.classLink RX5 31 RX3 ∈ lw_tbl := tb1 (List.mem_of_getElem? (i := 118) rfl)
set_option maxRecDepth 20000 in
theorem wl_1_179 : Cond.fieldLink RX5 28 "PostRounders" "refusals" "[I" ∈ lw_tbl := tb1 (List.mem_of_getElem? (i := 179) rfl)
set_option maxRecDepth 20000 in
theorem wl_1_178 : Cond.fieldLink RX5 24 "PostRounders" "below" "J" ∈ lw_tbl := tb1 (List.mem_of_getElem? (i := 178) rfl)
set_option maxRecDepth 20000 in
theorem wl_1_175 : Cond.fieldLink RX5 20 "PostRounders" "text" "[I" ∈ lw_tbl := tb1 (List.mem_of_getElem? (i := 175) rfl)
set_option maxRecDepth 20000 in
theorem wl_1_73 : Cond.arrayClass .int ∈ lw_tbl := tb1 (List.mem_of_getElem? (i := 73) rfl)
set_option maxRecDepth 20000 in
theorem wl_1_174 : Cond.fieldLink RX5 16 "PostRounders" "images" "[LPostRounders$Field;" ∈ lw_tbl := tb1 (List.mem_of_getElem? (i := 174) rfl)
set_option maxRecDepth 20000 in
theorem wl_1_173 : Cond.fieldLink RX5 12 "PostRounders" "now" "LPostRounders$Field;" ∈ lw_tbl := tb1 (List.mem_of_getElem? (i := 173) rfl)
set_option maxRecDepth 20000 in
theorem wl_1_2 : Cond.initialized RX1 ∈ lw_tbl := tb1 (List.mem_of_getElem? (i := 2) rfl)
set_option maxRecDepth 20000 in
theorem wl_1_24 : Cond.instantiable RX1 5 ∈ lw_tbl := tb1 (List.mem_of_getElem? (i := 24) rfl)
set_option maxRecDepth 20000 in
theorem wl_1_23 : Cond.classLink RX5 9 RX1 ∈ lw_tbl := tb1 (List.mem_of_getElem? (i := 23) rfl)
set_option maxRecDepth 20000 in
theorem wl_1_22 : Cond.code objectInit ⟨#[0xb1]⟩ 1 none ∈ lw_tbl := tb1 (List.mem_of_getElem? (i := 22) rfl)
set_option maxRecDepth 20000 in
theorem wl_1_21 : Cond.instanceMethod objectInit ∈ lw_tbl := tb1 (List.mem_of_getElem? (i := 21) rfl)
set_option maxRecDepth 20000 in
theorem wl_1_20 : Cond.methodLink RX5 3 objectInit ∈ lw_tbl := tb1 (List.mem_of_getElem? (i := 20) rfl)
set_option maxRecDepth 20000 in
theorem wl_1_44 : Cond.fieldLink RX2 18 "PostRounders$Play" "where" "[I" ∈ lw_tbl := tb1 (List.mem_of_getElem? (i := 44) rfl)
set_option maxRecDepth 20000 in
theorem wl_1_42 : Cond.fieldLink RX2 15 "PostRounders$Play" "legs" "[I" ∈ lw_tbl := tb1 (List.mem_of_getElem? (i := 42) rfl)
set_option maxRecDepth 20000 in
theorem wl_1_41 : Cond.fieldLink RX2 9 "PostRounders$Play" "kind" "[I" ∈ lw_tbl := tb1 (List.mem_of_getElem? (i := 41) rfl)
set_option maxRecDepth 20000 in
theorem wl_1_34 : Cond.methodLink RX2 3 objectInit ∈ lw_tbl := tb1 (List.mem_of_getElem? (i := 34) rfl)
set_option maxRecDepth 20000 in
theorem wl_1_33 : Cond.code yX2_init cX2_init 1 none ∈ lw_tbl := tb1 (List.mem_of_getElem? (i := 33) rfl)
set_option maxRecDepth 20000 in
theorem wl_1_32 : Cond.instanceMethod yX2_init ∈ lw_tbl := tb1 (List.mem_of_getElem? (i := 32) rfl)
set_option maxRecDepth 20000 in
theorem wl_1_104 : Cond.fieldLink RX1 34 "PostRounders$Field" "past" "LPostRounders$Rows;" ∈ lw_tbl := tb1 (List.mem_of_getElem? (i := 104) rfl)
set_option maxRecDepth 20000 in
theorem wl_1_102 : Cond.fieldLink RX1 31 "PostRounders$Field" "marks" "LPostRounders$Rows;" ∈ lw_tbl := tb1 (List.mem_of_getElem? (i := 102) rfl)
set_option maxRecDepth 20000 in
theorem wl_1_100 : Cond.fieldLink RX1 27 "PostRounders$Field" "notes" "LPostRounders$Rows;" ∈ lw_tbl := tb1 (List.mem_of_getElem? (i := 100) rfl)
set_option maxRecDepth 20000 in
theorem wl_1_4 : Cond.initialized RX4 ∈ lw_tbl := tb1 (List.mem_of_getElem? (i := 4) rfl)
set_option maxRecDepth 20000 in
theorem wl_1_75 : Cond.instantiable RX4 3 ∈ lw_tbl := tb1 (List.mem_of_getElem? (i := 75) rfl)
set_option maxRecDepth 20000 in
theorem wl_1_74 : Cond.classLink RX1 22 RX4 ∈ lw_tbl := tb1 (List.mem_of_getElem? (i := 74) rfl)
set_option maxRecDepth 20000 in
theorem wl_1_98 : Cond.fieldLink RX1 18 "PostRounders$Field" "rowHits" "[I" ∈ lw_tbl := tb1 (List.mem_of_getElem? (i := 98) rfl)
set_option maxRecDepth 20000 in
theorem wl_1_96 : Cond.fieldLink RX1 12 "PostRounders$Field" "play" "LPostRounders$Play;" ∈ lw_tbl := tb1 (List.mem_of_getElem? (i := 96) rfl)
set_option maxRecDepth 20000 in
theorem wl_1_29 : Cond.classLink RX1 9 RX2 ∈ lw_tbl := tb1 (List.mem_of_getElem? (i := 29) rfl)
set_option maxRecDepth 20000 in
theorem wl_1_28 : Cond.methodLink RX1 3 objectInit ∈ lw_tbl := tb1 (List.mem_of_getElem? (i := 28) rfl)
set_option maxRecDepth 20000 in
theorem wl_1_27 : Cond.code yX1_init cX1_init 1 none ∈ lw_tbl := tb1 (List.mem_of_getElem? (i := 27) rfl)
set_option maxRecDepth 20000 in
theorem wl_1_26 : Cond.instanceMethod yX1_init ∈ lw_tbl := tb1 (List.mem_of_getElem? (i := 26) rfl)
set_option maxRecDepth 20000 in
theorem wl_1_25 : Cond.methodLink RX5 11 yX1_init ∈ lw_tbl := tb1 (List.mem_of_getElem? (i := 25) rfl)
set_option maxRecDepth 20000 in
theorem wl_1_186 : Cond.fieldLink RX5 63 "PostRounders" "gains" "[[I" ∈ lw_tbl := tb1 (List.mem_of_getElem? (i := 186) rfl)
set_option maxRecDepth 20000 in
theorem wl_1_172 : Cond.classLink RX5 61 "[[I" ∈ lw_tbl := tb1 (List.mem_of_getElem? (i := 172) rfl)
set_option maxRecDepth 20000 in
theorem wl_1_185 : Cond.fieldLink RX5 58 "PostRounders" "seen" "[I" ∈ lw_tbl := tb1 (List.mem_of_getElem? (i := 185) rfl)
set_option maxRecDepth 20000 in
theorem wl_1_184 : Cond.fieldLink RX5 55 "PostRounders" "bestTurn" "[I" ∈ lw_tbl := tb1 (List.mem_of_getElem? (i := 184) rfl)
set_option maxRecDepth 20000 in
theorem wl_1_183 : Cond.fieldLink RX5 52 "PostRounders" "turn" "[I" ∈ lw_tbl := tb1 (List.mem_of_getElem? (i := 183) rfl)
set_option maxRecDepth 20000 in
theorem wl_1_153 : Cond.code yX0_init cX0_init 2 none ∈ lw_tbl := tb1 (List.mem_of_getElem? (i := 153) rfl)
set_option maxRecDepth 20000 in
theorem wl_1_152 : Cond.instanceMethod yX0_init ∈ lw_tbl := tb1 (List.mem_of_getElem? (i := 152) rfl)
set_option maxRecDepth 20000 in
theorem wl_1_151 : Cond.methodLink RX5 40 yX0_init ∈ lw_tbl := tb1 (List.mem_of_getElem? (i := 151) rfl)
set_option maxRecDepth 20000 in
theorem wl_1_128 : Cond.fieldLink RX3 18 "PostRounders$Reader" "bytes" "[I" ∈ lw_tbl := tb1 (List.mem_of_getElem? (i := 128) rfl)
set_option maxRecDepth 20000 in
theorem wl_1_126 : Cond.fieldLink RX3 12 "PostRounders$Reader" "play" "LPostRounders$Play;" ∈ lw_tbl := tb1 (List.mem_of_getElem? (i := 126) rfl)
set_option maxRecDepth 20000 in
theorem wl_1_124 : Cond.classLink RX3 9 RX2 ∈ lw_tbl := tb1 (List.mem_of_getElem? (i := 124) rfl)
set_option maxRecDepth 20000 in
theorem wl_1_123 : Cond.methodLink RX3 3 objectInit ∈ lw_tbl := tb1 (List.mem_of_getElem? (i := 123) rfl)
set_option maxRecDepth 20000 in
theorem wl_1_122 : Cond.code yX3_init cX3_init 1 none ∈ lw_tbl := tb1 (List.mem_of_getElem? (i := 122) rfl)
set_option maxRecDepth 20000 in
theorem wl_1_121 : Cond.instanceMethod yX3_init ∈ lw_tbl := tb1 (List.mem_of_getElem? (i := 121) rfl)
set_option maxRecDepth 20000 in
theorem wl_1_95 : Cond.code yJ7_fill_53178 cJ7_fill_53178 4 none ∈ lw_tbl := tb1 (List.mem_of_getElem? (i := 95) rfl)
set_option maxRecDepth 20000 in
theorem wl_1_6 : Cond.initialized RJ7 ∈ lw_tbl := tb1 (List.mem_of_getElem? (i := 6) rfl)
set_option maxRecDepth 20000 in
theorem wl_1_94 : Cond.static yJ7_fill_53178 ∈ lw_tbl := tb1 (List.mem_of_getElem? (i := 94) rfl)
set_option maxRecDepth 20000 in
theorem wl_1_93 : Cond.methodLink RX1 37 yJ7_fill_53178 ∈ lw_tbl := tb1 (List.mem_of_getElem? (i := 93) rfl)
set_option maxRecDepth 20000 in
theorem wl_1_84 : Cond.fieldLink RX4 19 "PostRounders$Rows" "cells" "[I" ∈ lw_tbl := tb1 (List.mem_of_getElem? (i := 84) rfl)
set_option maxRecDepth 20000 in
theorem wl_1_83 : Cond.fieldLink RX4 13 "PostRounders$Rows" "width" "I" ∈ lw_tbl := tb1 (List.mem_of_getElem? (i := 83) rfl)
set_option maxRecDepth 20000 in
theorem wl_1_82 : Cond.code Lib.Math.max.name Lib.Math.max.code 2 (some .int) ∈ lw_tbl := tb1 (List.mem_of_getElem? (i := 82) rfl)
set_option maxRecDepth 20000 in
theorem wl_1_5 : Cond.initialized "java/lang/Math" ∈ lw_tbl := tb1 (List.mem_of_getElem? (i := 5) rfl)
set_option maxRecDepth 20000 in
theorem wl_1_81 : Cond.static Lib.Math.max.name ∈ lw_tbl := tb1 (List.mem_of_getElem? (i := 81) rfl)
set_option maxRecDepth 20000 in
theorem wl_1_80 : Cond.methodLink RX4 7 Lib.Math.max.name ∈ lw_tbl := tb1 (List.mem_of_getElem? (i := 80) rfl)
set_option maxRecDepth 20000 in
theorem wl_1_79 : Cond.methodLink RX4 1 objectInit ∈ lw_tbl := tb1 (List.mem_of_getElem? (i := 79) rfl)
set_option maxRecDepth 20000 in
theorem wl_1_78 : Cond.code yX4_init cX4_init 3 none ∈ lw_tbl := tb1 (List.mem_of_getElem? (i := 78) rfl)
set_option maxRecDepth 20000 in
theorem wl_1_77 : Cond.instanceMethod yX4_init ∈ lw_tbl := tb1 (List.mem_of_getElem? (i := 77) rfl)
set_option maxRecDepth 20000 in
theorem wl_1_76 : Cond.methodLink RX1 24 yX4_init ∈ lw_tbl := tb1 (List.mem_of_getElem? (i := 76) rfl)
set_option maxRecDepth 20000 in
theorem wl_1_47 : Cond.fieldLink RX2 21 "PostRounders$Play" "next" "I" ∈ lw_tbl := tb1 (List.mem_of_getElem? (i := 47) rfl)
set_option maxRecDepth 20000 in
theorem wl_1_162 : Cond.fieldLink RX0 22 "PostRounders$Chances" "cases" "[I" ∈ lw_tbl := tb1 (List.mem_of_getElem? (i := 162) rfl)
set_option maxRecDepth 20000 in
theorem wl_1_161 : Cond.fieldLink RX0 19 "PostRounders$Chances" "ways" "[[I" ∈ lw_tbl := tb1 (List.mem_of_getElem? (i := 161) rfl)
set_option maxRecDepth 20000 in
theorem wl_1_157 : Cond.classLink RX0 17 "[[I" ∈ lw_tbl := tb1 (List.mem_of_getElem? (i := 157) rfl)
set_option maxRecDepth 20000 in
theorem wl_1_160 : Cond.fieldLink RX0 11 "PostRounders$Chances" "levels" "[LPostRounders$Play;" ∈ lw_tbl := tb1 (List.mem_of_getElem? (i := 160) rfl)
set_option maxRecDepth 20000 in
theorem wl_1_155 : Cond.classLink RX0 9 RX2 ∈ lw_tbl := tb1 (List.mem_of_getElem? (i := 155) rfl)
set_option maxRecDepth 20000 in
theorem wl_1_154 : Cond.methodLink RX0 3 objectInit ∈ lw_tbl := tb1 (List.mem_of_getElem? (i := 154) rfl)
set_option maxRecDepth 20000 in
theorem wl_3_229 : Cond.code yX6_init cX6_init 1 none ∈ lw_tbl := tb3 (List.mem_of_getElem? (i := 229) rfl)
set_option maxRecDepth 20000 in
theorem wl_3_238 : Cond.code yX6_empties cX6_empties 3 none ∈ lw_tbl := tb3 (List.mem_of_getElem? (i := 238) rfl)
set_option maxRecDepth 20000 in
theorem ws_2_11 : Cond.selects RX6 yX6_empties yX6_empties ∈ lw_tbl := sb2 (q := (⟨"PostRoundersModel", "empties", "(I)V"⟩, 14)) (List.mem_of_getElem? (i := 11) rfl)
set_option maxRecDepth 20000 in
theorem wl_3_237 : Cond.instanceMethod yX6_empties ∈ lw_tbl := tb3 (List.mem_of_getElem? (i := 237) rfl)
set_option maxRecDepth 20000 in
theorem wl_3_235 : Cond.methodLink RX6 43 yX6_empties ∈ lw_tbl := tb3 (List.mem_of_getElem? (i := 235) rfl)
set_option maxRecDepth 20000 in
theorem wl_3_234 : Cond.code yX6_begins cX6_begins 4 none ∈ lw_tbl := tb3 (List.mem_of_getElem? (i := 234) rfl)
set_option maxRecDepth 20000 in
theorem wl_1_9 : Cond.initialized RX6 ∈ lw_tbl := tb1 (List.mem_of_getElem? (i := 9) rfl)
set_option maxRecDepth 20000 in
theorem ws_2_10 : Cond.selects RX6 yX6_begins yX6_begins ∈ lw_tbl := sb2 (q := (⟨"PostRoundersModel", "begins", "(II)V"⟩, 14)) (List.mem_of_getElem? (i := 10) rfl)
set_option maxRecDepth 20000 in
theorem wl_3_233 : Cond.instanceMethod yX6_begins ∈ lw_tbl := tb3 (List.mem_of_getElem? (i := 233) rfl)
set_option maxRecDepth 20000 in
theorem wl_3_231 : Cond.methodLink RX6 39 yX6_begins ∈ lw_tbl := tb3 (List.mem_of_getElem? (i := 231) rfl)
set_option maxRecDepth 20000 in
theorem wl_4_11 : Cond.fieldLink RX6 36 "PostRoundersModel" "gains" "[I" ∈ lw_tbl := tb4 (List.mem_of_getElem? (i := 11) rfl)
set_option maxRecDepth 20000 in
theorem wl_4_10 : Cond.fieldLink RX6 33 "PostRoundersModel" "first" "[I" ∈ lw_tbl := tb4 (List.mem_of_getElem? (i := 10) rfl)
set_option maxRecDepth 20000 in
theorem wl_4_9 : Cond.fieldLink RX6 30 "PostRoundersModel" "line" "[I" ∈ lw_tbl := tb4 (List.mem_of_getElem? (i := 9) rfl)
set_option maxRecDepth 20000 in
theorem wl_4_5 : Cond.fieldLink RX6 27 "PostRoundersModel" "statuses" "[I" ∈ lw_tbl := tb4 (List.mem_of_getElem? (i := 5) rfl)
set_option maxRecDepth 20000 in
theorem wl_4_4 : Cond.fieldLink RX6 24 "PostRoundersModel" "below" "J" ∈ lw_tbl := tb4 (List.mem_of_getElem? (i := 4) rfl)
set_option maxRecDepth 20000 in
theorem wl_4_3 : Cond.fieldLink RX6 20 "PostRoundersModel" "above" "J" ∈ lw_tbl := tb4 (List.mem_of_getElem? (i := 3) rfl)
set_option maxRecDepth 20000 in
theorem wl_4_1 : Cond.fieldLink RX6 17 "PostRoundersModel" "text" "[I" ∈ lw_tbl := tb4 (List.mem_of_getElem? (i := 1) rfl)
set_option maxRecDepth 20000 in
theorem wl_4_0 : Cond.fieldLink RX6 13 "PostRoundersModel" "isKept" "[Z" ∈ lw_tbl := tb4 (List.mem_of_getElem? (i := 0) rfl)
set_option maxRecDepth 20000 in
theorem wl_4_42 : Cond.arrayClass .boolean ∈ lw_tbl := tb4 (List.mem_of_getElem? (i := 42) rfl)
set_option maxRecDepth 20000 in
theorem wl_3_239 : Cond.fieldLink RX6 7 "PostRoundersModel" "w" "[I" ∈ lw_tbl := tb3 (List.mem_of_getElem? (i := 239) rfl)
set_option maxRecDepth 20000 in
theorem wl_3_230 : Cond.methodLink RX6 1 objectInit ∈ lw_tbl := tb3 (List.mem_of_getElem? (i := 230) rfl)
set_option maxRecDepth 20000 in
theorem wl_1_219 : Cond.code yX5_field cX5_field 3 (some .int) ∈ lw_tbl := tb1 (List.mem_of_getElem? (i := 219) rfl)
set_option maxRecDepth 20000 in
theorem wl_1_233 : Cond.code yX1_begin cX1_begin 2 none ∈ lw_tbl := tb1 (List.mem_of_getElem? (i := 233) rfl)
set_option maxRecDepth 20000 in
theorem wl_1_232 : Cond.selects RX1 yX1_begin yX1_begin ∈ lw_tbl := tb1 (List.mem_of_getElem? (i := 232) rfl)
set_option maxRecDepth 20000 in
theorem wl_1_231 : Cond.instanceMethod yX1_begin ∈ lw_tbl := tb1 (List.mem_of_getElem? (i := 231) rfl)
set_option maxRecDepth 20000 in
theorem wl_1_230 : Cond.methodLink RX5 81 yX1_begin ∈ lw_tbl := tb1 (List.mem_of_getElem? (i := 230) rfl)
set_option maxRecDepth 20000 in
theorem wl_1_229 : Cond.code yX5_refuse cX5_refuse 3 (some .int) ∈ lw_tbl := tb1 (List.mem_of_getElem? (i := 229) rfl)
set_option maxRecDepth 20000 in
theorem ws_1_0 : Cond.selects RX5 yX5_refuse yX5_refuse ∈ lw_tbl := sb1 (q := (⟨"PostRounders", "refuse", "(I)I"⟩, 14)) (List.mem_of_getElem? (i := 0) rfl)
set_option maxRecDepth 20000 in
theorem wl_1_228 : Cond.instanceMethod yX5_refuse ∈ lw_tbl := tb1 (List.mem_of_getElem? (i := 228) rfl)
set_option maxRecDepth 20000 in
theorem wl_1_226 : Cond.methodLink RX5 70 yX5_refuse ∈ lw_tbl := tb1 (List.mem_of_getElem? (i := 226) rfl)
set_option maxRecDepth 20000 in
theorem wl_1_225 : Cond.code yX5_within cX5_within 3 (some .boolean) ∈ lw_tbl := tb1 (List.mem_of_getElem? (i := 225) rfl)
set_option maxRecDepth 20000 in
theorem wl_1_224 : Cond.static yX5_within ∈ lw_tbl := tb1 (List.mem_of_getElem? (i := 224) rfl)
set_option maxRecDepth 20000 in
theorem wl_1_223 : Cond.methodLink RX5 97 yX5_within ∈ lw_tbl := tb1 (List.mem_of_getElem? (i := 223) rfl)
set_option maxRecDepth 20000 in
theorem wl_1_222 : Cond.code yX5_isKind cX5_isKind 1 (some .boolean) ∈ lw_tbl := tb1 (List.mem_of_getElem? (i := 222) rfl)
set_option maxRecDepth 20000 in
theorem wl_1_1 : Cond.initialized RX5 ∈ lw_tbl := tb1 (List.mem_of_getElem? (i := 1) rfl)
set_option maxRecDepth 20000 in
theorem wl_1_221 : Cond.static yX5_isKind ∈ lw_tbl := tb1 (List.mem_of_getElem? (i := 221) rfl)
set_option maxRecDepth 20000 in
theorem wl_1_220 : Cond.methodLink RX5 66 yX5_isKind ∈ lw_tbl := tb1 (List.mem_of_getElem? (i := 220) rfl)
set_option maxRecDepth 20000 in
theorem wl_1_39 : Cond.fieldLink RX5 77 "PostRounders$Play" "size" "I" ∈ lw_tbl := tb1 (List.mem_of_getElem? (i := 39) rfl)
set_option maxRecDepth 20000 in
theorem wl_1_97 : Cond.fieldLink RX5 74 "PostRounders$Field" "play" "LPostRounders$Play;" ∈ lw_tbl := tb1 (List.mem_of_getElem? (i := 97) rfl)
set_option maxRecDepth 20000 in
theorem wl_1_85 : Cond.fieldLink RX4 23 "PostRounders$Rows" "used" "I" ∈ lw_tbl := tb1 (List.mem_of_getElem? (i := 85) rfl)
set_option maxRecDepth 20000 in
theorem wl_2_1 : Cond.code yX4_empty cX4_empty 1 none ∈ lw_tbl := tb2 (List.mem_of_getElem? (i := 1) rfl)
set_option maxRecDepth 20000 in
theorem wl_2_0 : Cond.selects RX4 yX4_empty yX4_empty ∈ lw_tbl := tb2 (List.mem_of_getElem? (i := 0) rfl)
set_option maxRecDepth 20000 in
theorem wl_1_239 : Cond.instanceMethod yX4_empty ∈ lw_tbl := tb1 (List.mem_of_getElem? (i := 239) rfl)
set_option maxRecDepth 20000 in
theorem wl_1_238 : Cond.methodLink RX1 47 yX4_empty ∈ lw_tbl := tb1 (List.mem_of_getElem? (i := 238) rfl)
set_option maxRecDepth 20000 in
theorem wl_1_53 : Cond.fieldLink RX2 34 "PostRounders$Play" "balls" "I" ∈ lw_tbl := tb1 (List.mem_of_getElem? (i := 53) rfl)
set_option maxRecDepth 20000 in
theorem wl_1_50 : Cond.fieldLink RX2 31 "PostRounders$Play" "points" "I" ∈ lw_tbl := tb1 (List.mem_of_getElem? (i := 50) rfl)
set_option maxRecDepth 20000 in
theorem wl_1_38 : Cond.fieldLink RX2 28 "PostRounders$Play" "size" "I" ∈ lw_tbl := tb1 (List.mem_of_getElem? (i := 38) rfl)
set_option maxRecDepth 20000 in
theorem wl_1_35 : Cond.fieldLink RX2 25 "PostRounders$Play" "bowler" "I" ∈ lw_tbl := tb1 (List.mem_of_getElem? (i := 35) rfl)
set_option maxRecDepth 20000 in
theorem wl_1_237 : Cond.code yX2_begin cX2_begin 2 none ∈ lw_tbl := tb1 (List.mem_of_getElem? (i := 237) rfl)
set_option maxRecDepth 20000 in
theorem wl_1_236 : Cond.selects RX2 yX2_begin yX2_begin ∈ lw_tbl := tb1 (List.mem_of_getElem? (i := 236) rfl)
set_option maxRecDepth 20000 in
theorem wl_1_235 : Cond.instanceMethod yX2_begin ∈ lw_tbl := tb1 (List.mem_of_getElem? (i := 235) rfl)
set_option maxRecDepth 20000 in
theorem wl_1_234 : Cond.methodLink RX1 43 yX2_begin ∈ lw_tbl := tb1 (List.mem_of_getElem? (i := 234) rfl)
set_option maxRecDepth 20000 in
theorem wl_1_218 : Cond.selects RX5 yX5_field yX5_field ∈ lw_tbl := tb1 (List.mem_of_getElem? (i := 218) rfl)
set_option maxRecDepth 20000 in
theorem wl_1_217 : Cond.instanceMethod yX5_field ∈ lw_tbl := tb1 (List.mem_of_getElem? (i := 217) rfl)
set_option maxRecDepth 20000 in
theorem wl_1_216 : Cond.methodLink RL 13 yX5_field ∈ lw_tbl := tb1 (List.mem_of_getElem? (i := 216) rfl)
set_option maxRecDepth 20000 in
theorem wl_4_46 : Cond.code yX6_field cX6_field 3 (some .int) ∈ lw_tbl := tb4 (List.mem_of_getElem? (i := 46) rfl)
set_option maxRecDepth 20000 in
theorem wl_4_54 : Cond.code yX6_bad cX6_bad 2 (some .int) ∈ lw_tbl := tb4 (List.mem_of_getElem? (i := 54) rfl)
set_option maxRecDepth 20000 in
theorem ws_2_12 : Cond.selects RX6 yX6_bad yX6_bad ∈ lw_tbl := sb2 (q := (⟨"PostRoundersModel", "bad", "(I)I"⟩, 14)) (List.mem_of_getElem? (i := 12) rfl)
set_option maxRecDepth 20000 in
theorem wl_4_53 : Cond.instanceMethod yX6_bad ∈ lw_tbl := tb4 (List.mem_of_getElem? (i := 53) rfl)
set_option maxRecDepth 20000 in
theorem wl_4_51 : Cond.methodLink RX6 89 yX6_bad ∈ lw_tbl := tb4 (List.mem_of_getElem? (i := 51) rfl)
set_option maxRecDepth 20000 in
theorem wl_4_50 : Cond.code yX6_in cX6_in 6 (some .boolean) ∈ lw_tbl := tb4 (List.mem_of_getElem? (i := 50) rfl)
set_option maxRecDepth 20000 in
theorem wl_4_49 : Cond.static yX6_in ∈ lw_tbl := tb4 (List.mem_of_getElem? (i := 49) rfl)
set_option maxRecDepth 20000 in
theorem wl_4_48 : Cond.methodLink RX6 47 yX6_in ∈ lw_tbl := tb4 (List.mem_of_getElem? (i := 48) rfl)
set_option maxRecDepth 20000 in
theorem wl_4_47 : Cond.constantLong RX6 87 (5) ∈ lw_tbl := tb4 (List.mem_of_getElem? (i := 47) rfl)
set_option maxRecDepth 20000 in
theorem wl_4_45 : Cond.selects RX6 yX6_field yX6_field ∈ lw_tbl := tb4 (List.mem_of_getElem? (i := 45) rfl)
set_option maxRecDepth 20000 in
theorem wl_4_44 : Cond.instanceMethod yX6_field ∈ lw_tbl := tb4 (List.mem_of_getElem? (i := 44) rfl)
set_option maxRecDepth 20000 in
theorem wl_4_43 : Cond.methodLink RL 17 yX6_field ∈ lw_tbl := tb4 (List.mem_of_getElem? (i := 43) rfl)
set_option maxRecDepth 20000 in
theorem wl_2_5 : Cond.code yX5_bowler cX5_bowler 3 (some .int) ∈ lw_tbl := tb2 (List.mem_of_getElem? (i := 5) rfl)
set_option maxRecDepth 20000 in
theorem wl_2_6 : Cond.methodLink RX5 92 yX4_empty ∈ lw_tbl := tb2 (List.mem_of_getElem? (i := 6) rfl)
set_option maxRecDepth 20000 in
theorem wl_1_105 : Cond.fieldLink RX5 88 "PostRounders$Field" "past" "LPostRounders$Rows;" ∈ lw_tbl := tb1 (List.mem_of_getElem? (i := 105) rfl)
set_option maxRecDepth 20000 in
theorem wl_1_36 : Cond.fieldLink RX5 85 "PostRounders$Play" "bowler" "I" ∈ lw_tbl := tb1 (List.mem_of_getElem? (i := 36) rfl)
set_option maxRecDepth 20000 in
theorem wl_2_4 : Cond.selects RX5 yX5_bowler yX5_bowler ∈ lw_tbl := tb2 (List.mem_of_getElem? (i := 4) rfl)
set_option maxRecDepth 20000 in
theorem wl_2_3 : Cond.instanceMethod yX5_bowler ∈ lw_tbl := tb2 (List.mem_of_getElem? (i := 3) rfl)
set_option maxRecDepth 20000 in
theorem wl_2_2 : Cond.methodLink RL 18 yX5_bowler ∈ lw_tbl := tb2 (List.mem_of_getElem? (i := 2) rfl)
set_option maxRecDepth 20000 in
theorem wl_4_58 : Cond.code yX6_bowler cX6_bowler 3 (some .int) ∈ lw_tbl := tb4 (List.mem_of_getElem? (i := 58) rfl)
set_option maxRecDepth 20000 in
theorem wl_4_57 : Cond.selects RX6 yX6_bowler yX6_bowler ∈ lw_tbl := tb4 (List.mem_of_getElem? (i := 57) rfl)
set_option maxRecDepth 20000 in
theorem wl_4_56 : Cond.instanceMethod yX6_bowler ∈ lw_tbl := tb4 (List.mem_of_getElem? (i := 56) rfl)
set_option maxRecDepth 20000 in
theorem wl_4_55 : Cond.methodLink RL 21 yX6_bowler ∈ lw_tbl := tb4 (List.mem_of_getElem? (i := 55) rfl)
set_option maxRecDepth 20000 in
theorem wl_2_10 : Cond.code yX5_batter cX5_batter 3 (some .int) ∈ lw_tbl := tb2 (List.mem_of_getElem? (i := 10) rfl)
set_option maxRecDepth 20000 in
theorem wl_2_12 : Cond.instanceMethod yX2_join ∈ lw_tbl := tb2 (List.mem_of_getElem? (i := 12) rfl)
set_option maxRecDepth 20000 in
theorem wl_2_11 : Cond.methodLink RX5 101 yX2_join ∈ lw_tbl := tb2 (List.mem_of_getElem? (i := 11) rfl)
set_option maxRecDepth 20000 in
theorem wl_2_14 : Cond.code yX2_join cX2_join 4 (some .int) ∈ lw_tbl := tb2 (List.mem_of_getElem? (i := 14) rfl)
set_option maxRecDepth 20000 in
theorem wl_2_13 : Cond.selects RX2 yX2_join yX2_join ∈ lw_tbl := tb2 (List.mem_of_getElem? (i := 13) rfl)
set_option maxRecDepth 20000 in
theorem wl_2_9 : Cond.selects RX5 yX5_batter yX5_batter ∈ lw_tbl := tb2 (List.mem_of_getElem? (i := 9) rfl)
set_option maxRecDepth 20000 in
theorem wl_2_8 : Cond.instanceMethod yX5_batter ∈ lw_tbl := tb2 (List.mem_of_getElem? (i := 8) rfl)
set_option maxRecDepth 20000 in
theorem wl_2_7 : Cond.methodLink RL 22 yX5_batter ∈ lw_tbl := tb2 (List.mem_of_getElem? (i := 7) rfl)
set_option maxRecDepth 20000 in
theorem wl_4_62 : Cond.code yX6_batter cX6_batter 3 (some .int) ∈ lw_tbl := tb4 (List.mem_of_getElem? (i := 62) rfl)
set_option maxRecDepth 20000 in
theorem wl_4_74 : Cond.code yX6_isDone cX6_isDone 2 (some .boolean) ∈ lw_tbl := tb4 (List.mem_of_getElem? (i := 74) rfl)
set_option maxRecDepth 20000 in
theorem ws_2_15 : Cond.selects RX6 yX6_isDone yX6_isDone ∈ lw_tbl := sb2 (q := (⟨"PostRoundersModel", "isDone", "(I)Z"⟩, 14)) (List.mem_of_getElem? (i := 15) rfl)
set_option maxRecDepth 20000 in
theorem wl_4_73 : Cond.instanceMethod yX6_isDone ∈ lw_tbl := tb4 (List.mem_of_getElem? (i := 73) rfl)
set_option maxRecDepth 20000 in
theorem wl_4_71 : Cond.methodLink RX6 83 yX6_isDone ∈ lw_tbl := tb4 (List.mem_of_getElem? (i := 71) rfl)
set_option maxRecDepth 20000 in
theorem wl_4_70 : Cond.code yX6_addsBatter cX6_addsBatter 5 none ∈ lw_tbl := tb4 (List.mem_of_getElem? (i := 70) rfl)
set_option maxRecDepth 20000 in
theorem ws_2_14 : Cond.selects RX6 yX6_addsBatter yX6_addsBatter ∈ lw_tbl := sb2 (q := (⟨"PostRoundersModel", "addsBatter", "(III)V"⟩, 14)) (List.mem_of_getElem? (i := 14) rfl)
set_option maxRecDepth 20000 in
theorem wl_4_69 : Cond.instanceMethod yX6_addsBatter ∈ lw_tbl := tb4 (List.mem_of_getElem? (i := 69) rfl)
set_option maxRecDepth 20000 in
theorem wl_4_67 : Cond.methodLink RX6 96 yX6_addsBatter ∈ lw_tbl := tb4 (List.mem_of_getElem? (i := 67) rfl)
set_option maxRecDepth 20000 in
theorem wl_4_66 : Cond.code yX6_full cX6_full 1 (some .int) ∈ lw_tbl := tb4 (List.mem_of_getElem? (i := 66) rfl)
set_option maxRecDepth 20000 in
theorem ws_2_13 : Cond.selects RX6 yX6_full yX6_full ∈ lw_tbl := sb2 (q := (⟨"PostRoundersModel", "full", "()I"⟩, 14)) (List.mem_of_getElem? (i := 13) rfl)
set_option maxRecDepth 20000 in
theorem wl_4_65 : Cond.instanceMethod yX6_full ∈ lw_tbl := tb4 (List.mem_of_getElem? (i := 65) rfl)
set_option maxRecDepth 20000 in
theorem wl_4_63 : Cond.methodLink RX6 92 yX6_full ∈ lw_tbl := tb4 (List.mem_of_getElem? (i := 63) rfl)
set_option maxRecDepth 20000 in
theorem wl_4_61 : Cond.selects RX6 yX6_batter yX6_batter ∈ lw_tbl := tb4 (List.mem_of_getElem? (i := 61) rfl)
set_option maxRecDepth 20000 in
theorem wl_4_60 : Cond.instanceMethod yX6_batter ∈ lw_tbl := tb4 (List.mem_of_getElem? (i := 60) rfl)
set_option maxRecDepth 20000 in
theorem wl_4_59 : Cond.methodLink RL 26 yX6_batter ∈ lw_tbl := tb4 (List.mem_of_getElem? (i := 59) rfl)
set_option maxRecDepth 20000 in
theorem wl_2_18 : Cond.code yX5_type cX5_type 2 (some .int) ∈ lw_tbl := tb2 (List.mem_of_getElem? (i := 18) rfl)
set_option maxRecDepth 20000 in
theorem wl_1_176 : Cond.fieldLink RX5 105 "PostRounders" "textLength" "I" ∈ lw_tbl := tb1 (List.mem_of_getElem? (i := 176) rfl)
set_option maxRecDepth 20000 in
theorem wl_2_17 : Cond.selects RX5 yX5_type yX5_type ∈ lw_tbl := tb2 (List.mem_of_getElem? (i := 17) rfl)
set_option maxRecDepth 20000 in
theorem wl_2_16 : Cond.instanceMethod yX5_type ∈ lw_tbl := tb2 (List.mem_of_getElem? (i := 16) rfl)
set_option maxRecDepth 20000 in
theorem wl_2_15 : Cond.methodLink RL 27 yX5_type ∈ lw_tbl := tb2 (List.mem_of_getElem? (i := 15) rfl)
set_option maxRecDepth 20000 in
theorem wl_4_78 : Cond.code yX6_type cX6_type 2 (some .int) ∈ lw_tbl := tb4 (List.mem_of_getElem? (i := 78) rfl)
set_option maxRecDepth 20000 in
theorem wl_4_2 : Cond.fieldLink RX6 102 "PostRoundersModel" "texted" "I" ∈ lw_tbl := tb4 (List.mem_of_getElem? (i := 2) rfl)
set_option maxRecDepth 20000 in
theorem wl_4_79 : Cond.constantLong RX6 100 (127) ∈ lw_tbl := tb4 (List.mem_of_getElem? (i := 79) rfl)
set_option maxRecDepth 20000 in
theorem wl_4_77 : Cond.selects RX6 yX6_type yX6_type ∈ lw_tbl := tb4 (List.mem_of_getElem? (i := 77) rfl)
set_option maxRecDepth 20000 in
theorem wl_4_76 : Cond.instanceMethod yX6_type ∈ lw_tbl := tb4 (List.mem_of_getElem? (i := 76) rfl)
set_option maxRecDepth 20000 in
theorem wl_4_75 : Cond.methodLink RL 30 yX6_type ∈ lw_tbl := tb4 (List.mem_of_getElem? (i := 75) rfl)
set_option maxRecDepth 20000 in
theorem wl_2_22 : Cond.code yX5_clear cX5_clear 2 (some .int) ∈ lw_tbl := tb2 (List.mem_of_getElem? (i := 22) rfl)
set_option maxRecDepth 20000 in
theorem wl_2_21 : Cond.selects RX5 yX5_clear yX5_clear ∈ lw_tbl := tb2 (List.mem_of_getElem? (i := 21) rfl)
set_option maxRecDepth 20000 in
theorem wl_2_20 : Cond.instanceMethod yX5_clear ∈ lw_tbl := tb2 (List.mem_of_getElem? (i := 20) rfl)
set_option maxRecDepth 20000 in
theorem wl_2_19 : Cond.methodLink RL 31 yX5_clear ∈ lw_tbl := tb2 (List.mem_of_getElem? (i := 19) rfl)
set_option maxRecDepth 20000 in
theorem wl_4_83 : Cond.code yX6_clear cX6_clear 2 (some .int) ∈ lw_tbl := tb4 (List.mem_of_getElem? (i := 83) rfl)
set_option maxRecDepth 20000 in
theorem wl_4_82 : Cond.selects RX6 yX6_clear yX6_clear ∈ lw_tbl := tb4 (List.mem_of_getElem? (i := 82) rfl)
set_option maxRecDepth 20000 in
theorem wl_4_81 : Cond.instanceMethod yX6_clear ∈ lw_tbl := tb4 (List.mem_of_getElem? (i := 81) rfl)
set_option maxRecDepth 20000 in
theorem wl_4_80 : Cond.methodLink RL 35 yX6_clear ∈ lw_tbl := tb4 (List.mem_of_getElem? (i := 80) rfl)
set_option maxRecDepth 20000 in
theorem wl_2_26 : Cond.code yX5_read cX5_read 2 (some .int) ∈ lw_tbl := tb2 (List.mem_of_getElem? (i := 26) rfl)
set_option maxRecDepth 20000 in
theorem wl_2_34 : Cond.methodLink RX3 35 yX2_begin ∈ lw_tbl := tb2 (List.mem_of_getElem? (i := 34) rfl)
set_option maxRecDepth 20000 in
theorem wl_1_132 : Cond.fieldLink RX3 52 "PostRounders$Reader" "token" "I" ∈ lw_tbl := tb1 (List.mem_of_getElem? (i := 132) rfl)
set_option maxRecDepth 20000 in
theorem wl_1_131 : Cond.fieldLink RX3 49 "PostRounders$Reader" "start" "I" ∈ lw_tbl := tb1 (List.mem_of_getElem? (i := 131) rfl)
set_option maxRecDepth 20000 in
theorem wl_1_130 : Cond.fieldLink RX3 32 "PostRounders$Reader" "behind" "I" ∈ lw_tbl := tb1 (List.mem_of_getElem? (i := 130) rfl)
set_option maxRecDepth 20000 in
theorem wl_1_129 : Cond.fieldLink RX3 28 "PostRounders$Reader" "length" "I" ∈ lw_tbl := tb1 (List.mem_of_getElem? (i := 129) rfl)
set_option maxRecDepth 20000 in
theorem wl_2_33 : Cond.code Lib.Math.min.name Lib.Math.min.code 2 (some .int) ∈ lw_tbl := tb2 (List.mem_of_getElem? (i := 33) rfl)
set_option maxRecDepth 20000 in
theorem wl_2_32 : Cond.static Lib.Math.min.name ∈ lw_tbl := tb2 (List.mem_of_getElem? (i := 32) rfl)
set_option maxRecDepth 20000 in
theorem wl_2_31 : Cond.methodLink RX3 22 Lib.Math.min.name ∈ lw_tbl := tb2 (List.mem_of_getElem? (i := 31) rfl)
set_option maxRecDepth 20000 in
theorem wl_2_30 : Cond.code yX3_readText cX3_readText 4 (some .int) ∈ lw_tbl := tb2 (List.mem_of_getElem? (i := 30) rfl)
set_option maxRecDepth 20000 in
theorem wl_2_29 : Cond.selects RX3 yX3_readText yX3_readText ∈ lw_tbl := tb2 (List.mem_of_getElem? (i := 29) rfl)
set_option maxRecDepth 20000 in
theorem wl_2_28 : Cond.instanceMethod yX3_readText ∈ lw_tbl := tb2 (List.mem_of_getElem? (i := 28) rfl)
set_option maxRecDepth 20000 in
theorem wl_2_27 : Cond.methodLink RX5 108 yX3_readText ∈ lw_tbl := tb2 (List.mem_of_getElem? (i := 27) rfl)
set_option maxRecDepth 20000 in
theorem wl_1_127 : Cond.fieldLink RX5 112 "PostRounders$Reader" "play" "LPostRounders$Play;" ∈ lw_tbl := tb1 (List.mem_of_getElem? (i := 127) rfl)
set_option maxRecDepth 20000 in
theorem wl_2_51 : Cond.static yX3_isFigure ∈ lw_tbl := tb2 (List.mem_of_getElem? (i := 51) rfl)
set_option maxRecDepth 20000 in
theorem wl_2_50 : Cond.methodLink RX3 119 yX3_isFigure ∈ lw_tbl := tb2 (List.mem_of_getElem? (i := 50) rfl)
set_option maxRecDepth 20000 in
theorem wl_2_49 : Cond.code yX3_passLetters cX3_passLetters 1 none ∈ lw_tbl := tb2 (List.mem_of_getElem? (i := 49) rfl)
set_option maxRecDepth 20000 in
theorem ws_1_3 : Cond.selects RX3 yX3_passLetters yX3_passLetters ∈ lw_tbl := sb1 (q := (⟨"PostRounders$Reader", "passLetters", "()V"⟩, 7)) (List.mem_of_getElem? (i := 3) rfl)
set_option maxRecDepth 20000 in
theorem wl_2_48 : Cond.instanceMethod yX3_passLetters ∈ lw_tbl := tb2 (List.mem_of_getElem? (i := 48) rfl)
set_option maxRecDepth 20000 in
theorem wl_2_46 : Cond.methodLink RX3 116 yX3_passLetters ∈ lw_tbl := tb2 (List.mem_of_getElem? (i := 46) rfl)
set_option maxRecDepth 20000 in
theorem wl_2_45 : Cond.code yX3_isLetter cX3_isLetter 1 (some .boolean) ∈ lw_tbl := tb2 (List.mem_of_getElem? (i := 45) rfl)
set_option maxRecDepth 20000 in
theorem wl_2_44 : Cond.static yX3_isLetter ∈ lw_tbl := tb2 (List.mem_of_getElem? (i := 44) rfl)
set_option maxRecDepth 20000 in
theorem wl_2_43 : Cond.methodLink RX3 112 yX3_isLetter ∈ lw_tbl := tb2 (List.mem_of_getElem? (i := 43) rfl)
set_option maxRecDepth 20000 in
theorem wl_2_42 : Cond.code yX3_byteAt cX3_byteAt 2 (some .int) ∈ lw_tbl := tb2 (List.mem_of_getElem? (i := 42) rfl)
set_option maxRecDepth 20000 in
theorem ws_1_2 : Cond.selects RX3 yX3_byteAt yX3_byteAt ∈ lw_tbl := sb1 (q := (⟨"PostRounders$Reader", "byteAt", "(I)I"⟩, 7)) (List.mem_of_getElem? (i := 2) rfl)
set_option maxRecDepth 20000 in
theorem wl_2_41 : Cond.instanceMethod yX3_byteAt ∈ lw_tbl := tb2 (List.mem_of_getElem? (i := 41) rfl)
set_option maxRecDepth 20000 in
theorem wl_2_39 : Cond.methodLink RX3 105 yX3_byteAt ∈ lw_tbl := tb2 (List.mem_of_getElem? (i := 39) rfl)
set_option maxRecDepth 20000 in
theorem wl_2_38 : Cond.code yX3_step cX3_step 2 none ∈ lw_tbl := tb2 (List.mem_of_getElem? (i := 38) rfl)
set_option maxRecDepth 20000 in
theorem ws_1_1 : Cond.selects RX3 yX3_step yX3_step ∈ lw_tbl := sb1 (q := (⟨"PostRounders$Reader", "step", "()V"⟩, 7)) (List.mem_of_getElem? (i := 1) rfl)
set_option maxRecDepth 20000 in
theorem wl_2_37 : Cond.instanceMethod yX3_step ∈ lw_tbl := tb2 (List.mem_of_getElem? (i := 37) rfl)
set_option maxRecDepth 20000 in
theorem wl_2_35 : Cond.methodLink RX3 39 yX3_step ∈ lw_tbl := tb2 (List.mem_of_getElem? (i := 35) rfl)
set_option maxRecDepth 20000 in
theorem wl_2_72 : Cond.selects RJ0 yJ0_coder_7d493 yJ0_coder_7d493 ∈ lw_tbl := tb2 (List.mem_of_getElem? (i := 72) rfl)
set_option maxRecDepth 20000 in
theorem wl_2_71 : Cond.instanceMethod yJ0_coder_7d493 ∈ lw_tbl := tb2 (List.mem_of_getElem? (i := 71) rfl)
set_option maxRecDepth 20000 in
theorem wl_2_70 : Cond.methodLink RJ0 335 yJ0_coder_7d493 ∈ lw_tbl := tb2 (List.mem_of_getElem? (i := 70) rfl)
set_option maxRecDepth 20000 in
theorem wl_5_148 : Cond.fieldLink RJ0 9 "java/lang/String" "value" "[B" ∈ lw_tbl := tb5 (List.mem_of_getElem? (i := 148) rfl)
set_option maxRecDepth 20000 in
theorem wl_2_69 : Cond.code yJ0_length_8abf5 cJ0_length_8abf5 1 (some .int) ∈ lw_tbl := tb2 (List.mem_of_getElem? (i := 69) rfl)
set_option maxRecDepth 20000 in
theorem wl_1_10 : Cond.initialized RJ0 ∈ lw_tbl := tb1 (List.mem_of_getElem? (i := 10) rfl)
set_option maxRecDepth 20000 in
theorem wl_2_68 : Cond.selects RJ0 yJ0_length_8abf5 yJ0_length_8abf5 ∈ lw_tbl := tb2 (List.mem_of_getElem? (i := 68) rfl)
set_option maxRecDepth 20000 in
theorem wl_2_67 : Cond.instanceMethod yJ0_length_8abf5 ∈ lw_tbl := tb2 (List.mem_of_getElem? (i := 67) rfl)
set_option maxRecDepth 20000 in
theorem wl_2_66 : Cond.methodLink RX3 100 yJ0_length_8abf5 ∈ lw_tbl := tb2 (List.mem_of_getElem? (i := 66) rfl)
set_option maxRecDepth 20000 in
theorem wl_2_65 : Cond.code yX3_takeWord cX3_takeWord 3 (some .boolean) ∈ lw_tbl := tb2 (List.mem_of_getElem? (i := 65) rfl)
set_option maxRecDepth 20000 in
theorem ws_1_6 : Cond.selects RX3 yX3_takeWord yX3_takeWord ∈ lw_tbl := sb1 (q := (⟨"PostRounders$Reader", "takeWord", "(Ljava/lang/String;)Z"⟩, 7)) (List.mem_of_getElem? (i := 6) rfl)
set_option maxRecDepth 20000 in
theorem wl_2_64 : Cond.instanceMethod yX3_takeWord ∈ lw_tbl := tb2 (List.mem_of_getElem? (i := 64) rfl)
set_option maxRecDepth 20000 in
theorem wl_2_62 : Cond.methodLink RX3 60 yX3_takeWord ∈ lw_tbl := tb2 (List.mem_of_getElem? (i := 62) rfl)
set_option maxRecDepth 20000 in
theorem wl_1_37 : Cond.fieldLink RX3 71 "PostRounders$Play" "bowler" "I" ∈ lw_tbl := tb1 (List.mem_of_getElem? (i := 37) rfl)
set_option maxRecDepth 20000 in
theorem wl_2_60 : Cond.code yX3_readBowler cX3_readBowler 1 (some .boolean) ∈ lw_tbl := tb2 (List.mem_of_getElem? (i := 60) rfl)
set_option maxRecDepth 20000 in
theorem ws_1_5 : Cond.selects RX3 yX3_readBowler yX3_readBowler ∈ lw_tbl := sb1 (q := (⟨"PostRounders$Reader", "readBowler", "()Z"⟩, 7)) (List.mem_of_getElem? (i := 5) rfl)
set_option maxRecDepth 20000 in
theorem wl_2_59 : Cond.instanceMethod yX3_readBowler ∈ lw_tbl := tb2 (List.mem_of_getElem? (i := 59) rfl)
set_option maxRecDepth 20000 in
theorem wl_2_57 : Cond.methodLink RX3 42 yX3_readBowler ∈ lw_tbl := tb2 (List.mem_of_getElem? (i := 57) rfl)
set_option maxRecDepth 20000 in
theorem wl_1_133 : Cond.fieldLink RX3 68 "PostRounders$Reader" "value" "I" ∈ lw_tbl := tb1 (List.mem_of_getElem? (i := 133) rfl)
set_option maxRecDepth 20000 in
theorem wl_2_56 : Cond.code yX3_passFigures cX3_passFigures 1 none ∈ lw_tbl := tb2 (List.mem_of_getElem? (i := 56) rfl)
set_option maxRecDepth 20000 in
theorem ws_1_4 : Cond.selects RX3 yX3_passFigures yX3_passFigures ∈ lw_tbl := sb1 (q := (⟨"PostRounders$Reader", "passFigures", "()V"⟩, 7)) (List.mem_of_getElem? (i := 4) rfl)
set_option maxRecDepth 20000 in
theorem wl_2_55 : Cond.instanceMethod yX3_passFigures ∈ lw_tbl := tb2 (List.mem_of_getElem? (i := 55) rfl)
set_option maxRecDepth 20000 in
theorem wl_2_53 : Cond.methodLink RX3 122 yX3_passFigures ∈ lw_tbl := tb2 (List.mem_of_getElem? (i := 53) rfl)
set_option maxRecDepth 20000 in
theorem wl_2_52 : Cond.code yX3_isFigure cX3_isFigure 1 (some .boolean) ∈ lw_tbl := tb2 (List.mem_of_getElem? (i := 52) rfl)
set_option maxRecDepth 20000 in
theorem wl_2_95 : Cond.methodLink RJ0 498 yJ2_charAt_3b067 ∈ lw_tbl := tb2 (List.mem_of_getElem? (i := 95) rfl)
set_option maxRecDepth 20000 in
theorem wl_2_94 : Cond.code yJ3_checkIndex_8e157 cJ3_checkIndex_8e157 3 (some .int) ∈ lw_tbl := tb2 (List.mem_of_getElem? (i := 94) rfl)
set_option maxRecDepth 20000 in
theorem wl_1_12 : Cond.initialized RJ3 ∈ lw_tbl := tb1 (List.mem_of_getElem? (i := 12) rfl)
set_option maxRecDepth 20000 in
theorem wl_2_93 : Cond.static yJ3_checkIndex_8e157 ∈ lw_tbl := tb2 (List.mem_of_getElem? (i := 93) rfl)
set_option maxRecDepth 20000 in
theorem wl_2_92 : Cond.methodLink RJ0 1059 yJ3_checkIndex_8e157 ∈ lw_tbl := tb2 (List.mem_of_getElem? (i := 92) rfl)
set_option maxRecDepth 20000 in
theorem wl_2_90 : Cond.fieldLink RJ0 1053 "jdk/internal/util/Preconditions" "SIOOBE_FORMATTER" "Ljava/util/function/BiFunction;" ∈ lw_tbl := tb2 (List.mem_of_getElem? (i := 90) rfl)
set_option maxRecDepth 20000 in
theorem wl_2_89 : Cond.code yJ0_checkIndex_df160 cJ0_checkIndex_df160 2 none ∈ lw_tbl := tb2 (List.mem_of_getElem? (i := 89) rfl)
set_option maxRecDepth 20000 in
theorem wl_2_88 : Cond.static yJ0_checkIndex_df160 ∈ lw_tbl := tb2 (List.mem_of_getElem? (i := 88) rfl)
set_option maxRecDepth 20000 in
theorem wl_2_87 : Cond.methodLink RJ1 9 yJ0_checkIndex_df160 ∈ lw_tbl := tb2 (List.mem_of_getElem? (i := 87) rfl)
set_option maxRecDepth 20000 in
theorem wl_2_86 : Cond.code yJ1_charAt_3b067 cJ1_charAt_3b067 2 (some .char) ∈ lw_tbl := tb2 (List.mem_of_getElem? (i := 86) rfl)
set_option maxRecDepth 20000 in
theorem wl_1_11 : Cond.initialized RJ1 ∈ lw_tbl := tb1 (List.mem_of_getElem? (i := 11) rfl)
set_option maxRecDepth 20000 in
theorem wl_2_85 : Cond.static yJ1_charAt_3b067 ∈ lw_tbl := tb2 (List.mem_of_getElem? (i := 85) rfl)
set_option maxRecDepth 20000 in
theorem wl_2_84 : Cond.methodLink RJ0 495 yJ1_charAt_3b067 ∈ lw_tbl := tb2 (List.mem_of_getElem? (i := 84) rfl)
set_option maxRecDepth 20000 in
theorem wl_2_83 : Cond.code yJ0_isLatin1_aae02 cJ0_isLatin1_aae02 1 (some .boolean) ∈ lw_tbl := tb2 (List.mem_of_getElem? (i := 83) rfl)
set_option maxRecDepth 20000 in
theorem wl_2_82 : Cond.selects RJ0 yJ0_isLatin1_aae02 yJ0_isLatin1_aae02 ∈ lw_tbl := tb2 (List.mem_of_getElem? (i := 82) rfl)
set_option maxRecDepth 20000 in
theorem wl_2_81 : Cond.instanceMethod yJ0_isLatin1_aae02 ∈ lw_tbl := tb2 (List.mem_of_getElem? (i := 81) rfl)
set_option maxRecDepth 20000 in
theorem wl_2_80 : Cond.methodLink RJ0 492 yJ0_isLatin1_aae02 ∈ lw_tbl := tb2 (List.mem_of_getElem? (i := 80) rfl)
set_option maxRecDepth 20000 in
theorem wl_2_79 : Cond.code yJ0_charAt_5068e cJ0_charAt_5068e 2 (some .char) ∈ lw_tbl := tb2 (List.mem_of_getElem? (i := 79) rfl)
set_option maxRecDepth 20000 in
theorem wl_2_78 : Cond.selects RJ0 yJ0_charAt_5068e yJ0_charAt_5068e ∈ lw_tbl := tb2 (List.mem_of_getElem? (i := 78) rfl)
set_option maxRecDepth 20000 in
theorem wl_2_77 : Cond.instanceMethod yJ0_charAt_5068e ∈ lw_tbl := tb2 (List.mem_of_getElem? (i := 77) rfl)
set_option maxRecDepth 20000 in
theorem wl_2_76 : Cond.methodLink RX3 108 yJ0_charAt_5068e ∈ lw_tbl := tb2 (List.mem_of_getElem? (i := 76) rfl)
set_option maxRecDepth 20000 in
theorem wl_5_149 : Cond.fieldLink RJ0 15 "java/lang/String" "coder" "B" ∈ lw_tbl := tb5 (List.mem_of_getElem? (i := 149) rfl)
set_option maxRecDepth 20000 in
theorem wl_2_74 : Cond.fieldLink RJ0 38 "java/lang/String" "COMPACT_STRINGS" "Z" ∈ lw_tbl := tb2 (List.mem_of_getElem? (i := 74) rfl)
set_option maxRecDepth 20000 in
theorem wl_2_73 : Cond.code yJ0_coder_7d493 cJ0_coder_7d493 1 (some .byte) ∈ lw_tbl := tb2 (List.mem_of_getElem? (i := 73) rfl)
set_option maxRecDepth 20000 in
theorem wl_2_119 : Cond.methodLink RX3 46 yX3_takeStop ∈ lw_tbl := tb2 (List.mem_of_getElem? (i := 119) rfl)
set_option maxRecDepth 20000 in
theorem wl_2_117 : Cond.code yX3_isNumber cX3_isNumber 3 (some .boolean) ∈ lw_tbl := tb2 (List.mem_of_getElem? (i := 117) rfl)
set_option maxRecDepth 20000 in
theorem ws_1_7 : Cond.selects RX3 yX3_isNumber yX3_isNumber ∈ lw_tbl := sb1 (q := (⟨"PostRounders$Reader", "isNumber", "(II)Z"⟩, 7)) (List.mem_of_getElem? (i := 7) rfl)
set_option maxRecDepth 20000 in
theorem wl_2_116 : Cond.instanceMethod yX3_isNumber ∈ lw_tbl := tb2 (List.mem_of_getElem? (i := 116) rfl)
set_option maxRecDepth 20000 in
theorem wl_2_114 : Cond.methodLink RX3 64 yX3_isNumber ∈ lw_tbl := tb2 (List.mem_of_getElem? (i := 114) rfl)
set_option maxRecDepth 20000 in
theorem wl_2_112 : Cond.fieldLink RJ2 63 "java/lang/StringUTF16" "LO_BYTE_SHIFT" "I" ∈ lw_tbl := tb2 (List.mem_of_getElem? (i := 112) rfl)
set_option maxRecDepth 20000 in
theorem wl_2_110 : Cond.fieldLink RJ2 59 "java/lang/StringUTF16" "HI_BYTE_SHIFT" "I" ∈ lw_tbl := tb2 (List.mem_of_getElem? (i := 110) rfl)
set_option maxRecDepth 20000 in
theorem wl_2_108 : Cond.fieldLink RJ2 44 "java/lang/StringUTF16" "$assertionsDisabled" "Z" ∈ lw_tbl := tb2 (List.mem_of_getElem? (i := 108) rfl)
set_option maxRecDepth 20000 in
theorem wl_2_107 : Cond.code yJ2_getChar_3b067 cJ2_getChar_3b067 2 (some .char) ∈ lw_tbl := tb2 (List.mem_of_getElem? (i := 107) rfl)
set_option maxRecDepth 20000 in
theorem wl_2_106 : Cond.static yJ2_getChar_3b067 ∈ lw_tbl := tb2 (List.mem_of_getElem? (i := 106) rfl)
set_option maxRecDepth 20000 in
theorem wl_2_105 : Cond.methodLink RJ2 71 yJ2_getChar_3b067 ∈ lw_tbl := tb2 (List.mem_of_getElem? (i := 105) rfl)
set_option maxRecDepth 20000 in
theorem wl_2_104 : Cond.methodLink RJ2 414 yJ0_checkIndex_df160 ∈ lw_tbl := tb2 (List.mem_of_getElem? (i := 104) rfl)
set_option maxRecDepth 20000 in
theorem wl_2_103 : Cond.code yJ2_length_9d52b cJ2_length_9d52b 1 (some .int) ∈ lw_tbl := tb2 (List.mem_of_getElem? (i := 103) rfl)
set_option maxRecDepth 20000 in
theorem wl_2_102 : Cond.static yJ2_length_9d52b ∈ lw_tbl := tb2 (List.mem_of_getElem? (i := 102) rfl)
set_option maxRecDepth 20000 in
theorem wl_2_101 : Cond.methodLink RJ2 48 yJ2_length_9d52b ∈ lw_tbl := tb2 (List.mem_of_getElem? (i := 101) rfl)
set_option maxRecDepth 20000 in
theorem wl_2_100 : Cond.code yJ2_checkIndex_2214a cJ2_checkIndex_2214a 2 none ∈ lw_tbl := tb2 (List.mem_of_getElem? (i := 100) rfl)
set_option maxRecDepth 20000 in
theorem wl_2_99 : Cond.static yJ2_checkIndex_2214a ∈ lw_tbl := tb2 (List.mem_of_getElem? (i := 99) rfl)
set_option maxRecDepth 20000 in
theorem wl_2_98 : Cond.methodLink RJ2 67 yJ2_checkIndex_2214a ∈ lw_tbl := tb2 (List.mem_of_getElem? (i := 98) rfl)
set_option maxRecDepth 20000 in
theorem wl_2_97 : Cond.code yJ2_charAt_3b067 cJ2_charAt_3b067 2 (some .char) ∈ lw_tbl := tb2 (List.mem_of_getElem? (i := 97) rfl)
set_option maxRecDepth 20000 in
theorem wl_1_13 : Cond.initialized RJ2 ∈ lw_tbl := tb1 (List.mem_of_getElem? (i := 13) rfl)
set_option maxRecDepth 20000 in
theorem wl_2_96 : Cond.static yJ2_charAt_3b067 ∈ lw_tbl := tb2 (List.mem_of_getElem? (i := 96) rfl)
set_option maxRecDepth 20000 in
theorem wl_2_138 : Cond.methodLink RX3 90 yX2_isDone ∈ lw_tbl := tb2 (List.mem_of_getElem? (i := 138) rfl)
set_option maxRecDepth 20000 in
theorem wl_2_137 : Cond.code yX3_readHits cX3_readHits 2 (some .boolean) ∈ lw_tbl := tb2 (List.mem_of_getElem? (i := 137) rfl)
set_option maxRecDepth 20000 in
theorem ws_1_11 : Cond.selects RX3 yX3_readHits yX3_readHits ∈ lw_tbl := sb1 (q := (⟨"PostRounders$Reader", "readHits", "()Z"⟩, 7)) (List.mem_of_getElem? (i := 11) rfl)
set_option maxRecDepth 20000 in
theorem wl_2_136 : Cond.instanceMethod yX3_readHits ∈ lw_tbl := tb2 (List.mem_of_getElem? (i := 136) rfl)
set_option maxRecDepth 20000 in
theorem wl_2_134 : Cond.methodLink RX3 84 yX3_readHits ∈ lw_tbl := tb2 (List.mem_of_getElem? (i := 134) rfl)
set_option maxRecDepth 20000 in
theorem wl_2_132 : Cond.methodLink RX3 87 yX2_join ∈ lw_tbl := tb2 (List.mem_of_getElem? (i := 132) rfl)
set_option maxRecDepth 20000 in
theorem wl_2_131 : Cond.code yX3_readBatter cX3_readBatter 2 (some .boolean) ∈ lw_tbl := tb2 (List.mem_of_getElem? (i := 131) rfl)
set_option maxRecDepth 20000 in
theorem ws_1_10 : Cond.selects RX3 yX3_readBatter yX3_readBatter ∈ lw_tbl := sb1 (q := (⟨"PostRounders$Reader", "readBatter", "()Z"⟩, 7)) (List.mem_of_getElem? (i := 10) rfl)
set_option maxRecDepth 20000 in
theorem wl_2_130 : Cond.instanceMethod yX3_readBatter ∈ lw_tbl := tb2 (List.mem_of_getElem? (i := 130) rfl)
set_option maxRecDepth 20000 in
theorem wl_2_128 : Cond.methodLink RX3 79 yX3_readBatter ∈ lw_tbl := tb2 (List.mem_of_getElem? (i := 128) rfl)
set_option maxRecDepth 20000 in
theorem wl_1_40 : Cond.fieldLink RX3 74 "PostRounders$Play" "size" "I" ∈ lw_tbl := tb1 (List.mem_of_getElem? (i := 40) rfl)
set_option maxRecDepth 20000 in
theorem wl_2_126 : Cond.code yX3_readItem cX3_readItem 1 (some .boolean) ∈ lw_tbl := tb2 (List.mem_of_getElem? (i := 126) rfl)
set_option maxRecDepth 20000 in
theorem ws_1_9 : Cond.selects RX3 yX3_readItem yX3_readItem ∈ lw_tbl := sb1 (q := (⟨"PostRounders$Reader", "readItem", "()Z"⟩, 7)) (List.mem_of_getElem? (i := 9) rfl)
set_option maxRecDepth 20000 in
theorem wl_2_125 : Cond.instanceMethod yX3_readItem ∈ lw_tbl := tb2 (List.mem_of_getElem? (i := 125) rfl)
set_option maxRecDepth 20000 in
theorem wl_2_123 : Cond.methodLink RX3 55 yX3_readItem ∈ lw_tbl := tb2 (List.mem_of_getElem? (i := 123) rfl)
set_option maxRecDepth 20000 in
theorem wl_2_122 : Cond.code yX3_takeStop cX3_takeStop 1 (some .boolean) ∈ lw_tbl := tb2 (List.mem_of_getElem? (i := 122) rfl)
set_option maxRecDepth 20000 in
theorem ws_1_8 : Cond.selects RX3 yX3_takeStop yX3_takeStop ∈ lw_tbl := sb1 (q := (⟨"PostRounders$Reader", "takeStop", "()Z"⟩, 7)) (List.mem_of_getElem? (i := 8) rfl)
set_option maxRecDepth 20000 in
theorem wl_2_121 : Cond.instanceMethod yX3_takeStop ∈ lw_tbl := tb2 (List.mem_of_getElem? (i := 121) rfl)
set_option maxRecDepth 20000 in
theorem wl_2_162 : Cond.code yX2_runBall cX2_runBall 3 (some .int) ∈ lw_tbl := tb2 (List.mem_of_getElem? (i := 162) rfl)
set_option maxRecDepth 20000 in
theorem wl_2_161 : Cond.selects RX2 yX2_runBall yX2_runBall ∈ lw_tbl := tb2 (List.mem_of_getElem? (i := 161) rfl)
set_option maxRecDepth 20000 in
theorem wl_2_160 : Cond.instanceMethod yX2_runBall ∈ lw_tbl := tb2 (List.mem_of_getElem? (i := 160) rfl)
set_option maxRecDepth 20000 in
theorem wl_2_159 : Cond.methodLink RX2 70 yX2_runBall ∈ lw_tbl := tb2 (List.mem_of_getElem? (i := 159) rfl)
set_option maxRecDepth 20000 in
theorem wl_2_158 : Cond.code yX5_postsRun cX5_postsRun 6 (some .int) ∈ lw_tbl := tb2 (List.mem_of_getElem? (i := 158) rfl)
set_option maxRecDepth 20000 in
theorem wl_2_157 : Cond.static yX5_postsRun ∈ lw_tbl := tb2 (List.mem_of_getElem? (i := 157) rfl)
set_option maxRecDepth 20000 in
theorem wl_2_155 : Cond.methodLink RX5 136 Lib.Math.min.name ∈ lw_tbl := tb2 (List.mem_of_getElem? (i := 155) rfl)
set_option maxRecDepth 20000 in
theorem wl_2_154 : Cond.methodLink RX5 168 Lib.Math.max.name ∈ lw_tbl := tb2 (List.mem_of_getElem? (i := 154) rfl)
set_option maxRecDepth 20000 in
theorem wl_2_153 : Cond.code yX5_hitWorth cX5_hitWorth 5 (some .int) ∈ lw_tbl := tb2 (List.mem_of_getElem? (i := 153) rfl)
set_option maxRecDepth 20000 in
theorem wl_2_152 : Cond.static yX5_hitWorth ∈ lw_tbl := tb2 (List.mem_of_getElem? (i := 152) rfl)
set_option maxRecDepth 20000 in
theorem wl_2_150 : Cond.methodLink RX2 59 yX2_isDone ∈ lw_tbl := tb2 (List.mem_of_getElem? (i := 150) rfl)
set_option maxRecDepth 20000 in
theorem wl_2_149 : Cond.code yX2_postsBy cX2_postsBy 3 (some .int) ∈ lw_tbl := tb2 (List.mem_of_getElem? (i := 149) rfl)
set_option maxRecDepth 20000 in
theorem wl_2_148 : Cond.selects RX2 yX2_postsBy yX2_postsBy ∈ lw_tbl := tb2 (List.mem_of_getElem? (i := 148) rfl)
set_option maxRecDepth 20000 in
theorem wl_2_147 : Cond.instanceMethod yX2_postsBy ∈ lw_tbl := tb2 (List.mem_of_getElem? (i := 147) rfl)
set_option maxRecDepth 20000 in
theorem wl_2_146 : Cond.methodLink RX2 66 yX2_postsBy ∈ lw_tbl := tb2 (List.mem_of_getElem? (i := 146) rfl)
set_option maxRecDepth 20000 in
theorem wl_2_145 : Cond.code yX2_ball cX2_ball 2 (some .int) ∈ lw_tbl := tb2 (List.mem_of_getElem? (i := 145) rfl)
set_option maxRecDepth 20000 in
theorem wl_2_144 : Cond.selects RX2 yX2_ball yX2_ball ∈ lw_tbl := tb2 (List.mem_of_getElem? (i := 144) rfl)
set_option maxRecDepth 20000 in
theorem wl_2_143 : Cond.instanceMethod yX2_ball ∈ lw_tbl := tb2 (List.mem_of_getElem? (i := 143) rfl)
set_option maxRecDepth 20000 in
theorem wl_2_142 : Cond.methodLink RX3 93 yX2_ball ∈ lw_tbl := tb2 (List.mem_of_getElem? (i := 142) rfl)
set_option maxRecDepth 20000 in
theorem wl_2_141 : Cond.code yX2_isDone cX2_isDone 1 (some .boolean) ∈ lw_tbl := tb2 (List.mem_of_getElem? (i := 141) rfl)
set_option maxRecDepth 20000 in
theorem wl_2_140 : Cond.selects RX2 yX2_isDone yX2_isDone ∈ lw_tbl := tb2 (List.mem_of_getElem? (i := 140) rfl)
set_option maxRecDepth 20000 in
theorem wl_2_139 : Cond.instanceMethod yX2_isDone ∈ lw_tbl := tb2 (List.mem_of_getElem? (i := 139) rfl)
set_option maxRecDepth 20000 in
theorem wl_2_171 : Cond.code yX2_passBat cX2_passBat 3 none ∈ lw_tbl := tb2 (List.mem_of_getElem? (i := 171) rfl)
set_option maxRecDepth 20000 in
theorem ws_1_13 : Cond.selects RX2 yX2_passBat yX2_passBat ∈ lw_tbl := sb1 (q := (⟨"PostRounders$Play", "passBat", "()V"⟩, 8)) (List.mem_of_getElem? (i := 13) rfl)
set_option maxRecDepth 20000 in
theorem wl_2_170 : Cond.instanceMethod yX2_passBat ∈ lw_tbl := tb2 (List.mem_of_getElem? (i := 170) rfl)
set_option maxRecDepth 20000 in
theorem wl_2_168 : Cond.methodLink RX2 76 yX2_passBat ∈ lw_tbl := tb2 (List.mem_of_getElem? (i := 168) rfl)
set_option maxRecDepth 20000 in
theorem wl_2_166 : Cond.code yX2_runAll cX2_runAll 4 (some .int) ∈ lw_tbl := tb2 (List.mem_of_getElem? (i := 166) rfl)
set_option maxRecDepth 20000 in
theorem ws_1_12 : Cond.selects RX2 yX2_runAll yX2_runAll ∈ lw_tbl := sb1 (q := (⟨"PostRounders$Play", "runAll", "(I)I"⟩, 8)) (List.mem_of_getElem? (i := 12) rfl)
set_option maxRecDepth 20000 in
theorem wl_2_165 : Cond.instanceMethod yX2_runAll ∈ lw_tbl := tb2 (List.mem_of_getElem? (i := 165) rfl)
set_option maxRecDepth 20000 in
theorem wl_2_163 : Cond.methodLink RX2 73 yX2_runAll ∈ lw_tbl := tb2 (List.mem_of_getElem? (i := 163) rfl)
set_option maxRecDepth 20000 in
theorem wl_1_14 : Cond.initialized "java/lang/System" ∈ lw_tbl := tb1 (List.mem_of_getElem? (i := 14) rfl)
set_option maxRecDepth 20000 in
theorem wl_2_177 : Cond.static arraycopyName ∈ lw_tbl := tb2 (List.mem_of_getElem? (i := 177) rfl)
set_option maxRecDepth 20000 in
theorem wl_2_178 : Cond.native arraycopyName ∈ lw_tbl := tb2 (List.mem_of_getElem? (i := 178) rfl)
set_option maxRecDepth 20000 in
theorem wl_2_176 : Cond.methodLink RX2 37 arraycopyName ∈ lw_tbl := tb2 (List.mem_of_getElem? (i := 176) rfl)
set_option maxRecDepth 20000 in
theorem wl_2_175 : Cond.code yX2_copy cX2_copy 2 none ∈ lw_tbl := tb2 (List.mem_of_getElem? (i := 175) rfl)
set_option maxRecDepth 20000 in
theorem wl_2_174 : Cond.selects RX2 yX2_copy yX2_copy ∈ lw_tbl := tb2 (List.mem_of_getElem? (i := 174) rfl)
set_option maxRecDepth 20000 in
theorem wl_2_173 : Cond.instanceMethod yX2_copy ∈ lw_tbl := tb2 (List.mem_of_getElem? (i := 173) rfl)
set_option maxRecDepth 20000 in
theorem wl_2_172 : Cond.methodLink RX5 113 yX2_copy ∈ lw_tbl := tb2 (List.mem_of_getElem? (i := 172) rfl)
set_option maxRecDepth 20000 in
theorem wl_2_25 : Cond.selects RX5 yX5_read yX5_read ∈ lw_tbl := tb2 (List.mem_of_getElem? (i := 25) rfl)
set_option maxRecDepth 20000 in
theorem wl_2_24 : Cond.instanceMethod yX5_read ∈ lw_tbl := tb2 (List.mem_of_getElem? (i := 24) rfl)
set_option maxRecDepth 20000 in
theorem wl_2_23 : Cond.methodLink RL 36 yX5_read ∈ lw_tbl := tb2 (List.mem_of_getElem? (i := 23) rfl)
set_option maxRecDepth 20000 in
theorem wl_4_87 : Cond.code yX6_read cX6_read 3 (some .int) ∈ lw_tbl := tb4 (List.mem_of_getElem? (i := 87) rfl)
set_option maxRecDepth 20000 in
theorem wl_4_102 : Cond.instanceMethod yX6_takesWord ∈ lw_tbl := tb4 (List.mem_of_getElem? (i := 102) rfl)
set_option maxRecDepth 20000 in
theorem wl_4_100 : Cond.methodLink RX6 149 yX6_takesWord ∈ lw_tbl := tb4 (List.mem_of_getElem? (i := 100) rfl)
set_option maxRecDepth 20000 in
theorem wl_4_99 : Cond.code yX6_readsItem cX6_readsItem 4 (some .boolean) ∈ lw_tbl := tb4 (List.mem_of_getElem? (i := 99) rfl)
set_option maxRecDepth 20000 in
theorem ws_3_2 : Cond.selects RX6 yX6_readsItem yX6_readsItem ∈ lw_tbl := sb3 (q := (⟨"PostRoundersModel", "readsItem", "(Z)Z"⟩, 14)) (List.mem_of_getElem? (i := 2) rfl)
set_option maxRecDepth 20000 in
theorem wl_4_98 : Cond.instanceMethod yX6_readsItem ∈ lw_tbl := tb4 (List.mem_of_getElem? (i := 98) rfl)
set_option maxRecDepth 20000 in
theorem wl_4_96 : Cond.methodLink RX6 168 yX6_readsItem ∈ lw_tbl := tb4 (List.mem_of_getElem? (i := 96) rfl)
set_option maxRecDepth 20000 in
theorem wl_4_95 : Cond.code yX6_byteAt cX6_byteAt 2 (some .int) ∈ lw_tbl := tb4 (List.mem_of_getElem? (i := 95) rfl)
set_option maxRecDepth 20000 in
theorem ws_3_1 : Cond.selects RX6 yX6_byteAt yX6_byteAt ∈ lw_tbl := sb3 (q := (⟨"PostRoundersModel", "byteAt", "(I)I"⟩, 14)) (List.mem_of_getElem? (i := 1) rfl)
set_option maxRecDepth 20000 in
theorem wl_4_94 : Cond.instanceMethod yX6_byteAt ∈ lw_tbl := tb4 (List.mem_of_getElem? (i := 94) rfl)
set_option maxRecDepth 20000 in
theorem wl_4_92 : Cond.methodLink RX6 109 yX6_byteAt ∈ lw_tbl := tb4 (List.mem_of_getElem? (i := 92) rfl)
set_option maxRecDepth 20000 in
theorem wl_4_91 : Cond.code yX6_blanks cX6_blanks 1 none ∈ lw_tbl := tb4 (List.mem_of_getElem? (i := 91) rfl)
set_option maxRecDepth 20000 in
theorem ws_3_0 : Cond.selects RX6 yX6_blanks yX6_blanks ∈ lw_tbl := sb3 (q := (⟨"PostRoundersModel", "blanks", "()V"⟩, 14)) (List.mem_of_getElem? (i := 0) rfl)
set_option maxRecDepth 20000 in
theorem wl_4_90 : Cond.instanceMethod yX6_blanks ∈ lw_tbl := tb4 (List.mem_of_getElem? (i := 90) rfl)
set_option maxRecDepth 20000 in
theorem wl_4_88 : Cond.methodLink RX6 115 yX6_blanks ∈ lw_tbl := tb4 (List.mem_of_getElem? (i := 88) rfl)
set_option maxRecDepth 20000 in
theorem wl_4_7 : Cond.fieldLink RX6 112 "PostRoundersModel" "start" "I" ∈ lw_tbl := tb4 (List.mem_of_getElem? (i := 7) rfl)
set_option maxRecDepth 20000 in
theorem wl_4_6 : Cond.fieldLink RX6 106 "PostRoundersModel" "at" "I" ∈ lw_tbl := tb4 (List.mem_of_getElem? (i := 6) rfl)
set_option maxRecDepth 20000 in
theorem wl_4_8 : Cond.fieldLink RX6 130 "PostRoundersModel" "number" "I" ∈ lw_tbl := tb4 (List.mem_of_getElem? (i := 8) rfl)
set_option maxRecDepth 20000 in
theorem wl_4_121 : Cond.code yX6_readsField cX6_readsField 1 (some .boolean) ∈ lw_tbl := tb4 (List.mem_of_getElem? (i := 121) rfl)
set_option maxRecDepth 20000 in
theorem ws_3_7 : Cond.selects RX6 yX6_readsField yX6_readsField ∈ lw_tbl := sb3 (q := (⟨"PostRoundersModel", "readsField", "()Z"⟩, 14)) (List.mem_of_getElem? (i := 7) rfl)
set_option maxRecDepth 20000 in
theorem wl_4_120 : Cond.instanceMethod yX6_readsField ∈ lw_tbl := tb4 (List.mem_of_getElem? (i := 120) rfl)
set_option maxRecDepth 20000 in
theorem wl_4_118 : Cond.methodLink RX6 155 yX6_readsField ∈ lw_tbl := tb4 (List.mem_of_getElem? (i := 118) rfl)
set_option maxRecDepth 20000 in
theorem wl_4_117 : Cond.code yX6_isLetter cX6_isLetter 4 (some .boolean) ∈ lw_tbl := tb4 (List.mem_of_getElem? (i := 117) rfl)
set_option maxRecDepth 20000 in
theorem ws_3_6 : Cond.selects RX6 yX6_isLetter yX6_isLetter ∈ lw_tbl := sb3 (q := (⟨"PostRoundersModel", "isLetter", "(III)Z"⟩, 14)) (List.mem_of_getElem? (i := 6) rfl)
set_option maxRecDepth 20000 in
theorem wl_4_116 : Cond.instanceMethod yX6_isLetter ∈ lw_tbl := tb4 (List.mem_of_getElem? (i := 116) rfl)
set_option maxRecDepth 20000 in
theorem wl_4_114 : Cond.methodLink RX6 122 yX6_isLetter ∈ lw_tbl := tb4 (List.mem_of_getElem? (i := 114) rfl)
set_option maxRecDepth 20000 in
theorem wl_4_113 : Cond.code yX6_isWord cX6_isWord 8 (some .boolean) ∈ lw_tbl := tb4 (List.mem_of_getElem? (i := 113) rfl)
set_option maxRecDepth 20000 in
theorem ws_3_5 : Cond.selects RX6 yX6_isWord yX6_isWord ∈ lw_tbl := sb3 (q := (⟨"PostRoundersModel", "isWord", "(IIIIII)Z"⟩, 14)) (List.mem_of_getElem? (i := 5) rfl)
set_option maxRecDepth 20000 in
theorem wl_4_112 : Cond.instanceMethod yX6_isWord ∈ lw_tbl := tb4 (List.mem_of_getElem? (i := 112) rfl)
set_option maxRecDepth 20000 in
theorem wl_4_110 : Cond.methodLink RX6 126 yX6_isWord ∈ lw_tbl := tb4 (List.mem_of_getElem? (i := 110) rfl)
set_option maxRecDepth 20000 in
theorem wl_4_109 : Cond.code yX6_wordOf cX6_wordOf 1 (some .int) ∈ lw_tbl := tb4 (List.mem_of_getElem? (i := 109) rfl)
set_option maxRecDepth 20000 in
theorem ws_3_4 : Cond.selects RX6 yX6_wordOf yX6_wordOf ∈ lw_tbl := sb3 (q := (⟨"PostRoundersModel", "wordOf", "()I"⟩, 14)) (List.mem_of_getElem? (i := 4) rfl)
set_option maxRecDepth 20000 in
theorem wl_4_108 : Cond.instanceMethod yX6_wordOf ∈ lw_tbl := tb4 (List.mem_of_getElem? (i := 108) rfl)
set_option maxRecDepth 20000 in
theorem wl_4_106 : Cond.methodLink RX6 152 yX6_wordOf ∈ lw_tbl := tb4 (List.mem_of_getElem? (i := 106) rfl)
set_option maxRecDepth 20000 in
theorem wl_4_105 : Cond.constantLong RX6 120 (122) ∈ lw_tbl := tb4 (List.mem_of_getElem? (i := 105) rfl)
set_option maxRecDepth 20000 in
theorem wl_4_104 : Cond.constantLong RX6 118 (97) ∈ lw_tbl := tb4 (List.mem_of_getElem? (i := 104) rfl)
set_option maxRecDepth 20000 in
theorem wl_4_103 : Cond.code yX6_takesWord cX6_takesWord 1 none ∈ lw_tbl := tb4 (List.mem_of_getElem? (i := 103) rfl)
set_option maxRecDepth 20000 in
theorem ws_3_3 : Cond.selects RX6 yX6_takesWord yX6_takesWord ∈ lw_tbl := sb3 (q := (⟨"PostRoundersModel", "takesWord", "()V"⟩, 14)) (List.mem_of_getElem? (i := 3) rfl)
set_option maxRecDepth 20000 in
theorem wl_4_133 : Cond.methodLink RX6 162 yX6_readsBall ∈ lw_tbl := tb4 (List.mem_of_getElem? (i := 133) rfl)
set_option maxRecDepth 20000 in
theorem wl_4_132 : Cond.code yX6_readsBatter cX6_readsBatter 2 (some .boolean) ∈ lw_tbl := tb4 (List.mem_of_getElem? (i := 132) rfl)
set_option maxRecDepth 20000 in
theorem ws_3_9 : Cond.selects RX6 yX6_readsBatter yX6_readsBatter ∈ lw_tbl := sb3 (q := (⟨"PostRoundersModel", "readsBatter", "()Z"⟩, 14)) (List.mem_of_getElem? (i := 9) rfl)
set_option maxRecDepth 20000 in
theorem wl_4_131 : Cond.instanceMethod yX6_readsBatter ∈ lw_tbl := tb4 (List.mem_of_getElem? (i := 131) rfl)
set_option maxRecDepth 20000 in
theorem wl_4_129 : Cond.methodLink RX6 159 yX6_readsBatter ∈ lw_tbl := tb4 (List.mem_of_getElem? (i := 129) rfl)
set_option maxRecDepth 20000 in
theorem wl_4_128 : Cond.constantLong RX6 137 (2) ∈ lw_tbl := tb4 (List.mem_of_getElem? (i := 128) rfl)
set_option maxRecDepth 20000 in
theorem wl_4_127 : Cond.constantLong RX6 135 (57) ∈ lw_tbl := tb4 (List.mem_of_getElem? (i := 127) rfl)
set_option maxRecDepth 20000 in
theorem wl_4_126 : Cond.constantLong RX6 133 (48) ∈ lw_tbl := tb4 (List.mem_of_getElem? (i := 126) rfl)
set_option maxRecDepth 20000 in
theorem wl_4_125 : Cond.code yX6_takesNumber cX6_takesNumber 3 (some .boolean) ∈ lw_tbl := tb4 (List.mem_of_getElem? (i := 125) rfl)
set_option maxRecDepth 20000 in
theorem ws_3_8 : Cond.selects RX6 yX6_takesNumber yX6_takesNumber ∈ lw_tbl := sb3 (q := (⟨"PostRoundersModel", "takesNumber", "(II)Z"⟩, 14)) (List.mem_of_getElem? (i := 8) rfl)
set_option maxRecDepth 20000 in
theorem wl_4_124 : Cond.instanceMethod yX6_takesNumber ∈ lw_tbl := tb4 (List.mem_of_getElem? (i := 124) rfl)
set_option maxRecDepth 20000 in
theorem wl_4_122 : Cond.methodLink RX6 139 yX6_takesNumber ∈ lw_tbl := tb4 (List.mem_of_getElem? (i := 122) rfl)
set_option maxRecDepth 20000 in
theorem ws_3_13 : Cond.selects RX6 yX6_runsNow yX6_runsNow ∈ lw_tbl := sb3 (q := (⟨"PostRoundersModel", "runsNow", "(II)I"⟩, 14)) (List.mem_of_getElem? (i := 13) rfl)
set_option maxRecDepth 20000 in
theorem wl_4_156 : Cond.instanceMethod yX6_runsNow ∈ lw_tbl := tb4 (List.mem_of_getElem? (i := 156) rfl)
set_option maxRecDepth 20000 in
theorem wl_4_154 : Cond.methodLink RX6 75 yX6_runsNow ∈ lw_tbl := tb4 (List.mem_of_getElem? (i := 154) rfl)
set_option maxRecDepth 20000 in
theorem wl_4_153 : Cond.code yX6_slow cX6_slow 2 (some .int) ∈ lw_tbl := tb4 (List.mem_of_getElem? (i := 153) rfl)
set_option maxRecDepth 20000 in
theorem wl_4_152 : Cond.static yX6_slow ∈ lw_tbl := tb4 (List.mem_of_getElem? (i := 152) rfl)
set_option maxRecDepth 20000 in
theorem wl_4_151 : Cond.methodLink RX6 55 yX6_slow ∈ lw_tbl := tb4 (List.mem_of_getElem? (i := 151) rfl)
set_option maxRecDepth 20000 in
theorem wl_4_150 : Cond.code yX6_fast cX6_fast 1 (some .int) ∈ lw_tbl := tb4 (List.mem_of_getElem? (i := 150) rfl)
set_option maxRecDepth 20000 in
theorem wl_4_149 : Cond.static yX6_fast ∈ lw_tbl := tb4 (List.mem_of_getElem? (i := 149) rfl)
set_option maxRecDepth 20000 in
theorem wl_4_148 : Cond.methodLink RX6 51 yX6_fast ∈ lw_tbl := tb4 (List.mem_of_getElem? (i := 148) rfl)
set_option maxRecDepth 20000 in
theorem wl_4_147 : Cond.code yX6_comesTo cX6_comesTo 3 (some .int) ∈ lw_tbl := tb4 (List.mem_of_getElem? (i := 147) rfl)
set_option maxRecDepth 20000 in
theorem wl_4_146 : Cond.static yX6_comesTo ∈ lw_tbl := tb4 (List.mem_of_getElem? (i := 146) rfl)
set_option maxRecDepth 20000 in
theorem wl_4_145 : Cond.methodLink RX6 65 yX6_comesTo ∈ lw_tbl := tb4 (List.mem_of_getElem? (i := 145) rfl)
set_option maxRecDepth 20000 in
theorem wl_4_144 : Cond.code yX6_comesNow cX6_comesNow 3 (some .int) ∈ lw_tbl := tb4 (List.mem_of_getElem? (i := 144) rfl)
set_option maxRecDepth 20000 in
theorem ws_3_12 : Cond.selects RX6 yX6_comesNow yX6_comesNow ∈ lw_tbl := sb3 (q := (⟨"PostRoundersModel", "comesNow", "(II)I"⟩, 14)) (List.mem_of_getElem? (i := 12) rfl)
set_option maxRecDepth 20000 in
theorem wl_4_143 : Cond.instanceMethod yX6_comesNow ∈ lw_tbl := tb4 (List.mem_of_getElem? (i := 143) rfl)
set_option maxRecDepth 20000 in
theorem wl_4_141 : Cond.methodLink RX6 72 yX6_comesNow ∈ lw_tbl := tb4 (List.mem_of_getElem? (i := 141) rfl)
set_option maxRecDepth 20000 in
theorem wl_4_167 : Cond.constantLong RX6 78 (3) ∈ lw_tbl := tb4 (List.mem_of_getElem? (i := 167) rfl)
set_option maxRecDepth 20000 in
theorem wl_4_140 : Cond.code yX6_bats cX6_bats 10 (some .int) ∈ lw_tbl := tb4 (List.mem_of_getElem? (i := 140) rfl)
set_option maxRecDepth 20000 in
theorem ws_3_11 : Cond.selects RX6 yX6_bats yX6_bats ∈ lw_tbl := sb3 (q := (⟨"PostRoundersModel", "bats", "(II)I"⟩, 14)) (List.mem_of_getElem? (i := 11) rfl)
set_option maxRecDepth 20000 in
theorem wl_4_139 : Cond.instanceMethod yX6_bats ∈ lw_tbl := tb4 (List.mem_of_getElem? (i := 139) rfl)
set_option maxRecDepth 20000 in
theorem wl_4_137 : Cond.methodLink RX6 143 yX6_bats ∈ lw_tbl := tb4 (List.mem_of_getElem? (i := 137) rfl)
set_option maxRecDepth 20000 in
theorem wl_4_136 : Cond.code yX6_readsBall cX6_readsBall 4 (some .boolean) ∈ lw_tbl := tb4 (List.mem_of_getElem? (i := 136) rfl)
set_option maxRecDepth 20000 in
theorem ws_3_10 : Cond.selects RX6 yX6_readsBall yX6_readsBall ∈ lw_tbl := sb3 (q := (⟨"PostRoundersModel", "readsBall", "()Z"⟩, 14)) (List.mem_of_getElem? (i := 10) rfl)
set_option maxRecDepth 20000 in
theorem wl_4_135 : Cond.instanceMethod yX6_readsBall ∈ lw_tbl := tb4 (List.mem_of_getElem? (i := 135) rfl)
set_option maxRecDepth 20000 in
theorem wl_4_182 : Cond.instanceMethod yX6_copy ∈ lw_tbl := tb4 (List.mem_of_getElem? (i := 182) rfl)
set_option maxRecDepth 20000 in
theorem wl_4_180 : Cond.methodLink RX6 172 yX6_copy ∈ lw_tbl := tb4 (List.mem_of_getElem? (i := 180) rfl)
set_option maxRecDepth 20000 in
theorem wl_4_179 : Cond.code yX6_takesEnd cX6_takesEnd 1 (some .boolean) ∈ lw_tbl := tb4 (List.mem_of_getElem? (i := 179) rfl)
set_option maxRecDepth 20000 in
theorem ws_4_0 : Cond.selects RX6 yX6_takesEnd yX6_takesEnd ∈ lw_tbl := sb4 (q := (⟨"PostRoundersModel", "takesEnd", "()Z"⟩, 14)) (List.mem_of_getElem? (i := 0) rfl)
set_option maxRecDepth 20000 in
theorem wl_4_178 : Cond.instanceMethod yX6_takesEnd ∈ lw_tbl := tb4 (List.mem_of_getElem? (i := 178) rfl)
set_option maxRecDepth 20000 in
theorem wl_4_176 : Cond.methodLink RX6 165 yX6_takesEnd ∈ lw_tbl := tb4 (List.mem_of_getElem? (i := 176) rfl)
set_option maxRecDepth 20000 in
theorem wl_4_175 : Cond.code yX6_scores cX6_scores 4 (some .int) ∈ lw_tbl := tb4 (List.mem_of_getElem? (i := 175) rfl)
set_option maxRecDepth 20000 in
theorem ws_3_15 : Cond.selects RX6 yX6_scores yX6_scores ∈ lw_tbl := sb3 (q := (⟨"PostRoundersModel", "scores", "(II)I"⟩, 14)) (List.mem_of_getElem? (i := 15) rfl)
set_option maxRecDepth 20000 in
theorem wl_4_174 : Cond.instanceMethod yX6_scores ∈ lw_tbl := tb4 (List.mem_of_getElem? (i := 174) rfl)
set_option maxRecDepth 20000 in
theorem wl_4_172 : Cond.methodLink RX6 146 yX6_scores ∈ lw_tbl := tb4 (List.mem_of_getElem? (i := 172) rfl)
set_option maxRecDepth 20000 in
theorem wl_4_171 : Cond.code yX6_nextOf cX6_nextOf 7 none ∈ lw_tbl := tb4 (List.mem_of_getElem? (i := 171) rfl)
set_option maxRecDepth 20000 in
theorem ws_3_14 : Cond.selects RX6 yX6_nextOf yX6_nextOf ∈ lw_tbl := sb3 (q := (⟨"PostRoundersModel", "nextOf", "(I)V"⟩, 14)) (List.mem_of_getElem? (i := 14) rfl)
set_option maxRecDepth 20000 in
theorem wl_4_170 : Cond.instanceMethod yX6_nextOf ∈ lw_tbl := tb4 (List.mem_of_getElem? (i := 170) rfl)
set_option maxRecDepth 20000 in
theorem wl_4_168 : Cond.methodLink RX6 80 yX6_nextOf ∈ lw_tbl := tb4 (List.mem_of_getElem? (i := 168) rfl)
set_option maxRecDepth 20000 in
theorem wl_4_166 : Cond.code yX6_timid cX6_timid 2 (some .int) ∈ lw_tbl := tb4 (List.mem_of_getElem? (i := 166) rfl)
set_option maxRecDepth 20000 in
theorem wl_4_165 : Cond.static yX6_timid ∈ lw_tbl := tb4 (List.mem_of_getElem? (i := 165) rfl)
set_option maxRecDepth 20000 in
theorem wl_4_164 : Cond.methodLink RX6 62 yX6_timid ∈ lw_tbl := tb4 (List.mem_of_getElem? (i := 164) rfl)
set_option maxRecDepth 20000 in
theorem wl_4_163 : Cond.code yX6_plain cX6_plain 2 (some .int) ∈ lw_tbl := tb4 (List.mem_of_getElem? (i := 163) rfl)
set_option maxRecDepth 20000 in
theorem wl_4_162 : Cond.static yX6_plain ∈ lw_tbl := tb4 (List.mem_of_getElem? (i := 162) rfl)
set_option maxRecDepth 20000 in
theorem wl_4_161 : Cond.methodLink RX6 59 yX6_plain ∈ lw_tbl := tb4 (List.mem_of_getElem? (i := 161) rfl)
set_option maxRecDepth 20000 in
theorem wl_4_160 : Cond.code yX6_runsBy cX6_runsBy 3 (some .int) ∈ lw_tbl := tb4 (List.mem_of_getElem? (i := 160) rfl)
set_option maxRecDepth 20000 in
theorem wl_4_159 : Cond.static yX6_runsBy ∈ lw_tbl := tb4 (List.mem_of_getElem? (i := 159) rfl)
set_option maxRecDepth 20000 in
theorem wl_4_158 : Cond.methodLink RX6 69 yX6_runsBy ∈ lw_tbl := tb4 (List.mem_of_getElem? (i := 158) rfl)
set_option maxRecDepth 20000 in
theorem wl_4_157 : Cond.code yX6_runsNow cX6_runsNow 4 (some .int) ∈ lw_tbl := tb4 (List.mem_of_getElem? (i := 157) rfl)
set_option maxRecDepth 20000 in
theorem wl_4_183 : Cond.code yX6_copy cX6_copy 4 none ∈ lw_tbl := tb4 (List.mem_of_getElem? (i := 183) rfl)
set_option maxRecDepth 20000 in
theorem ws_4_1 : Cond.selects RX6 yX6_copy yX6_copy ∈ lw_tbl := sb4 (q := (⟨"PostRoundersModel", "copy", "(II)V"⟩, 14)) (List.mem_of_getElem? (i := 1) rfl)
set_option maxRecDepth 20000 in
theorem wl_4_86 : Cond.selects RX6 yX6_read yX6_read ∈ lw_tbl := tb4 (List.mem_of_getElem? (i := 86) rfl)
set_option maxRecDepth 20000 in
theorem wl_4_85 : Cond.instanceMethod yX6_read ∈ lw_tbl := tb4 (List.mem_of_getElem? (i := 85) rfl)
set_option maxRecDepth 20000 in
theorem wl_4_84 : Cond.methodLink RL 39 yX6_read ∈ lw_tbl := tb4 (List.mem_of_getElem? (i := 84) rfl)
set_option maxRecDepth 20000 in
theorem wl_2_183 : Cond.code yX5_hits cX5_hits 3 (some .int) ∈ lw_tbl := tb2 (List.mem_of_getElem? (i := 183) rfl)
set_option maxRecDepth 20000 in
theorem wl_2_187 : Cond.methodLink RX5 120 yX2_isDone ∈ lw_tbl := tb2 (List.mem_of_getElem? (i := 187) rfl)
set_option maxRecDepth 20000 in
theorem wl_2_186 : Cond.code yX5_isHit cX5_isHit 1 (some .boolean) ∈ lw_tbl := tb2 (List.mem_of_getElem? (i := 186) rfl)
set_option maxRecDepth 20000 in
theorem wl_2_185 : Cond.static yX5_isHit ∈ lw_tbl := tb2 (List.mem_of_getElem? (i := 185) rfl)
set_option maxRecDepth 20000 in
theorem wl_2_184 : Cond.methodLink RX5 117 yX5_isHit ∈ lw_tbl := tb2 (List.mem_of_getElem? (i := 184) rfl)
set_option maxRecDepth 20000 in
theorem wl_1_52 : Cond.fieldLink RX5 127 "PostRounders$Play" "points" "I" ∈ lw_tbl := tb1 (List.mem_of_getElem? (i := 52) rfl)
set_option maxRecDepth 20000 in
theorem wl_1_55 : Cond.fieldLink RX5 124 "PostRounders$Play" "balls" "I" ∈ lw_tbl := tb1 (List.mem_of_getElem? (i := 55) rfl)
set_option maxRecDepth 20000 in
theorem wl_2_197 : Cond.instanceMethod yX4_dropFirst ∈ lw_tbl := tb2 (List.mem_of_getElem? (i := 197) rfl)
set_option maxRecDepth 20000 in
theorem wl_2_196 : Cond.methodLink RX1 67 yX4_dropFirst ∈ lw_tbl := tb2 (List.mem_of_getElem? (i := 196) rfl)
set_option maxRecDepth 20000 in
theorem wl_2_195 : Cond.code yX4_isFull cX4_isFull 1 (some .boolean) ∈ lw_tbl := tb2 (List.mem_of_getElem? (i := 195) rfl)
set_option maxRecDepth 20000 in
theorem wl_2_194 : Cond.selects RX4 yX4_isFull yX4_isFull ∈ lw_tbl := tb2 (List.mem_of_getElem? (i := 194) rfl)
set_option maxRecDepth 20000 in
theorem wl_2_193 : Cond.instanceMethod yX4_isFull ∈ lw_tbl := tb2 (List.mem_of_getElem? (i := 193) rfl)
set_option maxRecDepth 20000 in
theorem wl_2_192 : Cond.methodLink RX1 63 yX4_isFull ∈ lw_tbl := tb2 (List.mem_of_getElem? (i := 192) rfl)
set_option maxRecDepth 20000 in
theorem wl_1_54 : Cond.fieldLink RX1 83 "PostRounders$Play" "balls" "I" ∈ lw_tbl := tb1 (List.mem_of_getElem? (i := 54) rfl)
set_option maxRecDepth 20000 in
theorem wl_1_51 : Cond.fieldLink RX1 80 "PostRounders$Play" "points" "I" ∈ lw_tbl := tb1 (List.mem_of_getElem? (i := 51) rfl)
set_option maxRecDepth 20000 in
theorem wl_1_48 : Cond.fieldLink RX1 76 "PostRounders$Play" "next" "I" ∈ lw_tbl := tb1 (List.mem_of_getElem? (i := 48) rfl)
set_option maxRecDepth 20000 in
theorem wl_1_45 : Cond.fieldLink RX1 70 "PostRounders$Play" "where" "[I" ∈ lw_tbl := tb1 (List.mem_of_getElem? (i := 45) rfl)
set_option maxRecDepth 20000 in
theorem wl_2_191 : Cond.code yX1_remember cX1_remember 2 none ∈ lw_tbl := tb2 (List.mem_of_getElem? (i := 191) rfl)
set_option maxRecDepth 20000 in
theorem wl_2_190 : Cond.selects RX1 yX1_remember yX1_remember ∈ lw_tbl := tb2 (List.mem_of_getElem? (i := 190) rfl)
