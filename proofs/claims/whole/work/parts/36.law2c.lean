set_option maxRecDepth 20000 in
theorem wl_2_189 : Cond.instanceMethod yX1_remember ∈ lw_tbl := tb2 (List.mem_of_getElem? (i := 189) rfl)
set_option maxRecDepth 20000 in
theorem wl_2_188 : Cond.methodLink RX5 130 yX1_remember ∈ lw_tbl := tb2 (List.mem_of_getElem? (i := 188) rfl)
set_option maxRecDepth 20000 in
theorem wl_2_205 : Cond.methodLink RX5 133 yX2_ball ∈ lw_tbl := tb2 (List.mem_of_getElem? (i := 205) rfl)
set_option maxRecDepth 20000 in
theorem wl_2_204 : Cond.code yX4_put cX4_put 2 none ∈ lw_tbl := tb2 (List.mem_of_getElem? (i := 204) rfl)
set_option maxRecDepth 20000 in
theorem wl_2_203 : Cond.selects RX4 yX4_put yX4_put ∈ lw_tbl := tb2 (List.mem_of_getElem? (i := 203) rfl)
set_option maxRecDepth 20000 in
theorem wl_2_202 : Cond.instanceMethod yX4_put ∈ lw_tbl := tb2 (List.mem_of_getElem? (i := 202) rfl)
set_option maxRecDepth 20000 in
theorem wl_2_201 : Cond.methodLink RX1 73 yX4_put ∈ lw_tbl := tb2 (List.mem_of_getElem? (i := 201) rfl)
set_option maxRecDepth 20000 in
theorem wl_2_200 : Cond.methodLink RX4 26 arraycopyName ∈ lw_tbl := tb2 (List.mem_of_getElem? (i := 200) rfl)
set_option maxRecDepth 20000 in
theorem wl_2_199 : Cond.code yX4_dropFirst cX4_dropFirst 1 none ∈ lw_tbl := tb2 (List.mem_of_getElem? (i := 199) rfl)
set_option maxRecDepth 20000 in
theorem wl_2_198 : Cond.selects RX4 yX4_dropFirst yX4_dropFirst ∈ lw_tbl := tb2 (List.mem_of_getElem? (i := 198) rfl)
set_option maxRecDepth 20000 in
theorem wl_2_182 : Cond.selects RX5 yX5_hits yX5_hits ∈ lw_tbl := tb2 (List.mem_of_getElem? (i := 182) rfl)
set_option maxRecDepth 20000 in
theorem wl_2_181 : Cond.instanceMethod yX5_hits ∈ lw_tbl := tb2 (List.mem_of_getElem? (i := 181) rfl)
set_option maxRecDepth 20000 in
theorem wl_2_180 : Cond.methodLink RL 40 yX5_hits ∈ lw_tbl := tb2 (List.mem_of_getElem? (i := 180) rfl)
set_option maxRecDepth 20000 in
theorem wl_4_187 : Cond.code yX6_hits cX6_hits 2 (some .int) ∈ lw_tbl := tb4 (List.mem_of_getElem? (i := 187) rfl)
set_option maxRecDepth 20000 in
theorem wl_4_196 : Cond.code yX6_minds cX6_minds 3 none ∈ lw_tbl := tb4 (List.mem_of_getElem? (i := 196) rfl)
set_option maxRecDepth 20000 in
theorem ws_4_3 : Cond.selects RX6 yX6_minds yX6_minds ∈ lw_tbl := sb4 (q := (⟨"PostRoundersModel", "minds", "()V"⟩, 14)) (List.mem_of_getElem? (i := 3) rfl)
set_option maxRecDepth 20000 in
theorem wl_4_195 : Cond.instanceMethod yX6_minds ∈ lw_tbl := tb4 (List.mem_of_getElem? (i := 195) rfl)
set_option maxRecDepth 20000 in
theorem wl_4_193 : Cond.methodLink RX6 180 yX6_minds ∈ lw_tbl := tb4 (List.mem_of_getElem? (i := 193) rfl)
set_option maxRecDepth 20000 in
theorem wl_4_192 : Cond.code yX6_no cX6_no 1 (some .int) ∈ lw_tbl := tb4 (List.mem_of_getElem? (i := 192) rfl)
set_option maxRecDepth 20000 in
theorem ws_4_2 : Cond.selects RX6 yX6_no yX6_no ∈ lw_tbl := sb4 (q := (⟨"PostRoundersModel", "no", "()I"⟩, 14)) (List.mem_of_getElem? (i := 2) rfl)
set_option maxRecDepth 20000 in
theorem wl_4_191 : Cond.instanceMethod yX6_no ∈ lw_tbl := tb4 (List.mem_of_getElem? (i := 191) rfl)
set_option maxRecDepth 20000 in
theorem wl_4_189 : Cond.methodLink RX6 177 yX6_no ∈ lw_tbl := tb4 (List.mem_of_getElem? (i := 189) rfl)
set_option maxRecDepth 20000 in
theorem wl_4_188 : Cond.constantLong RX6 175 (9) ∈ lw_tbl := tb4 (List.mem_of_getElem? (i := 188) rfl)
set_option maxRecDepth 20000 in
theorem wl_4_186 : Cond.selects RX6 yX6_hits yX6_hits ∈ lw_tbl := tb4 (List.mem_of_getElem? (i := 186) rfl)
set_option maxRecDepth 20000 in
theorem wl_4_185 : Cond.instanceMethod yX6_hits ∈ lw_tbl := tb4 (List.mem_of_getElem? (i := 185) rfl)
set_option maxRecDepth 20000 in
theorem wl_4_184 : Cond.methodLink RL 43 yX6_hits ∈ lw_tbl := tb4 (List.mem_of_getElem? (i := 184) rfl)
set_option maxRecDepth 20000 in
theorem wl_2_209 : Cond.code yX5_sends cX5_sends 3 (some .int) ∈ lw_tbl := tb2 (List.mem_of_getElem? (i := 209) rfl)
set_option maxRecDepth 20000 in
theorem wl_2_213 : Cond.code yX5_isBatter cX5_isBatter 2 (some .boolean) ∈ lw_tbl := tb2 (List.mem_of_getElem? (i := 213) rfl)
set_option maxRecDepth 20000 in
theorem ws_1_14 : Cond.selects RX5 yX5_isBatter yX5_isBatter ∈ lw_tbl := sb1 (q := (⟨"PostRounders", "isBatter", "(I)Z"⟩, 14)) (List.mem_of_getElem? (i := 14) rfl)
set_option maxRecDepth 20000 in
theorem wl_2_212 : Cond.instanceMethod yX5_isBatter ∈ lw_tbl := tb2 (List.mem_of_getElem? (i := 212) rfl)
set_option maxRecDepth 20000 in
theorem wl_2_210 : Cond.methodLink RX5 141 yX5_isBatter ∈ lw_tbl := tb2 (List.mem_of_getElem? (i := 210) rfl)
set_option maxRecDepth 20000 in
theorem wl_1_49 : Cond.fieldLink RX5 147 "PostRounders$Play" "next" "I" ∈ lw_tbl := tb1 (List.mem_of_getElem? (i := 49) rfl)
set_option maxRecDepth 20000 in
theorem wl_1_46 : Cond.fieldLink RX5 144 "PostRounders$Play" "where" "[I" ∈ lw_tbl := tb1 (List.mem_of_getElem? (i := 46) rfl)
set_option maxRecDepth 20000 in
theorem wl_2_208 : Cond.selects RX5 yX5_sends yX5_sends ∈ lw_tbl := tb2 (List.mem_of_getElem? (i := 208) rfl)
set_option maxRecDepth 20000 in
theorem wl_2_207 : Cond.instanceMethod yX5_sends ∈ lw_tbl := tb2 (List.mem_of_getElem? (i := 207) rfl)
set_option maxRecDepth 20000 in
theorem wl_2_206 : Cond.methodLink RL 44 yX5_sends ∈ lw_tbl := tb2 (List.mem_of_getElem? (i := 206) rfl)
set_option maxRecDepth 20000 in
theorem wl_4_200 : Cond.code yX6_sends cX6_sends 3 (some .int) ∈ lw_tbl := tb4 (List.mem_of_getElem? (i := 200) rfl)
set_option maxRecDepth 20000 in
theorem wl_4_204 : Cond.code yX6_isBatter cX6_isBatter 2 (some .boolean) ∈ lw_tbl := tb4 (List.mem_of_getElem? (i := 204) rfl)
set_option maxRecDepth 20000 in
theorem ws_4_4 : Cond.selects RX6 yX6_isBatter yX6_isBatter ∈ lw_tbl := sb4 (q := (⟨"PostRoundersModel", "isBatter", "(I)Z"⟩, 14)) (List.mem_of_getElem? (i := 4) rfl)
set_option maxRecDepth 20000 in
theorem wl_4_203 : Cond.instanceMethod yX6_isBatter ∈ lw_tbl := tb4 (List.mem_of_getElem? (i := 203) rfl)
set_option maxRecDepth 20000 in
theorem wl_4_201 : Cond.methodLink RX6 183 yX6_isBatter ∈ lw_tbl := tb4 (List.mem_of_getElem? (i := 201) rfl)
set_option maxRecDepth 20000 in
theorem wl_4_199 : Cond.selects RX6 yX6_sends yX6_sends ∈ lw_tbl := tb4 (List.mem_of_getElem? (i := 199) rfl)
set_option maxRecDepth 20000 in
theorem wl_4_198 : Cond.instanceMethod yX6_sends ∈ lw_tbl := tb4 (List.mem_of_getElem? (i := 198) rfl)
set_option maxRecDepth 20000 in
theorem wl_4_197 : Cond.methodLink RL 47 yX6_sends ∈ lw_tbl := tb4 (List.mem_of_getElem? (i := 197) rfl)
set_option maxRecDepth 20000 in
theorem wl_2_217 : Cond.code yX5_row cX5_row 4 (some .int) ∈ lw_tbl := tb2 (List.mem_of_getElem? (i := 217) rfl)
set_option maxRecDepth 20000 in
theorem wl_1_99 : Cond.fieldLink RX5 150 "PostRounders$Field" "rowHits" "[I" ∈ lw_tbl := tb1 (List.mem_of_getElem? (i := 99) rfl)
set_option maxRecDepth 20000 in
theorem wl_2_216 : Cond.selects RX5 yX5_row yX5_row ∈ lw_tbl := tb2 (List.mem_of_getElem? (i := 216) rfl)
set_option maxRecDepth 20000 in
theorem wl_2_215 : Cond.instanceMethod yX5_row ∈ lw_tbl := tb2 (List.mem_of_getElem? (i := 215) rfl)
set_option maxRecDepth 20000 in
theorem wl_2_214 : Cond.methodLink RL 48 yX5_row ∈ lw_tbl := tb2 (List.mem_of_getElem? (i := 214) rfl)
set_option maxRecDepth 20000 in
theorem wl_4_208 : Cond.code yX6_row cX6_row 4 (some .int) ∈ lw_tbl := tb4 (List.mem_of_getElem? (i := 208) rfl)
set_option maxRecDepth 20000 in
theorem wl_4_209 : Cond.constantLong RX6 186 (7) ∈ lw_tbl := tb4 (List.mem_of_getElem? (i := 209) rfl)
set_option maxRecDepth 20000 in
theorem wl_4_207 : Cond.selects RX6 yX6_row yX6_row ∈ lw_tbl := tb4 (List.mem_of_getElem? (i := 207) rfl)
set_option maxRecDepth 20000 in
theorem wl_4_206 : Cond.instanceMethod yX6_row ∈ lw_tbl := tb4 (List.mem_of_getElem? (i := 206) rfl)
set_option maxRecDepth 20000 in
theorem wl_4_205 : Cond.methodLink RL 51 yX6_row ∈ lw_tbl := tb4 (List.mem_of_getElem? (i := 205) rfl)
set_option maxRecDepth 20000 in
theorem wl_2_221 : Cond.code yX5_undo cX5_undo 1 (some .int) ∈ lw_tbl := tb2 (List.mem_of_getElem? (i := 221) rfl)
set_option maxRecDepth 20000 in
theorem wl_2_228 : Cond.selects RX1 yX1_goBack yX1_goBack ∈ lw_tbl := tb2 (List.mem_of_getElem? (i := 228) rfl)
set_option maxRecDepth 20000 in
theorem wl_2_227 : Cond.instanceMethod yX1_goBack ∈ lw_tbl := tb2 (List.mem_of_getElem? (i := 227) rfl)
set_option maxRecDepth 20000 in
theorem wl_2_226 : Cond.methodLink RX5 156 yX1_goBack ∈ lw_tbl := tb2 (List.mem_of_getElem? (i := 226) rfl)
set_option maxRecDepth 20000 in
theorem wl_2_225 : Cond.code yX4_size cX4_size 1 (some .int) ∈ lw_tbl := tb2 (List.mem_of_getElem? (i := 225) rfl)
set_option maxRecDepth 20000 in
theorem wl_2_224 : Cond.selects RX4 yX4_size yX4_size ∈ lw_tbl := tb2 (List.mem_of_getElem? (i := 224) rfl)
set_option maxRecDepth 20000 in
theorem wl_2_223 : Cond.instanceMethod yX4_size ∈ lw_tbl := tb2 (List.mem_of_getElem? (i := 223) rfl)
set_option maxRecDepth 20000 in
theorem wl_2_222 : Cond.methodLink RX5 153 yX4_size ∈ lw_tbl := tb2 (List.mem_of_getElem? (i := 222) rfl)
set_option maxRecDepth 20000 in
theorem wl_2_238 : Cond.code yX4_dropLast cX4_dropLast 1 none ∈ lw_tbl := tb2 (List.mem_of_getElem? (i := 238) rfl)
set_option maxRecDepth 20000 in
theorem wl_2_237 : Cond.selects RX4 yX4_dropLast yX4_dropLast ∈ lw_tbl := tb2 (List.mem_of_getElem? (i := 237) rfl)
set_option maxRecDepth 20000 in
theorem wl_2_236 : Cond.instanceMethod yX4_dropLast ∈ lw_tbl := tb2 (List.mem_of_getElem? (i := 236) rfl)
set_option maxRecDepth 20000 in
theorem wl_2_235 : Cond.methodLink RX1 94 yX4_dropLast ∈ lw_tbl := tb2 (List.mem_of_getElem? (i := 235) rfl)
set_option maxRecDepth 20000 in
theorem wl_2_234 : Cond.code yX4_cell cX4_cell 4 (some .int) ∈ lw_tbl := tb2 (List.mem_of_getElem? (i := 234) rfl)
set_option maxRecDepth 20000 in
theorem wl_2_233 : Cond.selects RX4 yX4_cell yX4_cell ∈ lw_tbl := tb2 (List.mem_of_getElem? (i := 233) rfl)
set_option maxRecDepth 20000 in
theorem wl_2_232 : Cond.instanceMethod yX4_cell ∈ lw_tbl := tb2 (List.mem_of_getElem? (i := 232) rfl)
set_option maxRecDepth 20000 in
theorem wl_2_231 : Cond.methodLink RX1 90 yX4_cell ∈ lw_tbl := tb2 (List.mem_of_getElem? (i := 231) rfl)
set_option maxRecDepth 20000 in
theorem wl_2_230 : Cond.methodLink RX1 86 yX4_size ∈ lw_tbl := tb2 (List.mem_of_getElem? (i := 230) rfl)
set_option maxRecDepth 20000 in
theorem wl_2_229 : Cond.code yX1_goBack cX1_goBack 3 none ∈ lw_tbl := tb2 (List.mem_of_getElem? (i := 229) rfl)
set_option maxRecDepth 20000 in
theorem wl_2_220 : Cond.selects RX5 yX5_undo yX5_undo ∈ lw_tbl := tb2 (List.mem_of_getElem? (i := 220) rfl)
set_option maxRecDepth 20000 in
theorem wl_2_219 : Cond.instanceMethod yX5_undo ∈ lw_tbl := tb2 (List.mem_of_getElem? (i := 219) rfl)
set_option maxRecDepth 20000 in
theorem wl_2_218 : Cond.methodLink RL 52 yX5_undo ∈ lw_tbl := tb2 (List.mem_of_getElem? (i := 218) rfl)
set_option maxRecDepth 20000 in
theorem wl_4_213 : Cond.code yX6_undo cX6_undo 3 (some .int) ∈ lw_tbl := tb4 (List.mem_of_getElem? (i := 213) rfl)
set_option maxRecDepth 20000 in
theorem wl_4_212 : Cond.selects RX6 yX6_undo yX6_undo ∈ lw_tbl := tb4 (List.mem_of_getElem? (i := 212) rfl)
set_option maxRecDepth 20000 in
theorem wl_4_211 : Cond.instanceMethod yX6_undo ∈ lw_tbl := tb4 (List.mem_of_getElem? (i := 211) rfl)
set_option maxRecDepth 20000 in
theorem wl_4_210 : Cond.methodLink RL 55 yX6_undo ∈ lw_tbl := tb4 (List.mem_of_getElem? (i := 210) rfl)
set_option maxRecDepth 20000 in
theorem wl_3_2 : Cond.code yX5_of cX5_of 3 (some .int) ∈ lw_tbl := tb3 (List.mem_of_getElem? (i := 2) rfl)
set_option maxRecDepth 20000 in
theorem wl_3_6 : Cond.code yX2_told cX2_told 3 (some .int) ∈ lw_tbl := tb3 (List.mem_of_getElem? (i := 6) rfl)
set_option maxRecDepth 20000 in
theorem wl_3_5 : Cond.selects RX2 yX2_told yX2_told ∈ lw_tbl := tb3 (List.mem_of_getElem? (i := 5) rfl)
set_option maxRecDepth 20000 in
theorem wl_3_4 : Cond.instanceMethod yX2_told ∈ lw_tbl := tb3 (List.mem_of_getElem? (i := 4) rfl)
set_option maxRecDepth 20000 in
theorem wl_3_3 : Cond.methodLink RX5 159 yX2_told ∈ lw_tbl := tb3 (List.mem_of_getElem? (i := 3) rfl)
set_option maxRecDepth 20000 in
theorem wl_3_1 : Cond.selects RX5 yX5_of yX5_of ∈ lw_tbl := tb3 (List.mem_of_getElem? (i := 1) rfl)
set_option maxRecDepth 20000 in
theorem wl_3_0 : Cond.instanceMethod yX5_of ∈ lw_tbl := tb3 (List.mem_of_getElem? (i := 0) rfl)
set_option maxRecDepth 20000 in
theorem wl_2_239 : Cond.methodLink RL 56 yX5_of ∈ lw_tbl := tb2 (List.mem_of_getElem? (i := 239) rfl)
set_option maxRecDepth 20000 in
theorem wl_4_217 : Cond.code yX6_of cX6_of 3 (some .int) ∈ lw_tbl := tb4 (List.mem_of_getElem? (i := 217) rfl)
set_option maxRecDepth 20000 in
theorem wl_4_216 : Cond.selects RX6 yX6_of yX6_of ∈ lw_tbl := tb4 (List.mem_of_getElem? (i := 216) rfl)
set_option maxRecDepth 20000 in
theorem wl_4_215 : Cond.instanceMethod yX6_of ∈ lw_tbl := tb4 (List.mem_of_getElem? (i := 215) rfl)
set_option maxRecDepth 20000 in
theorem wl_4_214 : Cond.methodLink RL 59 yX6_of ∈ lw_tbl := tb4 (List.mem_of_getElem? (i := 214) rfl)
set_option maxRecDepth 20000 in
theorem wl_3_10 : Cond.code yX5_worth cX5_worth 3 (some .int) ∈ lw_tbl := tb3 (List.mem_of_getElem? (i := 10) rfl)
set_option maxRecDepth 20000 in
theorem wl_3_14 : Cond.code yX2_comesTo cX2_comesTo 2 (some .int) ∈ lw_tbl := tb3 (List.mem_of_getElem? (i := 14) rfl)
set_option maxRecDepth 20000 in
theorem wl_3_13 : Cond.selects RX2 yX2_comesTo yX2_comesTo ∈ lw_tbl := tb3 (List.mem_of_getElem? (i := 13) rfl)
set_option maxRecDepth 20000 in
theorem wl_3_12 : Cond.instanceMethod yX2_comesTo ∈ lw_tbl := tb3 (List.mem_of_getElem? (i := 12) rfl)
set_option maxRecDepth 20000 in
theorem wl_3_11 : Cond.methodLink RX5 162 yX2_comesTo ∈ lw_tbl := tb3 (List.mem_of_getElem? (i := 11) rfl)
set_option maxRecDepth 20000 in
theorem wl_3_15 : Cond.methodLink RX5 165 yX2_postsBy ∈ lw_tbl := tb3 (List.mem_of_getElem? (i := 15) rfl)
set_option maxRecDepth 20000 in
theorem wl_3_9 : Cond.selects RX5 yX5_worth yX5_worth ∈ lw_tbl := tb3 (List.mem_of_getElem? (i := 9) rfl)
set_option maxRecDepth 20000 in
theorem wl_3_8 : Cond.instanceMethod yX5_worth ∈ lw_tbl := tb3 (List.mem_of_getElem? (i := 8) rfl)
set_option maxRecDepth 20000 in
theorem wl_3_7 : Cond.methodLink RL 60 yX5_worth ∈ lw_tbl := tb3 (List.mem_of_getElem? (i := 7) rfl)
set_option maxRecDepth 20000 in
theorem wl_4_221 : Cond.code yX6_worth cX6_worth 4 (some .int) ∈ lw_tbl := tb4 (List.mem_of_getElem? (i := 221) rfl)
set_option maxRecDepth 20000 in
theorem wl_4_220 : Cond.selects RX6 yX6_worth yX6_worth ∈ lw_tbl := tb4 (List.mem_of_getElem? (i := 220) rfl)
set_option maxRecDepth 20000 in
theorem wl_4_219 : Cond.instanceMethod yX6_worth ∈ lw_tbl := tb4 (List.mem_of_getElem? (i := 219) rfl)
set_option maxRecDepth 20000 in
theorem wl_4_218 : Cond.methodLink RL 63 yX6_worth ∈ lw_tbl := tb4 (List.mem_of_getElem? (i := 218) rfl)
set_option maxRecDepth 20000 in
theorem wl_3_19 : Cond.code yX5_score cX5_score 2 (some .int) ∈ lw_tbl := tb3 (List.mem_of_getElem? (i := 19) rfl)
set_option maxRecDepth 20000 in
theorem wl_3_23 : Cond.code yX5_scoreAgainst cX5_scoreAgainst 4 (some .int) ∈ lw_tbl := tb3 (List.mem_of_getElem? (i := 23) rfl)
set_option maxRecDepth 20000 in
theorem ws_1_15 : Cond.selects RX5 yX5_scoreAgainst yX5_scoreAgainst ∈ lw_tbl := sb1 (q := (⟨"PostRounders", "scoreAgainst", "(III)I"⟩, 14)) (List.mem_of_getElem? (i := 15) rfl)
set_option maxRecDepth 20000 in
theorem wl_3_22 : Cond.instanceMethod yX5_scoreAgainst ∈ lw_tbl := tb3 (List.mem_of_getElem? (i := 22) rfl)
set_option maxRecDepth 20000 in
theorem wl_3_20 : Cond.methodLink RX5 171 yX5_scoreAgainst ∈ lw_tbl := tb3 (List.mem_of_getElem? (i := 20) rfl)
set_option maxRecDepth 20000 in
theorem wl_3_27 : Cond.code yX2_playHits cX2_playHits 5 (some .int) ∈ lw_tbl := tb3 (List.mem_of_getElem? (i := 27) rfl)
set_option maxRecDepth 20000 in
theorem wl_3_26 : Cond.selects RX2 yX2_playHits yX2_playHits ∈ lw_tbl := tb3 (List.mem_of_getElem? (i := 26) rfl)
set_option maxRecDepth 20000 in
theorem wl_3_25 : Cond.instanceMethod yX2_playHits ∈ lw_tbl := tb3 (List.mem_of_getElem? (i := 25) rfl)
set_option maxRecDepth 20000 in
theorem wl_3_24 : Cond.methodLink RX5 269 yX2_playHits ∈ lw_tbl := tb3 (List.mem_of_getElem? (i := 24) rfl)
set_option maxRecDepth 20000 in
theorem wl_3_18 : Cond.selects RX5 yX5_score yX5_score ∈ lw_tbl := tb3 (List.mem_of_getElem? (i := 18) rfl)
set_option maxRecDepth 20000 in
theorem wl_3_17 : Cond.instanceMethod yX5_score ∈ lw_tbl := tb3 (List.mem_of_getElem? (i := 17) rfl)
set_option maxRecDepth 20000 in
theorem wl_3_16 : Cond.methodLink RL 64 yX5_score ∈ lw_tbl := tb3 (List.mem_of_getElem? (i := 16) rfl)
set_option maxRecDepth 20000 in
theorem wl_4_225 : Cond.code yX6_score cX6_score 2 (some .int) ∈ lw_tbl := tb4 (List.mem_of_getElem? (i := 225) rfl)
set_option maxRecDepth 20000 in
theorem wl_4_238 : Cond.code yX6_batsTried cX6_batsTried 2 (some .int) ∈ lw_tbl := tb4 (List.mem_of_getElem? (i := 238) rfl)
set_option maxRecDepth 20000 in
theorem ws_4_7 : Cond.selects RX6 yX6_batsTried yX6_batsTried ∈ lw_tbl := sb4 (q := (⟨"PostRoundersModel", "batsTried", "(I)I"⟩, 14)) (List.mem_of_getElem? (i := 7) rfl)
set_option maxRecDepth 20000 in
theorem wl_4_237 : Cond.instanceMethod yX6_batsTried ∈ lw_tbl := tb4 (List.mem_of_getElem? (i := 237) rfl)
set_option maxRecDepth 20000 in
theorem wl_4_235 : Cond.methodLink RX6 188 yX6_batsTried ∈ lw_tbl := tb4 (List.mem_of_getElem? (i := 235) rfl)
set_option maxRecDepth 20000 in
theorem wl_4_234 : Cond.code yX6_scoreTried cX6_scoreTried 4 (some .int) ∈ lw_tbl := tb4 (List.mem_of_getElem? (i := 234) rfl)
set_option maxRecDepth 20000 in
theorem ws_4_6 : Cond.selects RX6 yX6_scoreTried yX6_scoreTried ∈ lw_tbl := sb4 (q := (⟨"PostRoundersModel", "scoreTried", "(I)I"⟩, 14)) (List.mem_of_getElem? (i := 6) rfl)
set_option maxRecDepth 20000 in
theorem wl_4_233 : Cond.instanceMethod yX6_scoreTried ∈ lw_tbl := tb4 (List.mem_of_getElem? (i := 233) rfl)
set_option maxRecDepth 20000 in
theorem wl_4_231 : Cond.methodLink RX6 196 yX6_scoreTried ∈ lw_tbl := tb4 (List.mem_of_getElem? (i := 231) rfl)
set_option maxRecDepth 20000 in
theorem wl_4_230 : Cond.code yX6_tries cX6_tries 2 none ∈ lw_tbl := tb4 (List.mem_of_getElem? (i := 230) rfl)
set_option maxRecDepth 20000 in
theorem ws_4_5 : Cond.selects RX6 yX6_tries yX6_tries ∈ lw_tbl := sb4 (q := (⟨"PostRoundersModel", "tries", "()V"⟩, 14)) (List.mem_of_getElem? (i := 5) rfl)
set_option maxRecDepth 20000 in
theorem wl_4_229 : Cond.instanceMethod yX6_tries ∈ lw_tbl := tb4 (List.mem_of_getElem? (i := 229) rfl)
set_option maxRecDepth 20000 in
theorem wl_4_227 : Cond.methodLink RX6 193 yX6_tries ∈ lw_tbl := tb4 (List.mem_of_getElem? (i := 227) rfl)
set_option maxRecDepth 20000 in
theorem wl_4_226 : Cond.constantLong RX6 191 (8) ∈ lw_tbl := tb4 (List.mem_of_getElem? (i := 226) rfl)
set_option maxRecDepth 20000 in
theorem wl_4_224 : Cond.selects RX6 yX6_score yX6_score ∈ lw_tbl := tb4 (List.mem_of_getElem? (i := 224) rfl)
set_option maxRecDepth 20000 in
theorem wl_4_223 : Cond.instanceMethod yX6_score ∈ lw_tbl := tb4 (List.mem_of_getElem? (i := 223) rfl)
set_option maxRecDepth 20000 in
theorem wl_4_222 : Cond.methodLink RL 67 yX6_score ∈ lw_tbl := tb4 (List.mem_of_getElem? (i := 222) rfl)
set_option maxRecDepth 20000 in
theorem wl_3_31 : Cond.code yX5_order cX5_order 4 (some .int) ∈ lw_tbl := tb3 (List.mem_of_getElem? (i := 31) rfl)
set_option maxRecDepth 20000 in
theorem wl_3_42 : Cond.methodLink RX5 276 arraycopyName ∈ lw_tbl := tb3 (List.mem_of_getElem? (i := 42) rfl)
set_option maxRecDepth 20000 in
theorem wl_3_35 : Cond.code yX5_findBestTurn cX5_findBestTurn 6 (some .int) ∈ lw_tbl := tb3 (List.mem_of_getElem? (i := 35) rfl)
set_option maxRecDepth 20000 in
theorem ws_2_0 : Cond.selects RX5 yX5_findBestTurn yX5_findBestTurn ∈ lw_tbl := sb2 (q := (⟨"PostRounders", "findBestTurn", "(I)I"⟩, 14)) (List.mem_of_getElem? (i := 0) rfl)
set_option maxRecDepth 20000 in
theorem wl_3_34 : Cond.instanceMethod yX5_findBestTurn ∈ lw_tbl := tb3 (List.mem_of_getElem? (i := 34) rfl)
set_option maxRecDepth 20000 in
theorem wl_3_32 : Cond.methodLink RX5 175 yX5_findBestTurn ∈ lw_tbl := tb3 (List.mem_of_getElem? (i := 32) rfl)
set_option maxRecDepth 20000 in
theorem wl_3_41 : Cond.methodLink RX2 51 yX2_join ∈ lw_tbl := tb3 (List.mem_of_getElem? (i := 41) rfl)
set_option maxRecDepth 20000 in
theorem wl_3_40 : Cond.methodLink RX2 43 yX2_begin ∈ lw_tbl := tb3 (List.mem_of_getElem? (i := 40) rfl)
set_option maxRecDepth 20000 in
theorem wl_3_39 : Cond.code yX2_lineUp cX2_lineUp 5 none ∈ lw_tbl := tb3 (List.mem_of_getElem? (i := 39) rfl)
set_option maxRecDepth 20000 in
theorem wl_3_38 : Cond.selects RX2 yX2_lineUp yX2_lineUp ∈ lw_tbl := tb3 (List.mem_of_getElem? (i := 38) rfl)
set_option maxRecDepth 20000 in
theorem wl_3_37 : Cond.instanceMethod yX2_lineUp ∈ lw_tbl := tb3 (List.mem_of_getElem? (i := 37) rfl)
set_option maxRecDepth 20000 in
theorem wl_3_36 : Cond.methodLink RX5 272 yX2_lineUp ∈ lw_tbl := tb3 (List.mem_of_getElem? (i := 36) rfl)
set_option maxRecDepth 20000 in
theorem wl_3_50 : Cond.code yX5_swapTurn cX5_swapTurn 4 none ∈ lw_tbl := tb3 (List.mem_of_getElem? (i := 50) rfl)
set_option maxRecDepth 20000 in
theorem ws_2_2 : Cond.selects RX5 yX5_swapTurn yX5_swapTurn ∈ lw_tbl := sb2 (q := (⟨"PostRounders", "swapTurn", "(II)V"⟩, 14)) (List.mem_of_getElem? (i := 2) rfl)
set_option maxRecDepth 20000 in
theorem wl_3_49 : Cond.instanceMethod yX5_swapTurn ∈ lw_tbl := tb3 (List.mem_of_getElem? (i := 49) rfl)
set_option maxRecDepth 20000 in
theorem wl_3_47 : Cond.methodLink RX5 285 yX5_swapTurn ∈ lw_tbl := tb3 (List.mem_of_getElem? (i := 47) rfl)
set_option maxRecDepth 20000 in
theorem wl_3_46 : Cond.code yX5_riseTurn cX5_riseTurn 6 (some .boolean) ∈ lw_tbl := tb3 (List.mem_of_getElem? (i := 46) rfl)
set_option maxRecDepth 20000 in
theorem ws_2_1 : Cond.selects RX5 yX5_riseTurn yX5_riseTurn ∈ lw_tbl := sb2 (q := (⟨"PostRounders", "riseTurn", "(I)Z"⟩, 14)) (List.mem_of_getElem? (i := 1) rfl)
set_option maxRecDepth 20000 in
theorem wl_3_45 : Cond.instanceMethod yX5_riseTurn ∈ lw_tbl := tb3 (List.mem_of_getElem? (i := 45) rfl)
set_option maxRecDepth 20000 in
theorem wl_3_43 : Cond.methodLink RX5 282 yX5_riseTurn ∈ lw_tbl := tb3 (List.mem_of_getElem? (i := 43) rfl)
set_option maxRecDepth 20000 in
theorem wl_3_30 : Cond.selects RX5 yX5_order yX5_order ∈ lw_tbl := tb3 (List.mem_of_getElem? (i := 30) rfl)
set_option maxRecDepth 20000 in
theorem wl_3_29 : Cond.instanceMethod yX5_order ∈ lw_tbl := tb3 (List.mem_of_getElem? (i := 29) rfl)
set_option maxRecDepth 20000 in
theorem wl_3_28 : Cond.methodLink RL 68 yX5_order ∈ lw_tbl := tb3 (List.mem_of_getElem? (i := 28) rfl)
set_option maxRecDepth 20000 in
theorem wl_5_2 : Cond.code yX6_order cX6_order 7 (some .int) ∈ lw_tbl := tb5 (List.mem_of_getElem? (i := 2) rfl)
set_option maxRecDepth 20000 in
theorem wl_5_6 : Cond.code yX6_scoreInLine cX6_scoreInLine 3 (some .int) ∈ lw_tbl := tb5 (List.mem_of_getElem? (i := 6) rfl)
set_option maxRecDepth 20000 in
theorem ws_4_8 : Cond.selects RX6 yX6_scoreInLine yX6_scoreInLine ∈ lw_tbl := sb4 (q := (⟨"PostRoundersModel", "scoreInLine", "(I)I"⟩, 14)) (List.mem_of_getElem? (i := 8) rfl)
set_option maxRecDepth 20000 in
theorem wl_5_5 : Cond.instanceMethod yX6_scoreInLine ∈ lw_tbl := tb5 (List.mem_of_getElem? (i := 5) rfl)
set_option maxRecDepth 20000 in
theorem wl_5_3 : Cond.methodLink RX6 202 yX6_scoreInLine ∈ lw_tbl := tb5 (List.mem_of_getElem? (i := 3) rfl)
set_option maxRecDepth 20000 in
theorem wl_5_10 : Cond.code yX6_nextLine cX6_nextLine 6 (some .boolean) ∈ lw_tbl := tb5 (List.mem_of_getElem? (i := 10) rfl)
set_option maxRecDepth 20000 in
theorem ws_4_9 : Cond.selects RX6 yX6_nextLine yX6_nextLine ∈ lw_tbl := sb4 (q := (⟨"PostRoundersModel", "nextLine", "(I)Z"⟩, 14)) (List.mem_of_getElem? (i := 9) rfl)
set_option maxRecDepth 20000 in
theorem wl_5_9 : Cond.instanceMethod yX6_nextLine ∈ lw_tbl := tb5 (List.mem_of_getElem? (i := 9) rfl)
set_option maxRecDepth 20000 in
theorem wl_5_7 : Cond.methodLink RX6 205 yX6_nextLine ∈ lw_tbl := tb5 (List.mem_of_getElem? (i := 7) rfl)
set_option maxRecDepth 20000 in
theorem wl_5_14 : Cond.code yX6_swaps cX6_swaps 4 none ∈ lw_tbl := tb5 (List.mem_of_getElem? (i := 14) rfl)
set_option maxRecDepth 20000 in
theorem ws_4_10 : Cond.selects RX6 yX6_swaps yX6_swaps ∈ lw_tbl := sb4 (q := (⟨"PostRoundersModel", "swaps", "(II)V"⟩, 14)) (List.mem_of_getElem? (i := 10) rfl)
set_option maxRecDepth 20000 in
theorem wl_5_13 : Cond.instanceMethod yX6_swaps ∈ lw_tbl := tb5 (List.mem_of_getElem? (i := 13) rfl)
set_option maxRecDepth 20000 in
theorem wl_5_11 : Cond.methodLink RX6 199 yX6_swaps ∈ lw_tbl := tb5 (List.mem_of_getElem? (i := 11) rfl)
set_option maxRecDepth 20000 in
theorem wl_5_1 : Cond.selects RX6 yX6_order yX6_order ∈ lw_tbl := tb5 (List.mem_of_getElem? (i := 1) rfl)
set_option maxRecDepth 20000 in
theorem wl_5_0 : Cond.instanceMethod yX6_order ∈ lw_tbl := tb5 (List.mem_of_getElem? (i := 0) rfl)
set_option maxRecDepth 20000 in
theorem wl_4_239 : Cond.methodLink RL 71 yX6_order ∈ lw_tbl := tb4 (List.mem_of_getElem? (i := 239) rfl)
set_option maxRecDepth 20000 in
theorem wl_3_54 : Cond.code yX5_against cX5_against 7 (some .int) ∈ lw_tbl := tb3 (List.mem_of_getElem? (i := 54) rfl)
set_option maxRecDepth 20000 in
theorem wl_3_53 : Cond.selects RX5 yX5_against yX5_against ∈ lw_tbl := tb3 (List.mem_of_getElem? (i := 53) rfl)
set_option maxRecDepth 20000 in
theorem wl_3_52 : Cond.instanceMethod yX5_against ∈ lw_tbl := tb3 (List.mem_of_getElem? (i := 52) rfl)
set_option maxRecDepth 20000 in
theorem wl_3_51 : Cond.methodLink RL 72 yX5_against ∈ lw_tbl := tb3 (List.mem_of_getElem? (i := 51) rfl)
set_option maxRecDepth 20000 in
theorem wl_5_18 : Cond.code yX6_against cX6_against 7 (some .int) ∈ lw_tbl := tb5 (List.mem_of_getElem? (i := 18) rfl)
set_option maxRecDepth 20000 in
theorem wl_5_19 : Cond.constant RX6 208 (1000000) ∈ lw_tbl := tb5 (List.mem_of_getElem? (i := 19) rfl)
set_option maxRecDepth 20000 in
theorem wl_5_17 : Cond.selects RX6 yX6_against yX6_against ∈ lw_tbl := tb5 (List.mem_of_getElem? (i := 17) rfl)
set_option maxRecDepth 20000 in
theorem wl_5_16 : Cond.instanceMethod yX6_against ∈ lw_tbl := tb5 (List.mem_of_getElem? (i := 16) rfl)
set_option maxRecDepth 20000 in
theorem wl_5_15 : Cond.methodLink RL 75 yX6_against ∈ lw_tbl := tb5 (List.mem_of_getElem? (i := 15) rfl)
set_option maxRecDepth 20000 in
theorem wl_3_58 : Cond.code yX5_chance cX5_chance 3 (some .int) ∈ lw_tbl := tb3 (List.mem_of_getElem? (i := 58) rfl)
set_option maxRecDepth 20000 in
theorem wl_3_63 : Cond.methodLink RX0 27 yJ7_fill_53178 ∈ lw_tbl := tb3 (List.mem_of_getElem? (i := 63) rfl)
set_option maxRecDepth 20000 in
theorem wl_3_62 : Cond.code yX0_spread cX0_spread 3 none ∈ lw_tbl := tb3 (List.mem_of_getElem? (i := 62) rfl)
set_option maxRecDepth 20000 in
theorem wl_3_61 : Cond.selects RX0 yX0_spread yX0_spread ∈ lw_tbl := tb3 (List.mem_of_getElem? (i := 61) rfl)
set_option maxRecDepth 20000 in
theorem wl_3_60 : Cond.instanceMethod yX0_spread ∈ lw_tbl := tb3 (List.mem_of_getElem? (i := 60) rfl)
set_option maxRecDepth 20000 in
theorem wl_3_59 : Cond.methodLink RX5 178 yX0_spread ∈ lw_tbl := tb3 (List.mem_of_getElem? (i := 59) rfl)
set_option maxRecDepth 20000 in
theorem wl_3_83 : Cond.fieldLink RX5 185 "PostRounders" "TENS" "[I" ∈ lw_tbl := tb3 (List.mem_of_getElem? (i := 83) rfl)
set_option maxRecDepth 20000 in
theorem wl_3_70 : Cond.methodLink RX0 49 Lib.Math.min.name ∈ lw_tbl := tb3 (List.mem_of_getElem? (i := 70) rfl)
set_option maxRecDepth 20000 in
theorem wl_3_68 : Cond.code yX0_spreadLevel cX0_spreadLevel 9 none ∈ lw_tbl := tb3 (List.mem_of_getElem? (i := 68) rfl)
set_option maxRecDepth 20000 in
theorem wl_3_67 : Cond.static yX0_spreadLevel ∈ lw_tbl := tb3 (List.mem_of_getElem? (i := 67) rfl)
set_option maxRecDepth 20000 in
theorem wl_3_66 : Cond.methodLink RX0 41 yX0_spreadLevel ∈ lw_tbl := tb3 (List.mem_of_getElem? (i := 66) rfl)
set_option maxRecDepth 20000 in
theorem wl_3_65 : Cond.methodLink RX0 37 yX2_copy ∈ lw_tbl := tb3 (List.mem_of_getElem? (i := 65) rfl)
set_option maxRecDepth 20000 in
theorem wl_3_77 : Cond.methodLink RX0 62 yX2_runBall ∈ lw_tbl := tb3 (List.mem_of_getElem? (i := 77) rfl)
set_option maxRecDepth 20000 in
theorem wl_3_76 : Cond.methodLink RX0 66 yX2_postsBy ∈ lw_tbl := tb3 (List.mem_of_getElem? (i := 76) rfl)
set_option maxRecDepth 20000 in
theorem wl_3_75 : Cond.code yX0_fillWays cX0_fillWays 4 none ∈ lw_tbl := tb3 (List.mem_of_getElem? (i := 75) rfl)
set_option maxRecDepth 20000 in
theorem wl_3_74 : Cond.static yX0_fillWays ∈ lw_tbl := tb3 (List.mem_of_getElem? (i := 74) rfl)
set_option maxRecDepth 20000 in
theorem wl_3_73 : Cond.methodLink RX0 58 yX0_fillWays ∈ lw_tbl := tb3 (List.mem_of_getElem? (i := 73) rfl)
set_option maxRecDepth 20000 in
theorem wl_3_69 : Cond.methodLink RX0 45 yX2_isDone ∈ lw_tbl := tb3 (List.mem_of_getElem? (i := 69) rfl)
set_option maxRecDepth 20000 in
theorem wl_3_90 : Cond.code yX5_commonDivisor cX5_commonDivisor 7 (some .long) ∈ lw_tbl := tb3 (List.mem_of_getElem? (i := 90) rfl)
set_option maxRecDepth 20000 in
theorem wl_3_89 : Cond.static yX5_commonDivisor ∈ lw_tbl := tb3 (List.mem_of_getElem? (i := 89) rfl)
set_option maxRecDepth 20000 in
theorem wl_3_88 : Cond.methodLink RX5 289 yX5_commonDivisor ∈ lw_tbl := tb3 (List.mem_of_getElem? (i := 88) rfl)
set_option maxRecDepth 20000 in
theorem wl_1_177 : Cond.fieldLink RX5 246 "PostRounders" "above" "J" ∈ lw_tbl := tb1 (List.mem_of_getElem? (i := 177) rfl)
set_option maxRecDepth 20000 in
theorem wl_3_87 : Cond.code yX5_keepFraction cX5_keepFraction 7 none ∈ lw_tbl := tb3 (List.mem_of_getElem? (i := 87) rfl)
set_option maxRecDepth 20000 in
theorem ws_2_3 : Cond.selects RX5 yX5_keepFraction yX5_keepFraction ∈ lw_tbl := sb2 (q := (⟨"PostRounders", "keepFraction", "(JJ)V"⟩, 14)) (List.mem_of_getElem? (i := 3) rfl)
set_option maxRecDepth 20000 in
theorem wl_3_86 : Cond.instanceMethod yX5_keepFraction ∈ lw_tbl := tb3 (List.mem_of_getElem? (i := 86) rfl)
set_option maxRecDepth 20000 in
theorem wl_3_84 : Cond.methodLink RX5 188 yX5_keepFraction ∈ lw_tbl := tb3 (List.mem_of_getElem? (i := 84) rfl)
set_option maxRecDepth 20000 in
theorem wl_3_82 : Cond.methodLink RX0 69 Lib.Math.max.name ∈ lw_tbl := tb3 (List.mem_of_getElem? (i := 82) rfl)
set_option maxRecDepth 20000 in
theorem wl_3_81 : Cond.code yX0_casesFrom cX0_casesFrom 4 (some .int) ∈ lw_tbl := tb3 (List.mem_of_getElem? (i := 81) rfl)
set_option maxRecDepth 20000 in
theorem wl_3_80 : Cond.selects RX0 yX0_casesFrom yX0_casesFrom ∈ lw_tbl := tb3 (List.mem_of_getElem? (i := 80) rfl)
set_option maxRecDepth 20000 in
theorem wl_3_79 : Cond.instanceMethod yX0_casesFrom ∈ lw_tbl := tb3 (List.mem_of_getElem? (i := 79) rfl)
set_option maxRecDepth 20000 in
theorem wl_3_78 : Cond.methodLink RX5 182 yX0_casesFrom ∈ lw_tbl := tb3 (List.mem_of_getElem? (i := 78) rfl)
set_option maxRecDepth 20000 in
theorem wl_3_57 : Cond.selects RX5 yX5_chance yX5_chance ∈ lw_tbl := tb3 (List.mem_of_getElem? (i := 57) rfl)
set_option maxRecDepth 20000 in
theorem wl_3_56 : Cond.instanceMethod yX5_chance ∈ lw_tbl := tb3 (List.mem_of_getElem? (i := 56) rfl)
set_option maxRecDepth 20000 in
theorem wl_3_55 : Cond.methodLink RL 76 yX5_chance ∈ lw_tbl := tb3 (List.mem_of_getElem? (i := 55) rfl)
set_option maxRecDepth 20000 in
theorem wl_5_23 : Cond.code yX6_chance cX6_chance 6 (some .int) ∈ lw_tbl := tb5 (List.mem_of_getElem? (i := 23) rfl)
set_option maxRecDepth 20000 in
theorem wl_5_32 : Cond.code yX6_scoreBy cX6_scoreBy 6 (some .int) ∈ lw_tbl := tb5 (List.mem_of_getElem? (i := 32) rfl)
set_option maxRecDepth 20000 in
theorem ws_4_11 : Cond.selects RX6 yX6_scoreBy yX6_scoreBy ∈ lw_tbl := sb4 (q := (⟨"PostRoundersModel", "scoreBy", "(II)I"⟩, 14)) (List.mem_of_getElem? (i := 11) rfl)
set_option maxRecDepth 20000 in
theorem wl_5_31 : Cond.instanceMethod yX6_scoreBy ∈ lw_tbl := tb5 (List.mem_of_getElem? (i := 31) rfl)
set_option maxRecDepth 20000 in
theorem wl_5_29 : Cond.methodLink RX6 216 yX6_scoreBy ∈ lw_tbl := tb5 (List.mem_of_getElem? (i := 29) rfl)
set_option maxRecDepth 20000 in
theorem wl_5_28 : Cond.code yX6_rows cX6_rows 3 (some .int) ∈ lw_tbl := tb5 (List.mem_of_getElem? (i := 28) rfl)
set_option maxRecDepth 20000 in
theorem wl_5_27 : Cond.static yX6_rows ∈ lw_tbl := tb5 (List.mem_of_getElem? (i := 27) rfl)
set_option maxRecDepth 20000 in
theorem wl_5_26 : Cond.methodLink RX6 209 yX6_rows ∈ lw_tbl := tb5 (List.mem_of_getElem? (i := 26) rfl)
set_option maxRecDepth 20000 in
theorem wl_5_25 : Cond.constantLong RX6 214 (20) ∈ lw_tbl := tb5 (List.mem_of_getElem? (i := 25) rfl)
set_option maxRecDepth 20000 in
theorem wl_5_24 : Cond.constantLong RX6 212 (4) ∈ lw_tbl := tb5 (List.mem_of_getElem? (i := 24) rfl)
set_option maxRecDepth 20000 in
theorem wl_5_36 : Cond.code yX6_told cX6_told 11 (some .int) ∈ lw_tbl := tb5 (List.mem_of_getElem? (i := 36) rfl)
set_option maxRecDepth 20000 in
theorem ws_4_12 : Cond.selects RX6 yX6_told yX6_told ∈ lw_tbl := sb4 (q := (⟨"PostRoundersModel", "told", "(JJ)I"⟩, 14)) (List.mem_of_getElem? (i := 12) rfl)
set_option maxRecDepth 20000 in
theorem wl_5_35 : Cond.instanceMethod yX6_told ∈ lw_tbl := tb5 (List.mem_of_getElem? (i := 35) rfl)
set_option maxRecDepth 20000 in
theorem wl_5_33 : Cond.methodLink RX6 219 yX6_told ∈ lw_tbl := tb5 (List.mem_of_getElem? (i := 33) rfl)
set_option maxRecDepth 20000 in
theorem wl_5_22 : Cond.selects RX6 yX6_chance yX6_chance ∈ lw_tbl := tb5 (List.mem_of_getElem? (i := 22) rfl)
set_option maxRecDepth 20000 in
theorem wl_5_21 : Cond.instanceMethod yX6_chance ∈ lw_tbl := tb5 (List.mem_of_getElem? (i := 21) rfl)
set_option maxRecDepth 20000 in
theorem wl_5_20 : Cond.methodLink RL 79 yX6_chance ∈ lw_tbl := tb5 (List.mem_of_getElem? (i := 20) rfl)
set_option maxRecDepth 20000 in
theorem wl_3_94 : Cond.code yX5_mean cX5_mean 2 (some .int) ∈ lw_tbl := tb3 (List.mem_of_getElem? (i := 94) rfl)
set_option maxRecDepth 20000 in
theorem wl_3_98 : Cond.code yX0_sumOfGains cX0_sumOfGains 3 (some .int) ∈ lw_tbl := tb3 (List.mem_of_getElem? (i := 98) rfl)
set_option maxRecDepth 20000 in
theorem wl_3_97 : Cond.selects RX0 yX0_sumOfGains yX0_sumOfGains ∈ lw_tbl := tb3 (List.mem_of_getElem? (i := 97) rfl)
set_option maxRecDepth 20000 in
theorem wl_3_96 : Cond.instanceMethod yX0_sumOfGains ∈ lw_tbl := tb3 (List.mem_of_getElem? (i := 96) rfl)
set_option maxRecDepth 20000 in
theorem wl_3_95 : Cond.methodLink RX5 192 yX0_sumOfGains ∈ lw_tbl := tb3 (List.mem_of_getElem? (i := 95) rfl)
set_option maxRecDepth 20000 in
theorem wl_3_93 : Cond.selects RX5 yX5_mean yX5_mean ∈ lw_tbl := tb3 (List.mem_of_getElem? (i := 93) rfl)
set_option maxRecDepth 20000 in
theorem wl_3_92 : Cond.instanceMethod yX5_mean ∈ lw_tbl := tb3 (List.mem_of_getElem? (i := 92) rfl)
set_option maxRecDepth 20000 in
theorem wl_3_91 : Cond.methodLink RL 80 yX5_mean ∈ lw_tbl := tb3 (List.mem_of_getElem? (i := 91) rfl)
set_option maxRecDepth 20000 in
theorem wl_5_40 : Cond.code yX6_mean cX6_mean 2 (some .int) ∈ lw_tbl := tb5 (List.mem_of_getElem? (i := 40) rfl)
set_option maxRecDepth 20000 in
theorem wl_5_44 : Cond.code yX6_sumBy cX6_sumBy 6 (some .int) ∈ lw_tbl := tb5 (List.mem_of_getElem? (i := 44) rfl)
set_option maxRecDepth 20000 in
theorem ws_4_13 : Cond.selects RX6 yX6_sumBy yX6_sumBy ∈ lw_tbl := sb4 (q := (⟨"PostRoundersModel", "sumBy", "(II)I"⟩, 14)) (List.mem_of_getElem? (i := 13) rfl)
set_option maxRecDepth 20000 in
theorem wl_5_43 : Cond.instanceMethod yX6_sumBy ∈ lw_tbl := tb5 (List.mem_of_getElem? (i := 43) rfl)
set_option maxRecDepth 20000 in
theorem wl_5_41 : Cond.methodLink RX6 223 yX6_sumBy ∈ lw_tbl := tb5 (List.mem_of_getElem? (i := 41) rfl)
set_option maxRecDepth 20000 in
theorem wl_5_39 : Cond.selects RX6 yX6_mean yX6_mean ∈ lw_tbl := tb5 (List.mem_of_getElem? (i := 39) rfl)
set_option maxRecDepth 20000 in
theorem wl_5_38 : Cond.instanceMethod yX6_mean ∈ lw_tbl := tb5 (List.mem_of_getElem? (i := 38) rfl)
set_option maxRecDepth 20000 in
theorem wl_5_37 : Cond.methodLink RL 83 yX6_mean ∈ lw_tbl := tb5 (List.mem_of_getElem? (i := 37) rfl)
set_option maxRecDepth 20000 in
theorem wl_3_102 : Cond.code yX5_send cX5_send 6 (some .int) ∈ lw_tbl := tb3 (List.mem_of_getElem? (i := 102) rfl)
set_option maxRecDepth 20000 in
theorem wl_3_101 : Cond.selects RX5 yX5_send yX5_send ∈ lw_tbl := tb3 (List.mem_of_getElem? (i := 101) rfl)
set_option maxRecDepth 20000 in
theorem wl_3_100 : Cond.instanceMethod yX5_send ∈ lw_tbl := tb3 (List.mem_of_getElem? (i := 100) rfl)
set_option maxRecDepth 20000 in
theorem wl_3_99 : Cond.methodLink RL 84 yX5_send ∈ lw_tbl := tb3 (List.mem_of_getElem? (i := 99) rfl)
set_option maxRecDepth 20000 in
theorem wl_5_48 : Cond.code yX6_send cX6_send 6 (some .int) ∈ lw_tbl := tb5 (List.mem_of_getElem? (i := 48) rfl)
set_option maxRecDepth 20000 in
theorem wl_5_47 : Cond.selects RX6 yX6_send yX6_send ∈ lw_tbl := tb5 (List.mem_of_getElem? (i := 47) rfl)
set_option maxRecDepth 20000 in
theorem wl_5_46 : Cond.instanceMethod yX6_send ∈ lw_tbl := tb5 (List.mem_of_getElem? (i := 46) rfl)
set_option maxRecDepth 20000 in
theorem wl_5_45 : Cond.methodLink RL 87 yX6_send ∈ lw_tbl := tb5 (List.mem_of_getElem? (i := 45) rfl)
set_option maxRecDepth 20000 in
theorem wl_3_106 : Cond.code yX5_note cX5_note 4 (some .int) ∈ lw_tbl := tb3 (List.mem_of_getElem? (i := 106) rfl)
set_option maxRecDepth 20000 in
theorem wl_3_108 : Cond.methodLink RX5 201 yX4_put ∈ lw_tbl := tb3 (List.mem_of_getElem? (i := 108) rfl)
set_option maxRecDepth 20000 in
theorem wl_3_107 : Cond.methodLink RX5 198 yX4_isFull ∈ lw_tbl := tb3 (List.mem_of_getElem? (i := 107) rfl)
set_option maxRecDepth 20000 in
theorem wl_1_101 : Cond.fieldLink RX5 195 "PostRounders$Field" "notes" "LPostRounders$Rows;" ∈ lw_tbl := tb1 (List.mem_of_getElem? (i := 101) rfl)
set_option maxRecDepth 20000 in
theorem wl_3_105 : Cond.selects RX5 yX5_note yX5_note ∈ lw_tbl := tb3 (List.mem_of_getElem? (i := 105) rfl)
set_option maxRecDepth 20000 in
theorem wl_3_104 : Cond.instanceMethod yX5_note ∈ lw_tbl := tb3 (List.mem_of_getElem? (i := 104) rfl)
set_option maxRecDepth 20000 in
theorem wl_3_103 : Cond.methodLink RL 88 yX5_note ∈ lw_tbl := tb3 (List.mem_of_getElem? (i := 103) rfl)
set_option maxRecDepth 20000 in
theorem wl_5_52 : Cond.code yX6_note cX6_note 5 (some .int) ∈ lw_tbl := tb5 (List.mem_of_getElem? (i := 52) rfl)
set_option maxRecDepth 20000 in
theorem wl_5_53 : Cond.constantLong RX6 226 (99) ∈ lw_tbl := tb5 (List.mem_of_getElem? (i := 53) rfl)
set_option maxRecDepth 20000 in
theorem wl_5_51 : Cond.selects RX6 yX6_note yX6_note ∈ lw_tbl := tb5 (List.mem_of_getElem? (i := 51) rfl)
set_option maxRecDepth 20000 in
theorem wl_5_50 : Cond.instanceMethod yX6_note ∈ lw_tbl := tb5 (List.mem_of_getElem? (i := 50) rfl)
set_option maxRecDepth 20000 in
theorem wl_5_49 : Cond.methodLink RL 92 yX6_note ∈ lw_tbl := tb5 (List.mem_of_getElem? (i := 49) rfl)
set_option maxRecDepth 20000 in
theorem wl_3_112 : Cond.code yX5_mark cX5_mark 5 (some .int) ∈ lw_tbl := tb3 (List.mem_of_getElem? (i := 112) rfl)
set_option maxRecDepth 20000 in
theorem wl_1_103 : Cond.fieldLink RX5 204 "PostRounders$Field" "marks" "LPostRounders$Rows;" ∈ lw_tbl := tb1 (List.mem_of_getElem? (i := 103) rfl)
set_option maxRecDepth 20000 in
theorem wl_3_111 : Cond.selects RX5 yX5_mark yX5_mark ∈ lw_tbl := tb3 (List.mem_of_getElem? (i := 111) rfl)
set_option maxRecDepth 20000 in
theorem wl_3_110 : Cond.instanceMethod yX5_mark ∈ lw_tbl := tb3 (List.mem_of_getElem? (i := 110) rfl)
set_option maxRecDepth 20000 in
theorem wl_3_109 : Cond.methodLink RL 93 yX5_mark ∈ lw_tbl := tb3 (List.mem_of_getElem? (i := 109) rfl)
set_option maxRecDepth 20000 in
theorem wl_5_57 : Cond.code yX6_mark cX6_mark 6 (some .int) ∈ lw_tbl := tb5 (List.mem_of_getElem? (i := 57) rfl)
set_option maxRecDepth 20000 in
theorem wl_5_56 : Cond.selects RX6 yX6_mark yX6_mark ∈ lw_tbl := tb5 (List.mem_of_getElem? (i := 56) rfl)
set_option maxRecDepth 20000 in
theorem wl_5_55 : Cond.instanceMethod yX6_mark ∈ lw_tbl := tb5 (List.mem_of_getElem? (i := 55) rfl)
set_option maxRecDepth 20000 in
theorem wl_5_54 : Cond.methodLink RL 97 yX6_mark ∈ lw_tbl := tb5 (List.mem_of_getElem? (i := 54) rfl)
set_option maxRecDepth 20000 in
theorem wl_3_116 : Cond.code yX5_forget cX5_forget 4 (some .int) ∈ lw_tbl := tb3 (List.mem_of_getElem? (i := 116) rfl)
set_option maxRecDepth 20000 in
theorem wl_3_115 : Cond.selects RX5 yX5_forget yX5_forget ∈ lw_tbl := tb3 (List.mem_of_getElem? (i := 115) rfl)
set_option maxRecDepth 20000 in
theorem wl_3_114 : Cond.instanceMethod yX5_forget ∈ lw_tbl := tb3 (List.mem_of_getElem? (i := 114) rfl)
set_option maxRecDepth 20000 in
theorem wl_3_113 : Cond.methodLink RL 98 yX5_forget ∈ lw_tbl := tb3 (List.mem_of_getElem? (i := 113) rfl)
set_option maxRecDepth 20000 in
theorem wl_5_61 : Cond.code yX6_forget cX6_forget 4 (some .int) ∈ lw_tbl := tb5 (List.mem_of_getElem? (i := 61) rfl)
set_option maxRecDepth 20000 in
theorem wl_5_60 : Cond.selects RX6 yX6_forget yX6_forget ∈ lw_tbl := tb5 (List.mem_of_getElem? (i := 60) rfl)
set_option maxRecDepth 20000 in
theorem wl_5_59 : Cond.instanceMethod yX6_forget ∈ lw_tbl := tb5 (List.mem_of_getElem? (i := 59) rfl)
set_option maxRecDepth 20000 in
theorem wl_5_58 : Cond.methodLink RL 101 yX6_forget ∈ lw_tbl := tb5 (List.mem_of_getElem? (i := 58) rfl)
set_option maxRecDepth 20000 in
theorem wl_3_120 : Cond.code yX5_is cX5_is 3 (some .int) ∈ lw_tbl := tb3 (List.mem_of_getElem? (i := 120) rfl)
set_option maxRecDepth 20000 in
theorem wl_3_126 : Cond.methodLink RX5 213 yX5_hitWorth ∈ lw_tbl := tb3 (List.mem_of_getElem? (i := 126) rfl)
set_option maxRecDepth 20000 in
theorem wl_3_125 : Cond.methodLink RX5 293 yX4_cell ∈ lw_tbl := tb3 (List.mem_of_getElem? (i := 125) rfl)
set_option maxRecDepth 20000 in
theorem wl_3_124 : Cond.code yX5_fitsNotes cX5_fitsNotes 5 (some .boolean) ∈ lw_tbl := tb3 (List.mem_of_getElem? (i := 124) rfl)
set_option maxRecDepth 20000 in
theorem ws_2_4 : Cond.selects RX5 yX5_fitsNotes yX5_fitsNotes ∈ lw_tbl := sb2 (q := (⟨"PostRounders", "fitsNotes", "(I)Z"⟩, 14)) (List.mem_of_getElem? (i := 4) rfl)
set_option maxRecDepth 20000 in
theorem wl_3_123 : Cond.instanceMethod yX5_fitsNotes ∈ lw_tbl := tb3 (List.mem_of_getElem? (i := 123) rfl)
set_option maxRecDepth 20000 in
theorem wl_3_121 : Cond.methodLink RX5 207 yX5_fitsNotes ∈ lw_tbl := tb3 (List.mem_of_getElem? (i := 121) rfl)
set_option maxRecDepth 20000 in
theorem wl_3_119 : Cond.selects RX5 yX5_is yX5_is ∈ lw_tbl := tb3 (List.mem_of_getElem? (i := 119) rfl)
set_option maxRecDepth 20000 in
theorem wl_3_118 : Cond.instanceMethod yX5_is ∈ lw_tbl := tb3 (List.mem_of_getElem? (i := 118) rfl)
set_option maxRecDepth 20000 in
theorem wl_3_117 : Cond.methodLink RL 102 yX5_is ∈ lw_tbl := tb3 (List.mem_of_getElem? (i := 117) rfl)
set_option maxRecDepth 20000 in
theorem wl_5_65 : Cond.code yX6_is cX6_is 5 (some .int) ∈ lw_tbl := tb5 (List.mem_of_getElem? (i := 65) rfl)
set_option maxRecDepth 20000 in
theorem wl_5_64 : Cond.selects RX6 yX6_is yX6_is ∈ lw_tbl := tb5 (List.mem_of_getElem? (i := 64) rfl)
set_option maxRecDepth 20000 in
theorem wl_5_63 : Cond.instanceMethod yX6_is ∈ lw_tbl := tb5 (List.mem_of_getElem? (i := 63) rfl)
set_option maxRecDepth 20000 in
theorem wl_5_62 : Cond.methodLink RL 105 yX6_is ∈ lw_tbl := tb5 (List.mem_of_getElem? (i := 62) rfl)
set_option maxRecDepth 20000 in
theorem wl_3_130 : Cond.code yX5_look cX5_look 6 (some .int) ∈ lw_tbl := tb3 (List.mem_of_getElem? (i := 130) rfl)
set_option maxRecDepth 20000 in
theorem wl_3_131 : Cond.methodLink RX5 210 yX5_is ∈ lw_tbl := tb3 (List.mem_of_getElem? (i := 131) rfl)
set_option maxRecDepth 20000 in
theorem wl_3_135 : Cond.code yX5_mostAlike cX5_mostAlike 6 (some .int) ∈ lw_tbl := tb3 (List.mem_of_getElem? (i := 135) rfl)
set_option maxRecDepth 20000 in
theorem ws_2_5 : Cond.selects RX5 yX5_mostAlike yX5_mostAlike ∈ lw_tbl := sb2 (q := (⟨"PostRounders", "mostAlike", "(I)I"⟩, 14)) (List.mem_of_getElem? (i := 5) rfl)
set_option maxRecDepth 20000 in
theorem wl_3_134 : Cond.instanceMethod yX5_mostAlike ∈ lw_tbl := tb3 (List.mem_of_getElem? (i := 134) rfl)
set_option maxRecDepth 20000 in
theorem wl_3_132 : Cond.methodLink RX5 216 yX5_mostAlike ∈ lw_tbl := tb3 (List.mem_of_getElem? (i := 132) rfl)
set_option maxRecDepth 20000 in
theorem wl_3_129 : Cond.selects RX5 yX5_look yX5_look ∈ lw_tbl := tb3 (List.mem_of_getElem? (i := 129) rfl)
set_option maxRecDepth 20000 in
theorem wl_3_128 : Cond.instanceMethod yX5_look ∈ lw_tbl := tb3 (List.mem_of_getElem? (i := 128) rfl)
set_option maxRecDepth 20000 in
theorem wl_3_127 : Cond.methodLink RL 106 yX5_look ∈ lw_tbl := tb3 (List.mem_of_getElem? (i := 127) rfl)
set_option maxRecDepth 20000 in
theorem wl_5_69 : Cond.code yX6_look cX6_look 9 (some .int) ∈ lw_tbl := tb5 (List.mem_of_getElem? (i := 69) rfl)
set_option maxRecDepth 20000 in
theorem wl_5_73 : Cond.code yX6_has cX6_has 2 (some .boolean) ∈ lw_tbl := tb5 (List.mem_of_getElem? (i := 73) rfl)
set_option maxRecDepth 20000 in
theorem wl_5_72 : Cond.static yX6_has ∈ lw_tbl := tb5 (List.mem_of_getElem? (i := 72) rfl)
set_option maxRecDepth 20000 in
theorem wl_5_71 : Cond.methodLink RX6 231 yX6_has ∈ lw_tbl := tb5 (List.mem_of_getElem? (i := 71) rfl)
set_option maxRecDepth 20000 in
theorem wl_5_70 : Cond.methodLink RX6 228 yX6_is ∈ lw_tbl := tb5 (List.mem_of_getElem? (i := 70) rfl)
set_option maxRecDepth 20000 in
theorem wl_5_68 : Cond.selects RX6 yX6_look yX6_look ∈ lw_tbl := tb5 (List.mem_of_getElem? (i := 68) rfl)
set_option maxRecDepth 20000 in
theorem wl_5_67 : Cond.instanceMethod yX6_look ∈ lw_tbl := tb5 (List.mem_of_getElem? (i := 67) rfl)
set_option maxRecDepth 20000 in
theorem wl_5_66 : Cond.methodLink RL 109 yX6_look ∈ lw_tbl := tb5 (List.mem_of_getElem? (i := 66) rfl)
set_option maxRecDepth 20000 in
theorem wl_3_139 : Cond.code yX5_kinds cX5_kinds 2 (some .int) ∈ lw_tbl := tb3 (List.mem_of_getElem? (i := 139) rfl)
set_option maxRecDepth 20000 in
theorem wl_3_147 : Cond.code yX5_fitsMarks cX5_fitsMarks 6 (some .boolean) ∈ lw_tbl := tb3 (List.mem_of_getElem? (i := 147) rfl)
set_option maxRecDepth 20000 in
theorem ws_2_7 : Cond.selects RX5 yX5_fitsMarks yX5_fitsMarks ∈ lw_tbl := sb2 (q := (⟨"PostRounders", "fitsMarks", "(II)Z"⟩, 14)) (List.mem_of_getElem? (i := 7) rfl)
set_option maxRecDepth 20000 in
theorem wl_3_146 : Cond.instanceMethod yX5_fitsMarks ∈ lw_tbl := tb3 (List.mem_of_getElem? (i := 146) rfl)
set_option maxRecDepth 20000 in
theorem wl_3_144 : Cond.methodLink RX5 296 yX5_fitsMarks ∈ lw_tbl := tb3 (List.mem_of_getElem? (i := 144) rfl)
set_option maxRecDepth 20000 in
theorem wl_3_143 : Cond.code yX5_battersThatFit cX5_battersThatFit 4 (some .int) ∈ lw_tbl := tb3 (List.mem_of_getElem? (i := 143) rfl)
set_option maxRecDepth 20000 in
theorem ws_2_6 : Cond.selects RX5 yX5_battersThatFit yX5_battersThatFit ∈ lw_tbl := sb2 (q := (⟨"PostRounders", "battersThatFit", "(I)I"⟩, 14)) (List.mem_of_getElem? (i := 6) rfl)
set_option maxRecDepth 20000 in
theorem wl_3_142 : Cond.instanceMethod yX5_battersThatFit ∈ lw_tbl := tb3 (List.mem_of_getElem? (i := 142) rfl)
set_option maxRecDepth 20000 in
theorem wl_3_140 : Cond.methodLink RX5 219 yX5_battersThatFit ∈ lw_tbl := tb3 (List.mem_of_getElem? (i := 140) rfl)
set_option maxRecDepth 20000 in
theorem wl_3_148 : Cond.methodLink RX5 225 yX5_postsRun ∈ lw_tbl := tb3 (List.mem_of_getElem? (i := 148) rfl)
set_option maxRecDepth 20000 in
theorem wl_3_138 : Cond.selects RX5 yX5_kinds yX5_kinds ∈ lw_tbl := tb3 (List.mem_of_getElem? (i := 138) rfl)
set_option maxRecDepth 20000 in
theorem wl_3_137 : Cond.instanceMethod yX5_kinds ∈ lw_tbl := tb3 (List.mem_of_getElem? (i := 137) rfl)
set_option maxRecDepth 20000 in
theorem wl_3_136 : Cond.methodLink RL 110 yX5_kinds ∈ lw_tbl := tb3 (List.mem_of_getElem? (i := 136) rfl)
set_option maxRecDepth 20000 in
theorem wl_5_77 : Cond.code yX6_kinds cX6_kinds 2 (some .int) ∈ lw_tbl := tb5 (List.mem_of_getElem? (i := 77) rfl)
set_option maxRecDepth 20000 in
theorem wl_5_81 : Cond.code yX6_whatOf cX6_whatOf 6 (some .int) ∈ lw_tbl := tb5 (List.mem_of_getElem? (i := 81) rfl)
set_option maxRecDepth 20000 in
theorem ws_4_14 : Cond.selects RX6 yX6_whatOf yX6_whatOf ∈ lw_tbl := sb4 (q := (⟨"PostRoundersModel", "whatOf", "(I)I"⟩, 14)) (List.mem_of_getElem? (i := 14) rfl)
set_option maxRecDepth 20000 in
theorem wl_5_80 : Cond.instanceMethod yX6_whatOf ∈ lw_tbl := tb5 (List.mem_of_getElem? (i := 80) rfl)
set_option maxRecDepth 20000 in
theorem wl_5_78 : Cond.methodLink RX6 234 yX6_whatOf ∈ lw_tbl := tb5 (List.mem_of_getElem? (i := 78) rfl)
set_option maxRecDepth 20000 in
theorem wl_5_76 : Cond.selects RX6 yX6_kinds yX6_kinds ∈ lw_tbl := tb5 (List.mem_of_getElem? (i := 76) rfl)
set_option maxRecDepth 20000 in
theorem wl_5_75 : Cond.instanceMethod yX6_kinds ∈ lw_tbl := tb5 (List.mem_of_getElem? (i := 75) rfl)
set_option maxRecDepth 20000 in
theorem wl_5_74 : Cond.methodLink RL 113 yX6_kinds ∈ lw_tbl := tb5 (List.mem_of_getElem? (i := 74) rfl)
set_option maxRecDepth 20000 in
theorem wl_3_152 : Cond.code yX5_ask cX5_ask 7 (some .int) ∈ lw_tbl := tb3 (List.mem_of_getElem? (i := 152) rfl)
set_option maxRecDepth 20000 in
theorem wl_1_43 : Cond.fieldLink RX5 222 "PostRounders$Play" "legs" "[I" ∈ lw_tbl := tb1 (List.mem_of_getElem? (i := 43) rfl)
set_option maxRecDepth 20000 in
theorem wl_3_151 : Cond.selects RX5 yX5_ask yX5_ask ∈ lw_tbl := tb3 (List.mem_of_getElem? (i := 151) rfl)
set_option maxRecDepth 20000 in
theorem wl_3_150 : Cond.instanceMethod yX5_ask ∈ lw_tbl := tb3 (List.mem_of_getElem? (i := 150) rfl)
set_option maxRecDepth 20000 in
theorem wl_3_149 : Cond.methodLink RL 114 yX5_ask ∈ lw_tbl := tb3 (List.mem_of_getElem? (i := 149) rfl)
set_option maxRecDepth 20000 in
theorem wl_5_85 : Cond.code yX6_ask cX6_ask 11 (some .int) ∈ lw_tbl := tb5 (List.mem_of_getElem? (i := 85) rfl)
set_option maxRecDepth 20000 in
theorem wl_5_84 : Cond.selects RX6 yX6_ask yX6_ask ∈ lw_tbl := tb5 (List.mem_of_getElem? (i := 84) rfl)
set_option maxRecDepth 20000 in
theorem wl_5_83 : Cond.instanceMethod yX6_ask ∈ lw_tbl := tb5 (List.mem_of_getElem? (i := 83) rfl)
set_option maxRecDepth 20000 in
theorem wl_5_82 : Cond.methodLink RL 117 yX6_ask ∈ lw_tbl := tb5 (List.mem_of_getElem? (i := 82) rfl)
set_option maxRecDepth 20000 in
theorem wl_3_156 : Cond.code yX5_captains cX5_captains 5 (some .int) ∈ lw_tbl := tb3 (List.mem_of_getElem? (i := 156) rfl)
set_option maxRecDepth 20000 in
theorem wl_3_160 : Cond.code yX5_fillGains cX5_fillGains 3 none ∈ lw_tbl := tb3 (List.mem_of_getElem? (i := 160) rfl)
set_option maxRecDepth 20000 in
theorem ws_2_8 : Cond.selects RX5 yX5_fillGains yX5_fillGains ∈ lw_tbl := sb2 (q := (⟨"PostRounders", "fillGains", "()V"⟩, 14)) (List.mem_of_getElem? (i := 8) rfl)
set_option maxRecDepth 20000 in
theorem wl_3_159 : Cond.instanceMethod yX5_fillGains ∈ lw_tbl := tb3 (List.mem_of_getElem? (i := 159) rfl)
set_option maxRecDepth 20000 in
theorem wl_3_157 : Cond.methodLink RX5 228 yX5_fillGains ∈ lw_tbl := tb3 (List.mem_of_getElem? (i := 157) rfl)
set_option maxRecDepth 20000 in
theorem wl_3_164 : Cond.code yX5_rests cX5_rests 5 (some .boolean) ∈ lw_tbl := tb3 (List.mem_of_getElem? (i := 164) rfl)
set_option maxRecDepth 20000 in
theorem ws_2_9 : Cond.selects RX5 yX5_rests yX5_rests ∈ lw_tbl := sb2 (q := (⟨"PostRounders", "rests", "(II)Z"⟩, 14)) (List.mem_of_getElem? (i := 9) rfl)
set_option maxRecDepth 20000 in
theorem wl_3_163 : Cond.instanceMethod yX5_rests ∈ lw_tbl := tb3 (List.mem_of_getElem? (i := 163) rfl)
set_option maxRecDepth 20000 in
theorem wl_3_161 : Cond.methodLink RX5 231 yX5_rests ∈ lw_tbl := tb3 (List.mem_of_getElem? (i := 161) rfl)
set_option maxRecDepth 20000 in
theorem wl_3_155 : Cond.selects RX5 yX5_captains yX5_captains ∈ lw_tbl := tb3 (List.mem_of_getElem? (i := 155) rfl)
set_option maxRecDepth 20000 in
theorem wl_3_154 : Cond.instanceMethod yX5_captains ∈ lw_tbl := tb3 (List.mem_of_getElem? (i := 154) rfl)
set_option maxRecDepth 20000 in
theorem wl_3_153 : Cond.methodLink RL 118 yX5_captains ∈ lw_tbl := tb3 (List.mem_of_getElem? (i := 153) rfl)
set_option maxRecDepth 20000 in
theorem wl_5_89 : Cond.code yX6_captains cX6_captains 4 (some .int) ∈ lw_tbl := tb5 (List.mem_of_getElem? (i := 89) rfl)
set_option maxRecDepth 20000 in
theorem wl_5_93 : Cond.code yX6_rests cX6_rests 5 (some .boolean) ∈ lw_tbl := tb5 (List.mem_of_getElem? (i := 93) rfl)
set_option maxRecDepth 20000 in
theorem ws_4_15 : Cond.selects RX6 yX6_rests yX6_rests ∈ lw_tbl := sb4 (q := (⟨"PostRoundersModel", "rests", "(II)Z"⟩, 14)) (List.mem_of_getElem? (i := 15) rfl)
set_option maxRecDepth 20000 in
theorem wl_5_92 : Cond.instanceMethod yX6_rests ∈ lw_tbl := tb5 (List.mem_of_getElem? (i := 92) rfl)
set_option maxRecDepth 20000 in
theorem wl_5_90 : Cond.methodLink RX6 237 yX6_rests ∈ lw_tbl := tb5 (List.mem_of_getElem? (i := 90) rfl)
set_option maxRecDepth 20000 in
theorem wl_5_88 : Cond.selects RX6 yX6_captains yX6_captains ∈ lw_tbl := tb5 (List.mem_of_getElem? (i := 88) rfl)
set_option maxRecDepth 20000 in
theorem wl_5_87 : Cond.instanceMethod yX6_captains ∈ lw_tbl := tb5 (List.mem_of_getElem? (i := 87) rfl)
set_option maxRecDepth 20000 in
theorem wl_5_86 : Cond.methodLink RL 121 yX6_captains ∈ lw_tbl := tb5 (List.mem_of_getElem? (i := 86) rfl)
set_option maxRecDepth 20000 in
theorem wl_3_168 : Cond.code yX5_days cX5_days 7 (some .int) ∈ lw_tbl := tb3 (List.mem_of_getElem? (i := 168) rfl)
set_option maxRecDepth 20000 in
theorem wl_3_174 : Cond.constantLong RX5 244 (10) ∈ lw_tbl := tb3 (List.mem_of_getElem? (i := 174) rfl)
set_option maxRecDepth 20000 in
theorem wl_3_173 : Cond.constantLong RX5 242 (65536) ∈ lw_tbl := tb3 (List.mem_of_getElem? (i := 173) rfl)
set_option maxRecDepth 20000 in
theorem wl_3_172 : Cond.constantLong RX5 240 (2147483648) ∈ lw_tbl := tb3 (List.mem_of_getElem? (i := 172) rfl)
set_option maxRecDepth 20000 in
theorem wl_3_171 : Cond.constantLong RX5 238 (12345) ∈ lw_tbl := tb3 (List.mem_of_getElem? (i := 171) rfl)
set_option maxRecDepth 20000 in
theorem wl_3_170 : Cond.constantLong RX5 236 (1103515245) ∈ lw_tbl := tb3 (List.mem_of_getElem? (i := 170) rfl)
set_option maxRecDepth 20000 in
theorem wl_3_169 : Cond.constant RX5 235 (999999) ∈ lw_tbl := tb3 (List.mem_of_getElem? (i := 169) rfl)
set_option maxRecDepth 20000 in
theorem wl_3_167 : Cond.selects RX5 yX5_days yX5_days ∈ lw_tbl := tb3 (List.mem_of_getElem? (i := 167) rfl)
set_option maxRecDepth 20000 in
theorem wl_3_166 : Cond.instanceMethod yX5_days ∈ lw_tbl := tb3 (List.mem_of_getElem? (i := 166) rfl)
set_option maxRecDepth 20000 in
theorem wl_3_165 : Cond.methodLink RL 122 yX5_days ∈ lw_tbl := tb3 (List.mem_of_getElem? (i := 165) rfl)
set_option maxRecDepth 20000 in
theorem wl_5_97 : Cond.code yX6_days cX6_days 7 (some .int) ∈ lw_tbl := tb5 (List.mem_of_getElem? (i := 97) rfl)
set_option maxRecDepth 20000 in
theorem wl_5_104 : Cond.constantLong RX6 252 (10) ∈ lw_tbl := tb5 (List.mem_of_getElem? (i := 104) rfl)
set_option maxRecDepth 20000 in
theorem wl_5_103 : Cond.constantLong RX6 250 (65536) ∈ lw_tbl := tb5 (List.mem_of_getElem? (i := 103) rfl)
set_option maxRecDepth 20000 in
theorem wl_5_102 : Cond.constantLong RX6 248 (2147483648) ∈ lw_tbl := tb5 (List.mem_of_getElem? (i := 102) rfl)
set_option maxRecDepth 20000 in
theorem wl_5_101 : Cond.constantLong RX6 246 (12345) ∈ lw_tbl := tb5 (List.mem_of_getElem? (i := 101) rfl)
set_option maxRecDepth 20000 in
theorem wl_5_100 : Cond.constantLong RX6 244 (1103515245) ∈ lw_tbl := tb5 (List.mem_of_getElem? (i := 100) rfl)
set_option maxRecDepth 20000 in
theorem wl_5_99 : Cond.constantLong RX6 242 (60) ∈ lw_tbl := tb5 (List.mem_of_getElem? (i := 99) rfl)
set_option maxRecDepth 20000 in
theorem wl_5_98 : Cond.constantLong RX6 240 (999999) ∈ lw_tbl := tb5 (List.mem_of_getElem? (i := 98) rfl)
set_option maxRecDepth 20000 in
theorem wl_5_96 : Cond.selects RX6 yX6_days yX6_days ∈ lw_tbl := tb5 (List.mem_of_getElem? (i := 96) rfl)
set_option maxRecDepth 20000 in
theorem wl_5_95 : Cond.instanceMethod yX6_days ∈ lw_tbl := tb5 (List.mem_of_getElem? (i := 95) rfl)
set_option maxRecDepth 20000 in
theorem wl_5_94 : Cond.methodLink RL 125 yX6_days ∈ lw_tbl := tb5 (List.mem_of_getElem? (i := 94) rfl)
set_option maxRecDepth 20000 in
theorem wl_3_178 : Cond.code yX5_part cX5_part 2 (some .long) ∈ lw_tbl := tb3 (List.mem_of_getElem? (i := 178) rfl)
set_option maxRecDepth 20000 in
theorem wl_3_177 : Cond.selects RX5 yX5_part yX5_part ∈ lw_tbl := tb3 (List.mem_of_getElem? (i := 177) rfl)
set_option maxRecDepth 20000 in
theorem wl_3_176 : Cond.instanceMethod yX5_part ∈ lw_tbl := tb3 (List.mem_of_getElem? (i := 176) rfl)
set_option maxRecDepth 20000 in
theorem wl_3_175 : Cond.methodLink RL 126 yX5_part ∈ lw_tbl := tb3 (List.mem_of_getElem? (i := 175) rfl)
set_option maxRecDepth 20000 in
theorem wl_5_108 : Cond.code yX6_part cX6_part 2 (some .long) ∈ lw_tbl := tb5 (List.mem_of_getElem? (i := 108) rfl)
set_option maxRecDepth 20000 in
theorem wl_5_107 : Cond.selects RX6 yX6_part yX6_part ∈ lw_tbl := tb5 (List.mem_of_getElem? (i := 107) rfl)
set_option maxRecDepth 20000 in
theorem wl_5_106 : Cond.instanceMethod yX6_part ∈ lw_tbl := tb5 (List.mem_of_getElem? (i := 106) rfl)
set_option maxRecDepth 20000 in
theorem wl_5_105 : Cond.methodLink RL 130 yX6_part ∈ lw_tbl := tb5 (List.mem_of_getElem? (i := 105) rfl)
set_option maxRecDepth 20000 in
theorem wl_3_182 : Cond.code yX5_image cX5_image 2 (some .int) ∈ lw_tbl := tb3 (List.mem_of_getElem? (i := 182) rfl)
set_option maxRecDepth 20000 in
theorem wl_3_185 : Cond.code yX5_isImage cX5_isImage 1 (some .boolean) ∈ lw_tbl := tb3 (List.mem_of_getElem? (i := 185) rfl)
set_option maxRecDepth 20000 in
theorem wl_3_184 : Cond.static yX5_isImage ∈ lw_tbl := tb3 (List.mem_of_getElem? (i := 184) rfl)
set_option maxRecDepth 20000 in
theorem wl_3_183 : Cond.methodLink RX5 249 yX5_isImage ∈ lw_tbl := tb3 (List.mem_of_getElem? (i := 183) rfl)
set_option maxRecDepth 20000 in
theorem wl_3_190 : Cond.methodLink RX1 50 yX2_copy ∈ lw_tbl := tb3 (List.mem_of_getElem? (i := 190) rfl)
set_option maxRecDepth 20000 in
theorem wl_3_191 : Cond.methodLink RX1 54 arraycopyName ∈ lw_tbl := tb3 (List.mem_of_getElem? (i := 191) rfl)
set_option maxRecDepth 20000 in
theorem wl_3_189 : Cond.code yX1_copy cX1_copy 2 none ∈ lw_tbl := tb3 (List.mem_of_getElem? (i := 189) rfl)
set_option maxRecDepth 20000 in
theorem wl_3_188 : Cond.selects RX1 yX1_copy yX1_copy ∈ lw_tbl := tb3 (List.mem_of_getElem? (i := 188) rfl)
set_option maxRecDepth 20000 in
theorem wl_3_187 : Cond.instanceMethod yX1_copy ∈ lw_tbl := tb3 (List.mem_of_getElem? (i := 187) rfl)
set_option maxRecDepth 20000 in
theorem wl_3_186 : Cond.methodLink RX5 252 yX1_copy ∈ lw_tbl := tb3 (List.mem_of_getElem? (i := 186) rfl)
set_option maxRecDepth 20000 in
theorem wl_3_196 : Cond.methodLink RX4 32 Lib.Math.min.name ∈ lw_tbl := tb3 (List.mem_of_getElem? (i := 196) rfl)
set_option maxRecDepth 20000 in
theorem wl_3_195 : Cond.code yX4_copy cX4_copy 2 none ∈ lw_tbl := tb3 (List.mem_of_getElem? (i := 195) rfl)
set_option maxRecDepth 20000 in
theorem wl_3_194 : Cond.selects RX4 yX4_copy yX4_copy ∈ lw_tbl := tb3 (List.mem_of_getElem? (i := 194) rfl)
set_option maxRecDepth 20000 in
theorem wl_3_193 : Cond.instanceMethod yX4_copy ∈ lw_tbl := tb3 (List.mem_of_getElem? (i := 193) rfl)
set_option maxRecDepth 20000 in
theorem wl_3_192 : Cond.methodLink RX1 60 yX4_copy ∈ lw_tbl := tb3 (List.mem_of_getElem? (i := 192) rfl)
set_option maxRecDepth 20000 in
theorem wl_3_181 : Cond.selects RX5 yX5_image yX5_image ∈ lw_tbl := tb3 (List.mem_of_getElem? (i := 181) rfl)
set_option maxRecDepth 20000 in
theorem wl_3_180 : Cond.instanceMethod yX5_image ∈ lw_tbl := tb3 (List.mem_of_getElem? (i := 180) rfl)
set_option maxRecDepth 20000 in
theorem wl_3_179 : Cond.methodLink RL 131 yX5_image ∈ lw_tbl := tb3 (List.mem_of_getElem? (i := 179) rfl)
set_option maxRecDepth 20000 in
theorem wl_5_112 : Cond.code yX6_image cX6_image 2 (some .int) ∈ lw_tbl := tb5 (List.mem_of_getElem? (i := 112) rfl)
set_option maxRecDepth 20000 in
theorem wl_5_111 : Cond.selects RX6 yX6_image yX6_image ∈ lw_tbl := tb5 (List.mem_of_getElem? (i := 111) rfl)
set_option maxRecDepth 20000 in
theorem wl_5_110 : Cond.instanceMethod yX6_image ∈ lw_tbl := tb5 (List.mem_of_getElem? (i := 110) rfl)
set_option maxRecDepth 20000 in
theorem wl_5_109 : Cond.methodLink RL 134 yX6_image ∈ lw_tbl := tb5 (List.mem_of_getElem? (i := 109) rfl)
set_option maxRecDepth 20000 in
theorem wl_3_200 : Cond.code yX5_from cX5_from 2 (some .int) ∈ lw_tbl := tb3 (List.mem_of_getElem? (i := 200) rfl)
set_option maxRecDepth 20000 in
theorem wl_3_199 : Cond.selects RX5 yX5_from yX5_from ∈ lw_tbl := tb3 (List.mem_of_getElem? (i := 199) rfl)
set_option maxRecDepth 20000 in
theorem wl_3_198 : Cond.instanceMethod yX5_from ∈ lw_tbl := tb3 (List.mem_of_getElem? (i := 198) rfl)
set_option maxRecDepth 20000 in
theorem wl_3_197 : Cond.methodLink RL 135 yX5_from ∈ lw_tbl := tb3 (List.mem_of_getElem? (i := 197) rfl)
set_option maxRecDepth 20000 in
theorem wl_5_116 : Cond.code yX6_from cX6_from 2 (some .int) ∈ lw_tbl := tb5 (List.mem_of_getElem? (i := 116) rfl)
set_option maxRecDepth 20000 in
theorem wl_5_115 : Cond.selects RX6 yX6_from yX6_from ∈ lw_tbl := tb5 (List.mem_of_getElem? (i := 115) rfl)
set_option maxRecDepth 20000 in
theorem wl_5_114 : Cond.instanceMethod yX6_from ∈ lw_tbl := tb5 (List.mem_of_getElem? (i := 114) rfl)
set_option maxRecDepth 20000 in
theorem wl_5_113 : Cond.methodLink RL 138 yX6_from ∈ lw_tbl := tb5 (List.mem_of_getElem? (i := 113) rfl)
set_option maxRecDepth 20000 in
theorem wl_3_204 : Cond.code yX5_status cX5_status 2 (some .int) ∈ lw_tbl := tb3 (List.mem_of_getElem? (i := 204) rfl)
set_option maxRecDepth 20000 in
theorem wl_3_203 : Cond.selects RX5 yX5_status yX5_status ∈ lw_tbl := tb3 (List.mem_of_getElem? (i := 203) rfl)
set_option maxRecDepth 20000 in
theorem wl_3_202 : Cond.instanceMethod yX5_status ∈ lw_tbl := tb3 (List.mem_of_getElem? (i := 202) rfl)
set_option maxRecDepth 20000 in
theorem wl_3_201 : Cond.methodLink RL 139 yX5_status ∈ lw_tbl := tb3 (List.mem_of_getElem? (i := 201) rfl)
set_option maxRecDepth 20000 in
theorem wl_5_120 : Cond.code yX6_status cX6_status 2 (some .int) ∈ lw_tbl := tb5 (List.mem_of_getElem? (i := 120) rfl)
set_option maxRecDepth 20000 in
theorem wl_5_119 : Cond.selects RX6 yX6_status yX6_status ∈ lw_tbl := tb5 (List.mem_of_getElem? (i := 119) rfl)
set_option maxRecDepth 20000 in
theorem wl_5_118 : Cond.instanceMethod yX6_status ∈ lw_tbl := tb5 (List.mem_of_getElem? (i := 118) rfl)
set_option maxRecDepth 20000 in
theorem wl_5_117 : Cond.methodLink RL 142 yX6_status ∈ lw_tbl := tb5 (List.mem_of_getElem? (i := 117) rfl)
set_option maxRecDepth 20000 in
theorem wl_3_208 : Cond.code yX5_count cX5_count 2 (some .int) ∈ lw_tbl := tb3 (List.mem_of_getElem? (i := 208) rfl)
set_option maxRecDepth 20000 in
theorem wl_3_212 : Cond.code yX2_howManyAt cX2_howManyAt 5 (some .int) ∈ lw_tbl := tb3 (List.mem_of_getElem? (i := 212) rfl)
set_option maxRecDepth 20000 in
theorem wl_3_211 : Cond.selects RX2 yX2_howManyAt yX2_howManyAt ∈ lw_tbl := tb3 (List.mem_of_getElem? (i := 211) rfl)
set_option maxRecDepth 20000 in
theorem wl_3_210 : Cond.instanceMethod yX2_howManyAt ∈ lw_tbl := tb3 (List.mem_of_getElem? (i := 210) rfl)
set_option maxRecDepth 20000 in
theorem wl_3_209 : Cond.methodLink RX5 255 yX2_howManyAt ∈ lw_tbl := tb3 (List.mem_of_getElem? (i := 209) rfl)
set_option maxRecDepth 20000 in
theorem wl_3_207 : Cond.selects RX5 yX5_count yX5_count ∈ lw_tbl := tb3 (List.mem_of_getElem? (i := 207) rfl)
set_option maxRecDepth 20000 in
theorem wl_3_206 : Cond.instanceMethod yX5_count ∈ lw_tbl := tb3 (List.mem_of_getElem? (i := 206) rfl)
set_option maxRecDepth 20000 in
theorem wl_3_205 : Cond.methodLink RL 143 yX5_count ∈ lw_tbl := tb3 (List.mem_of_getElem? (i := 205) rfl)
set_option maxRecDepth 20000 in
theorem wl_5_124 : Cond.code yX6_count cX6_count 2 (some .int) ∈ lw_tbl := tb5 (List.mem_of_getElem? (i := 124) rfl)
set_option maxRecDepth 20000 in
theorem wl_5_133 : Cond.code yX6_areAt cX6_areAt 5 (some .int) ∈ lw_tbl := tb5 (List.mem_of_getElem? (i := 133) rfl)
set_option maxRecDepth 20000 in
theorem ws_5_1 : Cond.selects RX6 yX6_areAt yX6_areAt ∈ lw_tbl := sb5 (q := (⟨"PostRoundersModel", "areAt", "(II)I"⟩, 14)) (List.mem_of_getElem? (i := 1) rfl)
set_option maxRecDepth 20000 in
theorem wl_5_132 : Cond.instanceMethod yX6_areAt ∈ lw_tbl := tb5 (List.mem_of_getElem? (i := 132) rfl)
set_option maxRecDepth 20000 in
theorem wl_5_130 : Cond.methodLink RX6 254 yX6_areAt ∈ lw_tbl := tb5 (List.mem_of_getElem? (i := 130) rfl)
set_option maxRecDepth 20000 in
theorem wl_5_129 : Cond.code yX6_countOf cX6_countOf 2 (some .int) ∈ lw_tbl := tb5 (List.mem_of_getElem? (i := 129) rfl)
set_option maxRecDepth 20000 in
theorem ws_5_0 : Cond.selects RX6 yX6_countOf yX6_countOf ∈ lw_tbl := sb5 (q := (⟨"PostRoundersModel", "countOf", "(I)I"⟩, 14)) (List.mem_of_getElem? (i := 0) rfl)
set_option maxRecDepth 20000 in
theorem wl_5_128 : Cond.instanceMethod yX6_countOf ∈ lw_tbl := tb5 (List.mem_of_getElem? (i := 128) rfl)
set_option maxRecDepth 20000 in
theorem wl_5_126 : Cond.methodLink RX6 259 yX6_countOf ∈ lw_tbl := tb5 (List.mem_of_getElem? (i := 126) rfl)
set_option maxRecDepth 20000 in
theorem wl_5_125 : Cond.constantLong RX6 257 (11) ∈ lw_tbl := tb5 (List.mem_of_getElem? (i := 125) rfl)
set_option maxRecDepth 20000 in
theorem wl_5_123 : Cond.selects RX6 yX6_count yX6_count ∈ lw_tbl := tb5 (List.mem_of_getElem? (i := 123) rfl)
set_option maxRecDepth 20000 in
theorem wl_5_122 : Cond.instanceMethod yX6_count ∈ lw_tbl := tb5 (List.mem_of_getElem? (i := 122) rfl)
set_option maxRecDepth 20000 in
theorem wl_5_121 : Cond.methodLink RL 146 yX6_count ∈ lw_tbl := tb5 (List.mem_of_getElem? (i := 121) rfl)
set_option maxRecDepth 20000 in
theorem wl_3_216 : Cond.code yX5_digest cX5_digest 5 (some .long) ∈ lw_tbl := tb3 (List.mem_of_getElem? (i := 216) rfl)
set_option maxRecDepth 20000 in
theorem wl_3_219 : Cond.methodLink RX5 262 yX5_count ∈ lw_tbl := tb3 (List.mem_of_getElem? (i := 219) rfl)
set_option maxRecDepth 20000 in
theorem wl_3_218 : Cond.constantLong RX5 260 (31) ∈ lw_tbl := tb3 (List.mem_of_getElem? (i := 218) rfl)
set_option maxRecDepth 20000 in
theorem wl_3_217 : Cond.constantLong RX5 258 (1873) ∈ lw_tbl := tb3 (List.mem_of_getElem? (i := 217) rfl)
set_option maxRecDepth 20000 in
theorem wl_3_224 : Cond.constantLong RX4 35 (31) ∈ lw_tbl := tb3 (List.mem_of_getElem? (i := 224) rfl)
set_option maxRecDepth 20000 in
theorem wl_3_223 : Cond.code yX4_digestFrom cX4_digestFrom 4 (some .long) ∈ lw_tbl := tb3 (List.mem_of_getElem? (i := 223) rfl)
set_option maxRecDepth 20000 in
theorem wl_3_222 : Cond.selects RX4 yX4_digestFrom yX4_digestFrom ∈ lw_tbl := tb3 (List.mem_of_getElem? (i := 222) rfl)
set_option maxRecDepth 20000 in
theorem wl_3_221 : Cond.instanceMethod yX4_digestFrom ∈ lw_tbl := tb3 (List.mem_of_getElem? (i := 221) rfl)
set_option maxRecDepth 20000 in
theorem wl_3_220 : Cond.methodLink RX5 265 yX4_digestFrom ∈ lw_tbl := tb3 (List.mem_of_getElem? (i := 220) rfl)
set_option maxRecDepth 20000 in
theorem wl_3_215 : Cond.selects RX5 yX5_digest yX5_digest ∈ lw_tbl := tb3 (List.mem_of_getElem? (i := 215) rfl)
set_option maxRecDepth 20000 in
theorem wl_3_214 : Cond.instanceMethod yX5_digest ∈ lw_tbl := tb3 (List.mem_of_getElem? (i := 214) rfl)
set_option maxRecDepth 20000 in
theorem wl_3_213 : Cond.methodLink RL 147 yX5_digest ∈ lw_tbl := tb3 (List.mem_of_getElem? (i := 213) rfl)
set_option maxRecDepth 20000 in
theorem wl_5_137 : Cond.code yX6_digest cX6_digest 2 (some .long) ∈ lw_tbl := tb5 (List.mem_of_getElem? (i := 137) rfl)
set_option maxRecDepth 20000 in
theorem wl_5_144 : Cond.methodLink RX6 273 yX6_mixes ∈ lw_tbl := tb5 (List.mem_of_getElem? (i := 144) rfl)
set_option maxRecDepth 20000 in
theorem wl_5_143 : Cond.constantLong RX6 262 (31) ∈ lw_tbl := tb5 (List.mem_of_getElem? (i := 143) rfl)
set_option maxRecDepth 20000 in
theorem wl_5_142 : Cond.code yX6_mix cX6_mix 3 none ∈ lw_tbl := tb5 (List.mem_of_getElem? (i := 142) rfl)
set_option maxRecDepth 20000 in
theorem ws_5_2 : Cond.selects RX6 yX6_mix yX6_mix ∈ lw_tbl := sb5 (q := (⟨"PostRoundersModel", "mix", "(J)V"⟩, 14)) (List.mem_of_getElem? (i := 2) rfl)
set_option maxRecDepth 20000 in
theorem wl_5_141 : Cond.instanceMethod yX6_mix ∈ lw_tbl := tb5 (List.mem_of_getElem? (i := 141) rfl)
set_option maxRecDepth 20000 in
theorem wl_5_139 : Cond.methodLink RX6 267 yX6_mix ∈ lw_tbl := tb5 (List.mem_of_getElem? (i := 139) rfl)
set_option maxRecDepth 20000 in
theorem wl_4_12 : Cond.fieldLink RX6 264 "PostRoundersModel" "h0" "J" ∈ lw_tbl := tb4 (List.mem_of_getElem? (i := 12) rfl)
set_option maxRecDepth 20000 in
theorem wl_5_138 : Cond.constantLong RX6 271 (1873) ∈ lw_tbl := tb5 (List.mem_of_getElem? (i := 138) rfl)
set_option maxRecDepth 20000 in
theorem wl_5_147 : Cond.code yX6_mixes cX6_mixes 4 none ∈ lw_tbl := tb5 (List.mem_of_getElem? (i := 147) rfl)
set_option maxRecDepth 20000 in
theorem ws_5_3 : Cond.selects RX6 yX6_mixes yX6_mixes ∈ lw_tbl := sb5 (q := (⟨"PostRoundersModel", "mixes", "(II)V"⟩, 14)) (List.mem_of_getElem? (i := 3) rfl)
set_option maxRecDepth 20000 in
theorem wl_5_146 : Cond.instanceMethod yX6_mixes ∈ lw_tbl := tb5 (List.mem_of_getElem? (i := 146) rfl)
set_option maxRecDepth 20000 in
theorem wl_5_136 : Cond.selects RX6 yX6_digest yX6_digest ∈ lw_tbl := tb5 (List.mem_of_getElem? (i := 136) rfl)
set_option maxRecDepth 20000 in
theorem wl_5_135 : Cond.instanceMethod yX6_digest ∈ lw_tbl := tb5 (List.mem_of_getElem? (i := 135) rfl)
set_option maxRecDepth 20000 in
theorem wl_5_134 : Cond.methodLink RL 151 yX6_digest ∈ lw_tbl := tb5 (List.mem_of_getElem? (i := 134) rfl)
