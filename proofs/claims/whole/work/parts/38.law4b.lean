set_option maxRecDepth 20000 in
theorem gL_law_X5_init : GoodIn lw_tbl (wsX5_init) := goodIn_m wsX5_init_in (by decide +kernel)
set_option maxRecDepth 20000 in
theorem gL_law_X6_init : GoodIn lw_tbl (wsX6_init) := goodIn_m wsX6_init_in (by decide +kernel)
set_option maxRecDepth 20000 in
theorem gL_law_X5_field : GoodIn lw_tbl (wsV RL 13 RX5 yX5_field wsX5_field) := goodIn_m (List.forall_mem_append.mpr ⟨(List.forall_mem_cons.mpr ⟨wl_1_216, (List.forall_mem_cons.mpr ⟨wl_1_217, (List.forall_mem_cons.mpr ⟨wl_1_218, (List.forall_mem_cons.mpr ⟨wl_1_1, (fun _ h => absurd h List.not_mem_nil)⟩)⟩)⟩)⟩), wsX5_field_in⟩) (by decide +kernel)
set_option maxRecDepth 20000 in
theorem gL_law_X6_field : GoodIn lw_tbl (wsV RL 17 RX6 yX6_field wsX6_field) := goodIn_m (List.forall_mem_append.mpr ⟨(List.forall_mem_cons.mpr ⟨wl_4_43, (List.forall_mem_cons.mpr ⟨wl_4_44, (List.forall_mem_cons.mpr ⟨wl_4_45, (List.forall_mem_cons.mpr ⟨wl_1_9, (fun _ h => absurd h List.not_mem_nil)⟩)⟩)⟩)⟩), wsX6_field_in⟩) (by decide +kernel)
set_option maxRecDepth 20000 in
theorem gL_law_X5_bowler : GoodIn lw_tbl (wsV RL 18 RX5 yX5_bowler wsX5_bowler) := goodIn_m (List.forall_mem_append.mpr ⟨(List.forall_mem_cons.mpr ⟨wl_2_2, (List.forall_mem_cons.mpr ⟨wl_2_3, (List.forall_mem_cons.mpr ⟨wl_2_4, (List.forall_mem_cons.mpr ⟨wl_1_1, (fun _ h => absurd h List.not_mem_nil)⟩)⟩)⟩)⟩), wsX5_bowler_in⟩) (by decide +kernel)
set_option maxRecDepth 20000 in
theorem gL_law_X6_bowler : GoodIn lw_tbl (wsV RL 21 RX6 yX6_bowler wsX6_bowler) := goodIn_m (List.forall_mem_append.mpr ⟨(List.forall_mem_cons.mpr ⟨wl_4_55, (List.forall_mem_cons.mpr ⟨wl_4_56, (List.forall_mem_cons.mpr ⟨wl_4_57, (List.forall_mem_cons.mpr ⟨wl_1_9, (fun _ h => absurd h List.not_mem_nil)⟩)⟩)⟩)⟩), wsX6_bowler_in⟩) (by decide +kernel)
set_option maxRecDepth 20000 in
theorem gL_law_X5_batter : GoodIn lw_tbl (wsV RL 22 RX5 yX5_batter wsX5_batter) := goodIn_m (List.forall_mem_append.mpr ⟨(List.forall_mem_cons.mpr ⟨wl_2_7, (List.forall_mem_cons.mpr ⟨wl_2_8, (List.forall_mem_cons.mpr ⟨wl_2_9, (List.forall_mem_cons.mpr ⟨wl_1_1, (fun _ h => absurd h List.not_mem_nil)⟩)⟩)⟩)⟩), wsX5_batter_in⟩) (by decide +kernel)
set_option maxRecDepth 20000 in
theorem gL_law_X6_batter : GoodIn lw_tbl (wsV RL 26 RX6 yX6_batter wsX6_batter) := goodIn_m (List.forall_mem_append.mpr ⟨(List.forall_mem_cons.mpr ⟨wl_4_59, (List.forall_mem_cons.mpr ⟨wl_4_60, (List.forall_mem_cons.mpr ⟨wl_4_61, (List.forall_mem_cons.mpr ⟨wl_1_9, (fun _ h => absurd h List.not_mem_nil)⟩)⟩)⟩)⟩), wsX6_batter_in⟩) (by decide +kernel)
set_option maxRecDepth 20000 in
theorem gL_law_X5_type : GoodIn lw_tbl (wsV RL 27 RX5 yX5_type wsX5_type) := goodIn_m (List.forall_mem_append.mpr ⟨(List.forall_mem_cons.mpr ⟨wl_2_15, (List.forall_mem_cons.mpr ⟨wl_2_16, (List.forall_mem_cons.mpr ⟨wl_2_17, (List.forall_mem_cons.mpr ⟨wl_1_1, (fun _ h => absurd h List.not_mem_nil)⟩)⟩)⟩)⟩), wsX5_type_in⟩) (by decide +kernel)
set_option maxRecDepth 20000 in
theorem gL_law_X6_type : GoodIn lw_tbl (wsV RL 30 RX6 yX6_type wsX6_type) := goodIn_m (List.forall_mem_append.mpr ⟨(List.forall_mem_cons.mpr ⟨wl_4_75, (List.forall_mem_cons.mpr ⟨wl_4_76, (List.forall_mem_cons.mpr ⟨wl_4_77, (List.forall_mem_cons.mpr ⟨wl_1_9, (fun _ h => absurd h List.not_mem_nil)⟩)⟩)⟩)⟩), wsX6_type_in⟩) (by decide +kernel)
set_option maxRecDepth 20000 in
theorem gL_law_X5_clear : GoodIn lw_tbl (wsV RL 31 RX5 yX5_clear wsX5_clear) := goodIn_m (List.forall_mem_append.mpr ⟨(List.forall_mem_cons.mpr ⟨wl_2_19, (List.forall_mem_cons.mpr ⟨wl_2_20, (List.forall_mem_cons.mpr ⟨wl_2_21, (List.forall_mem_cons.mpr ⟨wl_1_1, (fun _ h => absurd h List.not_mem_nil)⟩)⟩)⟩)⟩), wsX5_clear_in⟩) (by decide +kernel)
set_option maxRecDepth 20000 in
theorem gL_law_X6_clear : GoodIn lw_tbl (wsV RL 35 RX6 yX6_clear wsX6_clear) := goodIn_m (List.forall_mem_append.mpr ⟨(List.forall_mem_cons.mpr ⟨wl_4_80, (List.forall_mem_cons.mpr ⟨wl_4_81, (List.forall_mem_cons.mpr ⟨wl_4_82, (List.forall_mem_cons.mpr ⟨wl_1_9, (fun _ h => absurd h List.not_mem_nil)⟩)⟩)⟩)⟩), wsX6_clear_in⟩) (by decide +kernel)
set_option maxRecDepth 20000 in
theorem gL_law_X5_read : GoodIn lw_tbl (wsV RL 36 RX5 yX5_read wsX5_read) := goodIn_m (List.forall_mem_append.mpr ⟨(List.forall_mem_cons.mpr ⟨wl_2_23, (List.forall_mem_cons.mpr ⟨wl_2_24, (List.forall_mem_cons.mpr ⟨wl_2_25, (List.forall_mem_cons.mpr ⟨wl_1_1, (fun _ h => absurd h List.not_mem_nil)⟩)⟩)⟩)⟩), wsX5_read_in⟩) (by decide +kernel)
set_option maxRecDepth 20000 in
theorem gL_law_X6_read : GoodIn lw_tbl (wsV RL 39 RX6 yX6_read wsX6_read) := goodIn_m (List.forall_mem_append.mpr ⟨(List.forall_mem_cons.mpr ⟨wl_4_84, (List.forall_mem_cons.mpr ⟨wl_4_85, (List.forall_mem_cons.mpr ⟨wl_4_86, (List.forall_mem_cons.mpr ⟨wl_1_9, (fun _ h => absurd h List.not_mem_nil)⟩)⟩)⟩)⟩), wsX6_read_in⟩) (by decide +kernel)
set_option maxRecDepth 20000 in
theorem gL_law_X5_hits : GoodIn lw_tbl (wsV RL 40 RX5 yX5_hits wsX5_hits) := goodIn_m (List.forall_mem_append.mpr ⟨(List.forall_mem_cons.mpr ⟨wl_2_180, (List.forall_mem_cons.mpr ⟨wl_2_181, (List.forall_mem_cons.mpr ⟨wl_2_182, (List.forall_mem_cons.mpr ⟨wl_1_1, (fun _ h => absurd h List.not_mem_nil)⟩)⟩)⟩)⟩), wsX5_hits_in⟩) (by decide +kernel)
set_option maxRecDepth 20000 in
theorem gL_law_X6_hits : GoodIn lw_tbl (wsV RL 43 RX6 yX6_hits wsX6_hits) := goodIn_m (List.forall_mem_append.mpr ⟨(List.forall_mem_cons.mpr ⟨wl_4_184, (List.forall_mem_cons.mpr ⟨wl_4_185, (List.forall_mem_cons.mpr ⟨wl_4_186, (List.forall_mem_cons.mpr ⟨wl_1_9, (fun _ h => absurd h List.not_mem_nil)⟩)⟩)⟩)⟩), wsX6_hits_in⟩) (by decide +kernel)
set_option maxRecDepth 20000 in
theorem gL_law_X5_sends : GoodIn lw_tbl (wsV RL 44 RX5 yX5_sends wsX5_sends) := goodIn_m (List.forall_mem_append.mpr ⟨(List.forall_mem_cons.mpr ⟨wl_2_206, (List.forall_mem_cons.mpr ⟨wl_2_207, (List.forall_mem_cons.mpr ⟨wl_2_208, (List.forall_mem_cons.mpr ⟨wl_1_1, (fun _ h => absurd h List.not_mem_nil)⟩)⟩)⟩)⟩), wsX5_sends_in⟩) (by decide +kernel)
set_option maxRecDepth 20000 in
theorem gL_law_X6_sends : GoodIn lw_tbl (wsV RL 47 RX6 yX6_sends wsX6_sends) := goodIn_m (List.forall_mem_append.mpr ⟨(List.forall_mem_cons.mpr ⟨wl_4_197, (List.forall_mem_cons.mpr ⟨wl_4_198, (List.forall_mem_cons.mpr ⟨wl_4_199, (List.forall_mem_cons.mpr ⟨wl_1_9, (fun _ h => absurd h List.not_mem_nil)⟩)⟩)⟩)⟩), wsX6_sends_in⟩) (by decide +kernel)
set_option maxRecDepth 20000 in
theorem gL_law_X5_row : GoodIn lw_tbl (wsV RL 48 RX5 yX5_row wsX5_row) := goodIn_m (List.forall_mem_append.mpr ⟨(List.forall_mem_cons.mpr ⟨wl_2_214, (List.forall_mem_cons.mpr ⟨wl_2_215, (List.forall_mem_cons.mpr ⟨wl_2_216, (List.forall_mem_cons.mpr ⟨wl_1_1, (fun _ h => absurd h List.not_mem_nil)⟩)⟩)⟩)⟩), wsX5_row_in⟩) (by decide +kernel)
set_option maxRecDepth 20000 in
theorem gL_law_X6_row : GoodIn lw_tbl (wsV RL 51 RX6 yX6_row wsX6_row) := goodIn_m (List.forall_mem_append.mpr ⟨(List.forall_mem_cons.mpr ⟨wl_4_205, (List.forall_mem_cons.mpr ⟨wl_4_206, (List.forall_mem_cons.mpr ⟨wl_4_207, (List.forall_mem_cons.mpr ⟨wl_1_9, (fun _ h => absurd h List.not_mem_nil)⟩)⟩)⟩)⟩), wsX6_row_in⟩) (by decide +kernel)
set_option maxRecDepth 20000 in
theorem gL_law_X5_undo : GoodIn lw_tbl (wsV RL 52 RX5 yX5_undo wsX5_undo) := goodIn_m (List.forall_mem_append.mpr ⟨(List.forall_mem_cons.mpr ⟨wl_2_218, (List.forall_mem_cons.mpr ⟨wl_2_219, (List.forall_mem_cons.mpr ⟨wl_2_220, (List.forall_mem_cons.mpr ⟨wl_1_1, (fun _ h => absurd h List.not_mem_nil)⟩)⟩)⟩)⟩), wsX5_undo_in⟩) (by decide +kernel)
set_option maxRecDepth 20000 in
theorem gL_law_X6_undo : GoodIn lw_tbl (wsV RL 55 RX6 yX6_undo wsX6_undo) := goodIn_m (List.forall_mem_append.mpr ⟨(List.forall_mem_cons.mpr ⟨wl_4_210, (List.forall_mem_cons.mpr ⟨wl_4_211, (List.forall_mem_cons.mpr ⟨wl_4_212, (List.forall_mem_cons.mpr ⟨wl_1_9, (fun _ h => absurd h List.not_mem_nil)⟩)⟩)⟩)⟩), wsX6_undo_in⟩) (by decide +kernel)
set_option maxRecDepth 20000 in
theorem gL_law_X5_of : GoodIn lw_tbl (wsV RL 56 RX5 yX5_of wsX5_of) := goodIn_m (List.forall_mem_append.mpr ⟨(List.forall_mem_cons.mpr ⟨wl_2_239, (List.forall_mem_cons.mpr ⟨wl_3_0, (List.forall_mem_cons.mpr ⟨wl_3_1, (List.forall_mem_cons.mpr ⟨wl_1_1, (fun _ h => absurd h List.not_mem_nil)⟩)⟩)⟩)⟩), wsX5_of_in⟩) (by decide +kernel)
set_option maxRecDepth 20000 in
theorem gL_law_X6_of : GoodIn lw_tbl (wsV RL 59 RX6 yX6_of wsX6_of) := goodIn_m (List.forall_mem_append.mpr ⟨(List.forall_mem_cons.mpr ⟨wl_4_214, (List.forall_mem_cons.mpr ⟨wl_4_215, (List.forall_mem_cons.mpr ⟨wl_4_216, (List.forall_mem_cons.mpr ⟨wl_1_9, (fun _ h => absurd h List.not_mem_nil)⟩)⟩)⟩)⟩), wsX6_of_in⟩) (by decide +kernel)
set_option maxRecDepth 20000 in
theorem gL_law_X5_worth : GoodIn lw_tbl (wsV RL 60 RX5 yX5_worth wsX5_worth) := goodIn_m (List.forall_mem_append.mpr ⟨(List.forall_mem_cons.mpr ⟨wl_3_7, (List.forall_mem_cons.mpr ⟨wl_3_8, (List.forall_mem_cons.mpr ⟨wl_3_9, (List.forall_mem_cons.mpr ⟨wl_1_1, (fun _ h => absurd h List.not_mem_nil)⟩)⟩)⟩)⟩), wsX5_worth_in⟩) (by decide +kernel)
set_option maxRecDepth 20000 in
theorem gL_law_X6_worth : GoodIn lw_tbl (wsV RL 63 RX6 yX6_worth wsX6_worth) := goodIn_m (List.forall_mem_append.mpr ⟨(List.forall_mem_cons.mpr ⟨wl_4_218, (List.forall_mem_cons.mpr ⟨wl_4_219, (List.forall_mem_cons.mpr ⟨wl_4_220, (List.forall_mem_cons.mpr ⟨wl_1_9, (fun _ h => absurd h List.not_mem_nil)⟩)⟩)⟩)⟩), wsX6_worth_in⟩) (by decide +kernel)
set_option maxRecDepth 20000 in
theorem gL_law_X5_score : GoodIn lw_tbl (wsV RL 64 RX5 yX5_score wsX5_score) := goodIn_m (List.forall_mem_append.mpr ⟨(List.forall_mem_cons.mpr ⟨wl_3_16, (List.forall_mem_cons.mpr ⟨wl_3_17, (List.forall_mem_cons.mpr ⟨wl_3_18, (List.forall_mem_cons.mpr ⟨wl_1_1, (fun _ h => absurd h List.not_mem_nil)⟩)⟩)⟩)⟩), wsX5_score_in⟩) (by decide +kernel)
set_option maxRecDepth 20000 in
theorem gL_law_X6_score : GoodIn lw_tbl (wsV RL 67 RX6 yX6_score wsX6_score) := goodIn_m (List.forall_mem_append.mpr ⟨(List.forall_mem_cons.mpr ⟨wl_4_222, (List.forall_mem_cons.mpr ⟨wl_4_223, (List.forall_mem_cons.mpr ⟨wl_4_224, (List.forall_mem_cons.mpr ⟨wl_1_9, (fun _ h => absurd h List.not_mem_nil)⟩)⟩)⟩)⟩), wsX6_score_in⟩) (by decide +kernel)
set_option maxRecDepth 20000 in
theorem gL_law_X5_order : GoodIn lw_tbl (wsV RL 68 RX5 yX5_order wsX5_order) := goodIn_m (List.forall_mem_append.mpr ⟨(List.forall_mem_cons.mpr ⟨wl_3_28, (List.forall_mem_cons.mpr ⟨wl_3_29, (List.forall_mem_cons.mpr ⟨wl_3_30, (List.forall_mem_cons.mpr ⟨wl_1_1, (fun _ h => absurd h List.not_mem_nil)⟩)⟩)⟩)⟩), wsX5_order_in⟩) (by decide +kernel)
set_option maxRecDepth 20000 in
theorem gL_law_X6_order : GoodIn lw_tbl (wsV RL 71 RX6 yX6_order wsX6_order) := goodIn_m (List.forall_mem_append.mpr ⟨(List.forall_mem_cons.mpr ⟨wl_4_239, (List.forall_mem_cons.mpr ⟨wl_5_0, (List.forall_mem_cons.mpr ⟨wl_5_1, (List.forall_mem_cons.mpr ⟨wl_1_9, (fun _ h => absurd h List.not_mem_nil)⟩)⟩)⟩)⟩), wsX6_order_in⟩) (by decide +kernel)
set_option maxRecDepth 20000 in
theorem gL_law_X5_against : GoodIn lw_tbl (wsV RL 72 RX5 yX5_against wsX5_against) := goodIn_m (List.forall_mem_append.mpr ⟨(List.forall_mem_cons.mpr ⟨wl_3_51, (List.forall_mem_cons.mpr ⟨wl_3_52, (List.forall_mem_cons.mpr ⟨wl_3_53, (List.forall_mem_cons.mpr ⟨wl_1_1, (fun _ h => absurd h List.not_mem_nil)⟩)⟩)⟩)⟩), wsX5_against_in⟩) (by decide +kernel)
set_option maxRecDepth 20000 in
theorem gL_law_X6_against : GoodIn lw_tbl (wsV RL 75 RX6 yX6_against wsX6_against) := goodIn_m (List.forall_mem_append.mpr ⟨(List.forall_mem_cons.mpr ⟨wl_5_15, (List.forall_mem_cons.mpr ⟨wl_5_16, (List.forall_mem_cons.mpr ⟨wl_5_17, (List.forall_mem_cons.mpr ⟨wl_1_9, (fun _ h => absurd h List.not_mem_nil)⟩)⟩)⟩)⟩), wsX6_against_in⟩) (by decide +kernel)
set_option maxRecDepth 20000 in
theorem gL_law_X5_chance : GoodIn lw_tbl (wsV RL 76 RX5 yX5_chance wsX5_chance) := goodIn_m (List.forall_mem_append.mpr ⟨(List.forall_mem_cons.mpr ⟨wl_3_55, (List.forall_mem_cons.mpr ⟨wl_3_56, (List.forall_mem_cons.mpr ⟨wl_3_57, (List.forall_mem_cons.mpr ⟨wl_1_1, (fun _ h => absurd h List.not_mem_nil)⟩)⟩)⟩)⟩), wsX5_chance_in⟩) (by decide +kernel)
set_option maxRecDepth 20000 in
theorem gL_law_X6_chance : GoodIn lw_tbl (wsV RL 79 RX6 yX6_chance wsX6_chance) := goodIn_m (List.forall_mem_append.mpr ⟨(List.forall_mem_cons.mpr ⟨wl_5_20, (List.forall_mem_cons.mpr ⟨wl_5_21, (List.forall_mem_cons.mpr ⟨wl_5_22, (List.forall_mem_cons.mpr ⟨wl_1_9, (fun _ h => absurd h List.not_mem_nil)⟩)⟩)⟩)⟩), wsX6_chance_in⟩) (by decide +kernel)
set_option maxRecDepth 20000 in
theorem gL_law_X5_mean : GoodIn lw_tbl (wsV RL 80 RX5 yX5_mean wsX5_mean) := goodIn_m (List.forall_mem_append.mpr ⟨(List.forall_mem_cons.mpr ⟨wl_3_91, (List.forall_mem_cons.mpr ⟨wl_3_92, (List.forall_mem_cons.mpr ⟨wl_3_93, (List.forall_mem_cons.mpr ⟨wl_1_1, (fun _ h => absurd h List.not_mem_nil)⟩)⟩)⟩)⟩), wsX5_mean_in⟩) (by decide +kernel)
set_option maxRecDepth 20000 in
theorem gL_law_X6_mean : GoodIn lw_tbl (wsV RL 83 RX6 yX6_mean wsX6_mean) := goodIn_m (List.forall_mem_append.mpr ⟨(List.forall_mem_cons.mpr ⟨wl_5_37, (List.forall_mem_cons.mpr ⟨wl_5_38, (List.forall_mem_cons.mpr ⟨wl_5_39, (List.forall_mem_cons.mpr ⟨wl_1_9, (fun _ h => absurd h List.not_mem_nil)⟩)⟩)⟩)⟩), wsX6_mean_in⟩) (by decide +kernel)
set_option maxRecDepth 20000 in
theorem gL_law_X5_send : GoodIn lw_tbl (wsV RL 84 RX5 yX5_send wsX5_send) := goodIn_m (List.forall_mem_append.mpr ⟨(List.forall_mem_cons.mpr ⟨wl_3_99, (List.forall_mem_cons.mpr ⟨wl_3_100, (List.forall_mem_cons.mpr ⟨wl_3_101, (List.forall_mem_cons.mpr ⟨wl_1_1, (fun _ h => absurd h List.not_mem_nil)⟩)⟩)⟩)⟩), wsX5_send_in⟩) (by decide +kernel)
set_option maxRecDepth 20000 in
theorem gL_law_X6_send : GoodIn lw_tbl (wsV RL 87 RX6 yX6_send wsX6_send) := goodIn_m (List.forall_mem_append.mpr ⟨(List.forall_mem_cons.mpr ⟨wl_5_45, (List.forall_mem_cons.mpr ⟨wl_5_46, (List.forall_mem_cons.mpr ⟨wl_5_47, (List.forall_mem_cons.mpr ⟨wl_1_9, (fun _ h => absurd h List.not_mem_nil)⟩)⟩)⟩)⟩), wsX6_send_in⟩) (by decide +kernel)
set_option maxRecDepth 20000 in
theorem gL_law_X5_note : GoodIn lw_tbl (wsV RL 88 RX5 yX5_note wsX5_note) := goodIn_m (List.forall_mem_append.mpr ⟨(List.forall_mem_cons.mpr ⟨wl_3_103, (List.forall_mem_cons.mpr ⟨wl_3_104, (List.forall_mem_cons.mpr ⟨wl_3_105, (List.forall_mem_cons.mpr ⟨wl_1_1, (fun _ h => absurd h List.not_mem_nil)⟩)⟩)⟩)⟩), wsX5_note_in⟩) (by decide +kernel)
set_option maxRecDepth 20000 in
theorem gL_law_X6_note : GoodIn lw_tbl (wsV RL 92 RX6 yX6_note wsX6_note) := goodIn_m (List.forall_mem_append.mpr ⟨(List.forall_mem_cons.mpr ⟨wl_5_49, (List.forall_mem_cons.mpr ⟨wl_5_50, (List.forall_mem_cons.mpr ⟨wl_5_51, (List.forall_mem_cons.mpr ⟨wl_1_9, (fun _ h => absurd h List.not_mem_nil)⟩)⟩)⟩)⟩), wsX6_note_in⟩) (by decide +kernel)
set_option maxRecDepth 20000 in
theorem gL_law_X5_mark : GoodIn lw_tbl (wsV RL 93 RX5 yX5_mark wsX5_mark) := goodIn_m (List.forall_mem_append.mpr ⟨(List.forall_mem_cons.mpr ⟨wl_3_109, (List.forall_mem_cons.mpr ⟨wl_3_110, (List.forall_mem_cons.mpr ⟨wl_3_111, (List.forall_mem_cons.mpr ⟨wl_1_1, (fun _ h => absurd h List.not_mem_nil)⟩)⟩)⟩)⟩), wsX5_mark_in⟩) (by decide +kernel)
set_option maxRecDepth 20000 in
theorem gL_law_X6_mark : GoodIn lw_tbl (wsV RL 97 RX6 yX6_mark wsX6_mark) := goodIn_m (List.forall_mem_append.mpr ⟨(List.forall_mem_cons.mpr ⟨wl_5_54, (List.forall_mem_cons.mpr ⟨wl_5_55, (List.forall_mem_cons.mpr ⟨wl_5_56, (List.forall_mem_cons.mpr ⟨wl_1_9, (fun _ h => absurd h List.not_mem_nil)⟩)⟩)⟩)⟩), wsX6_mark_in⟩) (by decide +kernel)
set_option maxRecDepth 20000 in
theorem gL_law_X5_forget : GoodIn lw_tbl (wsV RL 98 RX5 yX5_forget wsX5_forget) := goodIn_m (List.forall_mem_append.mpr ⟨(List.forall_mem_cons.mpr ⟨wl_3_113, (List.forall_mem_cons.mpr ⟨wl_3_114, (List.forall_mem_cons.mpr ⟨wl_3_115, (List.forall_mem_cons.mpr ⟨wl_1_1, (fun _ h => absurd h List.not_mem_nil)⟩)⟩)⟩)⟩), wsX5_forget_in⟩) (by decide +kernel)
set_option maxRecDepth 20000 in
theorem gL_law_X6_forget : GoodIn lw_tbl (wsV RL 101 RX6 yX6_forget wsX6_forget) := goodIn_m (List.forall_mem_append.mpr ⟨(List.forall_mem_cons.mpr ⟨wl_5_58, (List.forall_mem_cons.mpr ⟨wl_5_59, (List.forall_mem_cons.mpr ⟨wl_5_60, (List.forall_mem_cons.mpr ⟨wl_1_9, (fun _ h => absurd h List.not_mem_nil)⟩)⟩)⟩)⟩), wsX6_forget_in⟩) (by decide +kernel)
set_option maxRecDepth 20000 in
theorem gL_law_X5_is : GoodIn lw_tbl (wsV RL 102 RX5 yX5_is wsX5_is) := goodIn_m (List.forall_mem_append.mpr ⟨(List.forall_mem_cons.mpr ⟨wl_3_117, (List.forall_mem_cons.mpr ⟨wl_3_118, (List.forall_mem_cons.mpr ⟨wl_3_119, (List.forall_mem_cons.mpr ⟨wl_1_1, (fun _ h => absurd h List.not_mem_nil)⟩)⟩)⟩)⟩), wsX5_is_in⟩) (by decide +kernel)
set_option maxRecDepth 20000 in
theorem gL_law_X6_is : GoodIn lw_tbl (wsV RL 105 RX6 yX6_is wsX6_is) := goodIn_m (List.forall_mem_append.mpr ⟨(List.forall_mem_cons.mpr ⟨wl_5_62, (List.forall_mem_cons.mpr ⟨wl_5_63, (List.forall_mem_cons.mpr ⟨wl_5_64, (List.forall_mem_cons.mpr ⟨wl_1_9, (fun _ h => absurd h List.not_mem_nil)⟩)⟩)⟩)⟩), wsX6_is_in⟩) (by decide +kernel)
set_option maxRecDepth 20000 in
theorem gL_law_X5_look : GoodIn lw_tbl (wsV RL 106 RX5 yX5_look wsX5_look) := goodIn_m (List.forall_mem_append.mpr ⟨(List.forall_mem_cons.mpr ⟨wl_3_127, (List.forall_mem_cons.mpr ⟨wl_3_128, (List.forall_mem_cons.mpr ⟨wl_3_129, (List.forall_mem_cons.mpr ⟨wl_1_1, (fun _ h => absurd h List.not_mem_nil)⟩)⟩)⟩)⟩), wsX5_look_in⟩) (by decide +kernel)
set_option maxRecDepth 20000 in
theorem gL_law_X6_look : GoodIn lw_tbl (wsV RL 109 RX6 yX6_look wsX6_look) := goodIn_m (List.forall_mem_append.mpr ⟨(List.forall_mem_cons.mpr ⟨wl_5_66, (List.forall_mem_cons.mpr ⟨wl_5_67, (List.forall_mem_cons.mpr ⟨wl_5_68, (List.forall_mem_cons.mpr ⟨wl_1_9, (fun _ h => absurd h List.not_mem_nil)⟩)⟩)⟩)⟩), wsX6_look_in⟩) (by decide +kernel)
set_option maxRecDepth 20000 in
theorem gL_law_X5_kinds : GoodIn lw_tbl (wsV RL 110 RX5 yX5_kinds wsX5_kinds) := goodIn_m (List.forall_mem_append.mpr ⟨(List.forall_mem_cons.mpr ⟨wl_3_136, (List.forall_mem_cons.mpr ⟨wl_3_137, (List.forall_mem_cons.mpr ⟨wl_3_138, (List.forall_mem_cons.mpr ⟨wl_1_1, (fun _ h => absurd h List.not_mem_nil)⟩)⟩)⟩)⟩), wsX5_kinds_in⟩) (by decide +kernel)
set_option maxRecDepth 20000 in
theorem gL_law_X6_kinds : GoodIn lw_tbl (wsV RL 113 RX6 yX6_kinds wsX6_kinds) := goodIn_m (List.forall_mem_append.mpr ⟨(List.forall_mem_cons.mpr ⟨wl_5_74, (List.forall_mem_cons.mpr ⟨wl_5_75, (List.forall_mem_cons.mpr ⟨wl_5_76, (List.forall_mem_cons.mpr ⟨wl_1_9, (fun _ h => absurd h List.not_mem_nil)⟩)⟩)⟩)⟩), wsX6_kinds_in⟩) (by decide +kernel)
set_option maxRecDepth 20000 in
theorem gL_law_X5_ask : GoodIn lw_tbl (wsV RL 114 RX5 yX5_ask wsX5_ask) := goodIn_m (List.forall_mem_append.mpr ⟨(List.forall_mem_cons.mpr ⟨wl_3_149, (List.forall_mem_cons.mpr ⟨wl_3_150, (List.forall_mem_cons.mpr ⟨wl_3_151, (List.forall_mem_cons.mpr ⟨wl_1_1, (fun _ h => absurd h List.not_mem_nil)⟩)⟩)⟩)⟩), wsX5_ask_in⟩) (by decide +kernel)
set_option maxRecDepth 20000 in
theorem gL_law_X6_ask : GoodIn lw_tbl (wsV RL 117 RX6 yX6_ask wsX6_ask) := goodIn_m (List.forall_mem_append.mpr ⟨(List.forall_mem_cons.mpr ⟨wl_5_82, (List.forall_mem_cons.mpr ⟨wl_5_83, (List.forall_mem_cons.mpr ⟨wl_5_84, (List.forall_mem_cons.mpr ⟨wl_1_9, (fun _ h => absurd h List.not_mem_nil)⟩)⟩)⟩)⟩), wsX6_ask_in⟩) (by decide +kernel)
set_option maxRecDepth 20000 in
theorem gL_law_X5_captains : GoodIn lw_tbl (wsV RL 118 RX5 yX5_captains wsX5_captains) := goodIn_m (List.forall_mem_append.mpr ⟨(List.forall_mem_cons.mpr ⟨wl_3_153, (List.forall_mem_cons.mpr ⟨wl_3_154, (List.forall_mem_cons.mpr ⟨wl_3_155, (List.forall_mem_cons.mpr ⟨wl_1_1, (fun _ h => absurd h List.not_mem_nil)⟩)⟩)⟩)⟩), wsX5_captains_in⟩) (by decide +kernel)
set_option maxRecDepth 20000 in
theorem gL_law_X6_captains : GoodIn lw_tbl (wsV RL 121 RX6 yX6_captains wsX6_captains) := goodIn_m (List.forall_mem_append.mpr ⟨(List.forall_mem_cons.mpr ⟨wl_5_86, (List.forall_mem_cons.mpr ⟨wl_5_87, (List.forall_mem_cons.mpr ⟨wl_5_88, (List.forall_mem_cons.mpr ⟨wl_1_9, (fun _ h => absurd h List.not_mem_nil)⟩)⟩)⟩)⟩), wsX6_captains_in⟩) (by decide +kernel)
set_option maxRecDepth 20000 in
theorem gL_law_X5_days : GoodIn lw_tbl (wsV RL 122 RX5 yX5_days wsX5_days) := goodIn_m (List.forall_mem_append.mpr ⟨(List.forall_mem_cons.mpr ⟨wl_3_165, (List.forall_mem_cons.mpr ⟨wl_3_166, (List.forall_mem_cons.mpr ⟨wl_3_167, (List.forall_mem_cons.mpr ⟨wl_1_1, (fun _ h => absurd h List.not_mem_nil)⟩)⟩)⟩)⟩), wsX5_days_in⟩) (by decide +kernel)
set_option maxRecDepth 20000 in
theorem gL_law_X6_days : GoodIn lw_tbl (wsV RL 125 RX6 yX6_days wsX6_days) := goodIn_m (List.forall_mem_append.mpr ⟨(List.forall_mem_cons.mpr ⟨wl_5_94, (List.forall_mem_cons.mpr ⟨wl_5_95, (List.forall_mem_cons.mpr ⟨wl_5_96, (List.forall_mem_cons.mpr ⟨wl_1_9, (fun _ h => absurd h List.not_mem_nil)⟩)⟩)⟩)⟩), wsX6_days_in⟩) (by decide +kernel)
set_option maxRecDepth 20000 in
theorem gL_law_X5_part : GoodIn lw_tbl (wsV RL 126 RX5 yX5_part wsX5_part) := goodIn_m (List.forall_mem_append.mpr ⟨(List.forall_mem_cons.mpr ⟨wl_3_175, (List.forall_mem_cons.mpr ⟨wl_3_176, (List.forall_mem_cons.mpr ⟨wl_3_177, (List.forall_mem_cons.mpr ⟨wl_1_1, (fun _ h => absurd h List.not_mem_nil)⟩)⟩)⟩)⟩), wsX5_part_in⟩) (by decide +kernel)
set_option maxRecDepth 20000 in
theorem gL_law_X6_part : GoodIn lw_tbl (wsV RL 130 RX6 yX6_part wsX6_part) := goodIn_m (List.forall_mem_append.mpr ⟨(List.forall_mem_cons.mpr ⟨wl_5_105, (List.forall_mem_cons.mpr ⟨wl_5_106, (List.forall_mem_cons.mpr ⟨wl_5_107, (List.forall_mem_cons.mpr ⟨wl_1_9, (fun _ h => absurd h List.not_mem_nil)⟩)⟩)⟩)⟩), wsX6_part_in⟩) (by decide +kernel)
set_option maxRecDepth 20000 in
theorem gL_law_X5_image : GoodIn lw_tbl (wsV RL 131 RX5 yX5_image wsX5_image) := goodIn_m (List.forall_mem_append.mpr ⟨(List.forall_mem_cons.mpr ⟨wl_3_179, (List.forall_mem_cons.mpr ⟨wl_3_180, (List.forall_mem_cons.mpr ⟨wl_3_181, (List.forall_mem_cons.mpr ⟨wl_1_1, (fun _ h => absurd h List.not_mem_nil)⟩)⟩)⟩)⟩), wsX5_image_in⟩) (by decide +kernel)
set_option maxRecDepth 20000 in
theorem gL_law_X6_image : GoodIn lw_tbl (wsV RL 134 RX6 yX6_image wsX6_image) := goodIn_m (List.forall_mem_append.mpr ⟨(List.forall_mem_cons.mpr ⟨wl_5_109, (List.forall_mem_cons.mpr ⟨wl_5_110, (List.forall_mem_cons.mpr ⟨wl_5_111, (List.forall_mem_cons.mpr ⟨wl_1_9, (fun _ h => absurd h List.not_mem_nil)⟩)⟩)⟩)⟩), wsX6_image_in⟩) (by decide +kernel)
set_option maxRecDepth 20000 in
theorem gL_law_X5_from : GoodIn lw_tbl (wsV RL 135 RX5 yX5_from wsX5_from) := goodIn_m (List.forall_mem_append.mpr ⟨(List.forall_mem_cons.mpr ⟨wl_3_197, (List.forall_mem_cons.mpr ⟨wl_3_198, (List.forall_mem_cons.mpr ⟨wl_3_199, (List.forall_mem_cons.mpr ⟨wl_1_1, (fun _ h => absurd h List.not_mem_nil)⟩)⟩)⟩)⟩), wsX5_from_in⟩) (by decide +kernel)
set_option maxRecDepth 20000 in
theorem gL_law_X6_from : GoodIn lw_tbl (wsV RL 138 RX6 yX6_from wsX6_from) := goodIn_m (List.forall_mem_append.mpr ⟨(List.forall_mem_cons.mpr ⟨wl_5_113, (List.forall_mem_cons.mpr ⟨wl_5_114, (List.forall_mem_cons.mpr ⟨wl_5_115, (List.forall_mem_cons.mpr ⟨wl_1_9, (fun _ h => absurd h List.not_mem_nil)⟩)⟩)⟩)⟩), wsX6_from_in⟩) (by decide +kernel)
set_option maxRecDepth 20000 in
theorem gL_law_X5_status : GoodIn lw_tbl (wsV RL 139 RX5 yX5_status wsX5_status) := goodIn_m (List.forall_mem_append.mpr ⟨(List.forall_mem_cons.mpr ⟨wl_3_201, (List.forall_mem_cons.mpr ⟨wl_3_202, (List.forall_mem_cons.mpr ⟨wl_3_203, (List.forall_mem_cons.mpr ⟨wl_1_1, (fun _ h => absurd h List.not_mem_nil)⟩)⟩)⟩)⟩), wsX5_status_in⟩) (by decide +kernel)
set_option maxRecDepth 20000 in
theorem gL_law_X6_status : GoodIn lw_tbl (wsV RL 142 RX6 yX6_status wsX6_status) := goodIn_m (List.forall_mem_append.mpr ⟨(List.forall_mem_cons.mpr ⟨wl_5_117, (List.forall_mem_cons.mpr ⟨wl_5_118, (List.forall_mem_cons.mpr ⟨wl_5_119, (List.forall_mem_cons.mpr ⟨wl_1_9, (fun _ h => absurd h List.not_mem_nil)⟩)⟩)⟩)⟩), wsX6_status_in⟩) (by decide +kernel)
set_option maxRecDepth 20000 in
theorem gL_law_X5_count : GoodIn lw_tbl (wsV RL 143 RX5 yX5_count wsX5_count) := goodIn_m (List.forall_mem_append.mpr ⟨(List.forall_mem_cons.mpr ⟨wl_3_205, (List.forall_mem_cons.mpr ⟨wl_3_206, (List.forall_mem_cons.mpr ⟨wl_3_207, (List.forall_mem_cons.mpr ⟨wl_1_1, (fun _ h => absurd h List.not_mem_nil)⟩)⟩)⟩)⟩), wsX5_count_in⟩) (by decide +kernel)
set_option maxRecDepth 20000 in
theorem gL_law_X6_count : GoodIn lw_tbl (wsV RL 146 RX6 yX6_count wsX6_count) := goodIn_m (List.forall_mem_append.mpr ⟨(List.forall_mem_cons.mpr ⟨wl_5_121, (List.forall_mem_cons.mpr ⟨wl_5_122, (List.forall_mem_cons.mpr ⟨wl_5_123, (List.forall_mem_cons.mpr ⟨wl_1_9, (fun _ h => absurd h List.not_mem_nil)⟩)⟩)⟩)⟩), wsX6_count_in⟩) (by decide +kernel)
set_option maxRecDepth 20000 in
theorem gL_law_X5_digest : GoodIn lw_tbl (wsV RL 147 RX5 yX5_digest wsX5_digest) := goodIn_m (List.forall_mem_append.mpr ⟨(List.forall_mem_cons.mpr ⟨wl_3_213, (List.forall_mem_cons.mpr ⟨wl_3_214, (List.forall_mem_cons.mpr ⟨wl_3_215, (List.forall_mem_cons.mpr ⟨wl_1_1, (fun _ h => absurd h List.not_mem_nil)⟩)⟩)⟩)⟩), wsX5_digest_in⟩) (by decide +kernel)
set_option maxRecDepth 20000 in
theorem gL_law_X6_digest : GoodIn lw_tbl (wsV RL 151 RX6 yX6_digest wsX6_digest) := goodIn_m (List.forall_mem_append.mpr ⟨(List.forall_mem_cons.mpr ⟨wl_5_134, (List.forall_mem_cons.mpr ⟨wl_5_135, (List.forall_mem_cons.mpr ⟨wl_5_136, (List.forall_mem_cons.mpr ⟨wl_1_9, (fun _ h => absurd h List.not_mem_nil)⟩)⟩)⟩)⟩), wsX6_digest_in⟩) (by decide +kernel)
