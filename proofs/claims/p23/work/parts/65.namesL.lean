theorem dL_below_0 : decode cL_below 0 = .ok (.iload_n 0, 1) := by decide +kernel
theorem dL_below_1 : decode cL_below 1 = .ok (.ldc 7, 2) := by decide +kernel
theorem dL_below_3 : decode cL_below 3 = .ok (.iand, 1) := by decide +kernel
theorem dL_below_4 : decode cL_below 4 = .ok (.iload_n 1, 1) := by decide +kernel
theorem dL_below_5 : decode cL_below 5 = .ok (.irem, 1) := by decide +kernel
theorem dL_below_6 : decode cL_below 6 = .ok (.ireturn, 1) := by decide +kernel
theorem dL_cell_0 : decode cL_cell 0 = .ok (.iload_n 1, 1) := by decide +kernel
theorem dL_cell_1 : decode cL_cell 1 = .ok (.aload_n 0, 1) := by decide +kernel
theorem dL_cell_2 : decode cL_cell 2 = .ok (.arraylength, 1) := by decide +kernel
theorem dL_cell_3 : decode cL_cell 3 = .ok (.if_icmp .ge 9, 3) := by decide +kernel
theorem dL_cell_6 : decode cL_cell 6 = .ok (.aload_n 0, 1) := by decide +kernel
theorem dL_cell_7 : decode cL_cell 7 = .ok (.iload_n 1, 1) := by decide +kernel
theorem dL_cell_8 : decode cL_cell 8 = .ok (.iaload, 1) := by decide +kernel
theorem dL_cell_9 : decode cL_cell 9 = .ok (.goto 9, 3) := by decide +kernel
theorem dL_cell_12 : decode cL_cell 12 = .ok (.ldc 8, 2) := by decide +kernel
theorem dL_cell_14 : decode cL_cell 14 = .ok (.iload_n 1, 1) := by decide +kernel
theorem dL_cell_15 : decode cL_cell 15 = .ok (.iconst 3, 1) := by decide +kernel
theorem dL_cell_16 : decode cL_cell 16 = .ok (.iadd, 1) := by decide +kernel
theorem dL_cell_17 : decode cL_cell 17 = .ok (.imul, 1) := by decide +kernel
theorem dL_cell_18 : decode cL_cell 18 = .ok (.ireturn, 1) := by decide +kernel
set_option maxRecDepth 20000 in
theorem ggL_some_L_below : GoodIn wsL_some wsL_below := goodIn_r _ [4, 5] (by decide +kernel) (by decide +kernel)
set_option maxRecDepth 20000 in
theorem gL_some_L_below : GoodIn wsL_some (va_wsS RL 9 yL_below wsL_below) := goodIn_app (goodIn_of _ (by decide +kernel)) ggL_some_L_below
theorem dL_some_0 : decode cL_some 0 = .ok (.iconst 1, 1) := by decide +kernel
theorem dL_some_1 : decode cL_some 1 = .ok (.iload_n 0, 1) := by decide +kernel
theorem dL_some_2 : decode cL_some 2 = .ok (.iconst 1, 1) := by decide +kernel
theorem dL_some_3 : decode cL_some 3 = .ok (.ishr, 1) := by decide +kernel
theorem dL_some_4 : decode cL_some 4 = .ok (.iload_n 1, 1) := by decide +kernel
theorem dL_some_5 : decode cL_some 5 = .ok (.iconst 1, 1) := by decide +kernel
theorem dL_some_6 : decode cL_some 6 = .ok (.isub, 1) := by decide +kernel
theorem dL_some_7 : decode cL_some 7 = .ok (.invokestatic 9, 3) := by decide +kernel
theorem dL_some_10 : decode cL_some 10 = .ok (.iadd, 1) := by decide +kernel
theorem dL_some_11 : decode cL_some 11 = .ok (.iload_n 0, 1) := by decide +kernel
theorem dL_some_12 : decode cL_some 12 = .ok (.iconst 2, 1) := by decide +kernel
theorem dL_some_13 : decode cL_some 13 = .ok (.invokestatic 9, 3) := by decide +kernel
theorem dL_some_16 : decode cL_some 16 = .ok (.ifCond .ne 7, 3) := by decide +kernel
theorem dL_some_19 : decode cL_some 19 = .ok (.iconst 1, 1) := by decide +kernel
theorem dL_some_20 : decode cL_some 20 = .ok (.goto 4, 3) := by decide +kernel
theorem dL_some_23 : decode cL_some 23 = .ok (.iconst (-1), 1) := by decide +kernel
theorem dL_some_24 : decode cL_some 24 = .ok (.imul, 1) := by decide +kernel
theorem dL_some_25 : decode cL_some 25 = .ok (.ireturn, 1) := by decide +kernel
set_option maxRecDepth 20000 in
theorem ggL_act_L_below : GoodIn wsL_act wsL_below := goodIn_r _ [12, 13] (by decide +kernel) (by decide +kernel)
set_option maxRecDepth 20000 in
theorem gL_act_L_below : GoodIn wsL_act (va_wsS RL 9 yL_below wsL_below) := goodIn_app (goodIn_of _ (by decide +kernel)) ggL_act_L_below
set_option maxRecDepth 20000 in
theorem ggL_act_L_some : GoodIn wsL_act wsL_some := goodIn_r _ [16, 9, 10, 11, 12, 13] (by decide +kernel) (by decide +kernel)
set_option maxRecDepth 20000 in
theorem gL_act_L_some : GoodIn wsL_act (va_wsS RL 25 yL_some wsL_some) := goodIn_app (goodIn_of _ (by decide +kernel)) ggL_act_L_some
set_option maxRecDepth 20000 in
theorem ggL_act_X2_cat : GoodIn wsL_act wsX2_cat := goodIn_r _ [20, 4] (by decide +kernel) (by decide +kernel)
set_option maxRecDepth 20000 in
theorem gL_act_X2_cat : GoodIn wsL_act (va_wsS RL 28 yX2_cat wsX2_cat) := goodIn_app (goodIn_of _ (by decide +kernel)) ggL_act_X2_cat
set_option maxRecDepth 20000 in
theorem ggL_act_X1_twist : GoodIn wsL_act wsX1_twist := goodIn_ca (goodIn_ca (goodIn_ca (goodIn_r _ [25, 26, 27, 24, 28, 29, 30, 31, 32, 33, 34, 35, 36, 37, 38, 39, 40, 41, 42, 43, 44, 45, 46, 47, 48, 49, 50, 51, 52, 53, 54, 55, 56, 57, 58, 59, 170, 171, 172, 173, 174, 175, 176] (by decide +kernel) (by decide +kernel)) (goodIn_sub (fun _ h => List.mem_cons_of_mem _ (List.mem_append_left _ (List.mem_append_left _ (List.mem_append_right _ h)))) (by decide +kernel))) (goodIn_sub (fun _ h => List.mem_cons_of_mem _ (List.mem_append_left _ (List.mem_append_right _ h))) (by decide +kernel))) (goodIn_sub (fun _ h => List.mem_cons_of_mem _ (List.mem_append_right _ h)) (by decide +kernel))
set_option maxRecDepth 20000 in
theorem gL_act_X1_twist : GoodIn wsL_act (wsV RL 32 RX1 yX1_twist wsX1_twist) := goodIn_app (goodIn_of _ (by decide +kernel)) ggL_act_X1_twist
set_option maxRecDepth 20000 in
theorem ggL_act_X2_piece : GoodIn wsL_act wsX2_piece := goodIn_r _ [62, 4] (by decide +kernel) (by decide +kernel)
set_option maxRecDepth 20000 in
theorem gL_act_X2_piece : GoodIn wsL_act (va_wsS RL 37 yX2_piece wsX2_piece) := goodIn_app (goodIn_of _ (by decide +kernel)) ggL_act_X2_piece
set_option maxRecDepth 20000 in
theorem ggL_act_X1_untwist : GoodIn wsL_act wsX1_untwist := goodIn_ca (goodIn_ca (goodIn_r _ [66, 47, 48, 26, 27, 24, 28, 29, 30, 38, 39, 40, 41, 42, 43, 49, 50, 51, 52, 53, 54, 67, 68, 69, 70, 59, 71, 72, 73, 74, 170, 171, 172, 173, 174, 175, 176] (by decide +kernel) (by decide +kernel)) (goodIn_sub (fun _ h => List.mem_cons_of_mem _ (List.mem_append_right _ h)) (by decide +kernel))) (goodIn_sub (fun _ h => List.mem_cons_of_mem _ (List.mem_append_left _ (List.mem_append_left _ (List.mem_append_right _ h)))) (by decide +kernel))
set_option maxRecDepth 20000 in
theorem gL_act_X1_untwist : GoodIn wsL_act (wsV RL 41 RX1 yX1_untwist wsX1_untwist) := goodIn_app (goodIn_of _ (by decide +kernel)) ggL_act_X1_untwist
set_option maxRecDepth 20000 in
theorem ggL_act_X2_turned : GoodIn wsL_act wsX2_turned := goodIn_r _ [77, 4] (by decide +kernel) (by decide +kernel)
set_option maxRecDepth 20000 in
theorem gL_act_X2_turned : GoodIn wsL_act (va_wsS RL 45 yX2_turned wsX2_turned) := goodIn_app (goodIn_of _ (by decide +kernel)) ggL_act_X2_turned
set_option maxRecDepth 20000 in
theorem ggL_act_X1_turn : GoodIn wsL_act wsX1_turn := goodIn_ca (goodIn_r _ [81, 82, 26, 27, 24, 28, 29, 30, 38, 39, 40, 41, 42, 43, 83, 84, 85, 52, 86, 54, 87, 88, 89, 90, 91, 50, 51, 53, 92, 68, 69, 70, 59, 93, 56, 57, 58, 94, 95, 96, 97, 49, 170, 171, 172, 173, 174, 175, 176] (by decide +kernel) (by decide +kernel)) (goodIn_sub (fun _ h => List.mem_cons_of_mem _ (List.mem_append_left _ (List.mem_append_left _ (List.mem_append_right _ h)))) (by decide +kernel))
set_option maxRecDepth 20000 in
theorem gL_act_X1_turn : GoodIn wsL_act (wsV RL 49 RX1 yX1_turn wsX1_turn) := goodIn_app (goodIn_of _ (by decide +kernel)) ggL_act_X1_turn
set_option maxRecDepth 20000 in
theorem ggL_act_X1_join : GoodIn wsL_act wsX1_join := goodIn_ca (goodIn_ca (goodIn_r _ [101, 26, 27, 24, 28, 29, 30, 38, 39, 40, 41, 42, 43, 49, 50, 51, 52, 53, 54, 44, 45, 46, 47, 48, 102, 103, 104, 105, 91, 92, 68, 69, 70, 59, 93, 56, 57, 58, 170, 171, 172, 173, 174, 175, 176] (by decide +kernel) (by decide +kernel)) (goodIn_sub (fun _ h => List.mem_cons_of_mem _ (List.mem_append_left _ (List.mem_append_left _ (List.mem_append_right _ h)))) (by decide +kernel))) (goodIn_sub (fun _ h => List.mem_cons_of_mem _ (List.mem_append_right _ h)) (by decide +kernel))
set_option maxRecDepth 20000 in
theorem gL_act_X1_join : GoodIn wsL_act (wsV RL 52 RX1 yX1_join wsX1_join) := goodIn_app (goodIn_of _ (by decide +kernel)) ggL_act_X1_join
set_option maxRecDepth 20000 in
theorem ggL_act_X1_swap : GoodIn wsL_act wsX1_swap := goodIn_ca (goodIn_ca (goodIn_r _ [109, 47, 48, 26, 27, 24, 28, 29, 30, 38, 39, 40, 41, 42, 43, 49, 50, 51, 52, 53, 54, 110, 111, 112, 67, 68, 69, 70, 59, 113, 114, 115, 116, 117, 118, 119, 120, 121, 122, 170, 171, 172, 173, 174, 175, 176] (by decide +kernel) (by decide +kernel)) (goodIn_sub (fun _ h => List.mem_cons_of_mem _ (List.mem_append_right _ h)) (by decide +kernel))) (goodIn_sub (fun _ h => List.mem_cons_of_mem _ (List.mem_append_left _ (List.mem_append_left _ (List.mem_append_right _ h)))) (by decide +kernel))
set_option maxRecDepth 20000 in
theorem gL_act_X1_swap : GoodIn wsL_act (wsV RL 62 RX1 yX1_swap wsX1_swap) := goodIn_app (goodIn_of _ (by decide +kernel)) ggL_act_X1_swap
set_option maxRecDepth 20000 in
theorem ggL_act_L_isTriple : GoodIn wsL_act wsL_isTriple := goodIn_r _ [125, 5, 6, 7, 8] (by decide +kernel) (by decide +kernel)
set_option maxRecDepth 20000 in
theorem gL_act_L_isTriple : GoodIn wsL_act (va_wsS RL 65 yL_isTriple wsL_isTriple) := goodIn_app (goodIn_of _ (by decide +kernel)) ggL_act_L_isTriple
set_option maxRecDepth 20000 in
theorem ggL_act_X1_about : GoodIn wsL_act wsX1_about := goodIn_ca (goodIn_ca (goodIn_r _ [129, 47, 48, 26, 27, 24, 28, 29, 30, 38, 39, 40, 41, 42, 43, 49, 50, 51, 52, 53, 54, 110, 111, 112, 67, 68, 69, 70, 59, 130, 131, 132, 113, 114, 115, 116, 117, 118, 119, 120, 121, 122, 170, 171, 172, 173, 174, 175, 176] (by decide +kernel) (by decide +kernel)) (goodIn_sub (fun _ h => List.mem_cons_of_mem _ (List.mem_append_right _ h)) (by decide +kernel))) (goodIn_sub (fun _ h => List.mem_cons_of_mem _ (List.mem_append_left _ (List.mem_append_left _ (List.mem_append_right _ h)))) (by decide +kernel))
set_option maxRecDepth 20000 in
theorem gL_act_X1_about : GoodIn wsL_act (wsV RL 69 RX1 yX1_about wsX1_about) := goodIn_app (goodIn_of _ (by decide +kernel)) ggL_act_X1_about
set_option maxRecDepth 20000 in
theorem ggL_act_X1_insert : GoodIn wsL_act wsX1_insert := goodIn_ca (goodIn_ca (goodIn_ca (goodIn_r _ [136, 26, 27, 24, 28, 29, 30, 38, 39, 40, 41, 42, 43, 49, 50, 51, 52, 53, 54, 110, 111, 112, 31, 32, 33, 34, 35, 36, 37, 44, 45, 46, 47, 48, 137, 138, 139, 140, 93, 56, 57, 58, 59, 92, 68, 69, 70, 141, 120, 121, 122, 170, 171, 172, 173, 174, 175, 176] (by decide +kernel) (by decide +kernel)) (goodIn_sub (fun _ h => List.mem_cons_of_mem _ (List.mem_append_left _ (List.mem_append_left _ (List.mem_append_right _ h)))) (by decide +kernel))) (goodIn_sub (fun _ h => List.mem_cons_of_mem _ (List.mem_append_left _ (List.mem_append_right _ h))) (by decide +kernel))) (goodIn_sub (fun _ h => List.mem_cons_of_mem _ (List.mem_append_right _ h)) (by decide +kernel))
set_option maxRecDepth 20000 in
theorem gL_act_X1_insert : GoodIn wsL_act (wsV RL 72 RX1 yX1_insert wsX1_insert) := goodIn_app (goodIn_of _ (by decide +kernel)) ggL_act_X1_insert
set_option maxRecDepth 20000 in
theorem ggL_act_X2_handle : GoodIn wsL_act wsX2_handle := goodIn_r _ [144, 4, 145, 6, 7, 8] (by decide +kernel) (by decide +kernel)
set_option maxRecDepth 20000 in
theorem gL_act_X2_handle : GoodIn wsL_act (va_wsS RL 76 yX2_handle wsX2_handle) := goodIn_app (goodIn_of _ (by decide +kernel)) ggL_act_X2_handle
set_option maxRecDepth 20000 in
theorem ggL_act_X2_cut : GoodIn wsL_act wsX2_cut := goodIn_r _ [148, 145, 6, 7, 8, 4, 149, 61, 19, 62, 150, 18, 20] (by decide +kernel) (by decide +kernel)
set_option maxRecDepth 20000 in
theorem gL_act_X2_cut : GoodIn wsL_act (va_wsS RL 79 yX2_cut wsX2_cut) := goodIn_app (goodIn_of _ (by decide +kernel)) ggL_act_X2_cut
set_option maxRecDepth 20000 in
theorem ggL_act_X1_cut : GoodIn wsL_act wsX1_cut := goodIn_ca (goodIn_ca (goodIn_r _ [154, 47, 48, 26, 27, 24, 28, 29, 30, 38, 39, 40, 41, 42, 43, 155, 156, 157, 49, 50, 51, 52, 53, 54, 158, 159, 160, 67, 68, 69, 70, 59, 116, 117, 118, 161, 162, 163, 44, 45, 46, 164, 165, 166, 167, 82, 83, 84, 85, 86, 130, 131, 132, 55, 56, 57, 58, 94, 95, 96, 97, 91, 92, 93, 170, 171, 172, 173, 174, 175, 176] (by decide +kernel) (by decide +kernel)) (goodIn_sub (fun _ h => List.mem_cons_of_mem _ (List.mem_append_right _ h)) (by decide +kernel))) (goodIn_sub (fun _ h => List.mem_cons_of_mem _ (List.mem_append_left _ (List.mem_append_left _ (List.mem_append_right _ h)))) (by decide +kernel))
set_option maxRecDepth 20000 in
theorem gL_act_X1_cut : GoodIn wsL_act (wsV RL 82 RX1 yX1_cut wsX1_cut) := goodIn_app (goodIn_of _ (by decide +kernel)) ggL_act_X1_cut
theorem dL_act_0 : decode cL_act 0 = .ok (.iload_n 2, 1) := by decide +kernel
theorem dL_act_1 : decode cL_act 1 = .ok (.iconst 4, 1) := by decide +kernel
theorem dL_act_2 : decode cL_act 2 = .ok (.ishr, 1) := by decide +kernel
theorem dL_act_3 : decode cL_act 3 = .ok (.iconst 2, 1) := by decide +kernel
theorem dL_act_4 : decode cL_act 4 = .ok (.invokestatic 9, 3) := by decide +kernel
theorem dL_act_7 : decode cL_act 7 = .ok (.istore_n 3, 1) := by decide +kernel
theorem dL_act_8 : decode cL_act 8 = .ok (.aload_n 1, 1) := by decide +kernel
theorem dL_act_9 : decode cL_act 9 = .ok (.getfield 15, 3) := by decide +kernel
theorem dL_act_12 : decode cL_act 12 = .ok (.iload_n 3, 1) := by decide +kernel
theorem dL_act_13 : decode cL_act 13 = .ok (.aaload, 1) := by decide +kernel
theorem dL_act_14 : decode cL_act 14 = .ok (.astore 4, 2) := by decide +kernel
theorem dL_act_16 : decode cL_act 16 = .ok (.aload 4, 2) := by decide +kernel
theorem dL_act_18 : decode cL_act 18 = .ok (.arraylength, 1) := by decide +kernel
theorem dL_act_19 : decode cL_act 19 = .ok (.istore 5, 2) := by decide +kernel
theorem dL_act_21 : decode cL_act 21 = .ok (.iload_n 2, 1) := by decide +kernel
theorem dL_act_22 : decode cL_act 22 = .ok (.bipush 6, 2) := by decide +kernel
theorem dL_act_24 : decode cL_act 24 = .ok (.ishr, 1) := by decide +kernel
theorem dL_act_25 : decode cL_act 25 = .ok (.aload_n 1, 1) := by decide +kernel
theorem dL_act_26 : decode cL_act 26 = .ok (.getfield 21, 3) := by decide +kernel
theorem dL_act_29 : decode cL_act 29 = .ok (.invokestatic 25, 3) := by decide +kernel
theorem dL_act_32 : decode cL_act 32 = .ok (.istore 6, 2) := by decide +kernel
theorem dL_act_34 : decode cL_act 34 = .ok (.iload_n 2, 1) := by decide +kernel
theorem dL_act_35 : decode cL_act 35 = .ok (.iconst 5, 1) := by decide +kernel
theorem dL_act_36 : decode cL_act 36 = .ok (.ishr, 1) := by decide +kernel
theorem dL_act_37 : decode cL_act 37 = .ok (.iload 5, 2) := by decide +kernel
theorem dL_act_39 : decode cL_act 39 = .ok (.iconst 1, 1) := by decide +kernel
theorem dL_act_40 : decode cL_act 40 = .ok (.iadd, 1) := by decide +kernel
theorem dL_act_41 : decode cL_act 41 = .ok (.invokestatic 9, 3) := by decide +kernel
theorem dL_act_44 : decode cL_act 44 = .ok (.istore 7, 2) := by decide +kernel
theorem dL_act_46 : decode cL_act 46 = .ok (.iload_n 2, 1) := by decide +kernel
theorem dL_act_47 : decode cL_act 47 = .ok (.bipush 16, 2) := by decide +kernel
theorem dL_act_49 : decode cL_act 49 = .ok (.invokestatic 9, 3) := by decide +kernel
theorem dL_act_52 : decode cL_act 52 = .ok (.tableswitch 696 0 12 #[68, 68, 68, 68, 68, 116, 160, 187, 275, 275, 421, 590, 590], 68) := by decide +kernel
theorem dL_act_120 : decode cL_act 120 = .ok (.iload 5, 2) := by decide +kernel
theorem dL_act_122 : decode cL_act 122 = .ok (.bipush 30, 2) := by decide +kernel
theorem dL_act_124 : decode cL_act 124 = .ok (.if_icmp .ne 5, 3) := by decide +kernel
theorem dL_act_127 : decode cL_act 127 = .ok (.iconst 1, 1) := by decide +kernel
theorem dL_act_128 : decode cL_act 128 = .ok (.ireturn, 1) := by decide +kernel
theorem dL_act_129 : decode cL_act 129 = .ok (.aload_n 1, 1) := by decide +kernel
theorem dL_act_130 : decode cL_act 130 = .ok (.getfield 15, 3) := by decide +kernel
theorem dL_act_133 : decode cL_act 133 = .ok (.iload_n 3, 1) := by decide +kernel
theorem dL_act_134 : decode cL_act 134 = .ok (.aload 4, 2) := by decide +kernel
theorem dL_act_136 : decode cL_act 136 = .ok (.iconst 1, 1) := by decide +kernel
theorem dL_act_137 : decode cL_act 137 = .ok (.newarray .int, 2) := by decide +kernel
theorem dL_act_139 : decode cL_act 139 = .ok (.dup, 1) := by decide +kernel
theorem dL_act_140 : decode cL_act 140 = .ok (.iconst 0, 1) := by decide +kernel
theorem dL_act_141 : decode cL_act 141 = .ok (.iload 6, 2) := by decide +kernel
theorem dL_act_143 : decode cL_act 143 = .ok (.iastore, 1) := by decide +kernel
theorem dL_act_144 : decode cL_act 144 = .ok (.invokestatic 28, 3) := by decide +kernel
theorem dL_act_147 : decode cL_act 147 = .ok (.aastore, 1) := by decide +kernel
theorem dL_act_148 : decode cL_act 148 = .ok (.aload_n 0, 1) := by decide +kernel
theorem dL_act_149 : decode cL_act 149 = .ok (.iload_n 3, 1) := by decide +kernel
theorem dL_act_150 : decode cL_act 150 = .ok (.iload 6, 2) := by decide +kernel
theorem dL_act_152 : decode cL_act 152 = .ok (.invokevirtual 32, 3) := by decide +kernel
theorem dL_act_155 : decode cL_act 155 = .ok (.iload 5, 2) := by decide +kernel
theorem dL_act_157 : decode cL_act 157 = .ok (.iconst 1, 1) := by decide +kernel
theorem dL_act_158 : decode cL_act 158 = .ok (.iadd, 1) := by decide +kernel
theorem dL_act_159 : decode cL_act 159 = .ok (.if_icmp .ne 7, 3) := by decide +kernel
theorem dL_act_162 : decode cL_act 162 = .ok (.iconst 1, 1) := by decide +kernel
theorem dL_act_163 : decode cL_act 163 = .ok (.goto 4, 3) := by decide +kernel
theorem dL_act_166 : decode cL_act 166 = .ok (.iconst 0, 1) := by decide +kernel
theorem dL_act_167 : decode cL_act 167 = .ok (.ireturn, 1) := by decide +kernel
theorem dL_act_168 : decode cL_act 168 = .ok (.iload 5, 2) := by decide +kernel
theorem dL_act_170 : decode cL_act 170 = .ok (.ifCond .ne 5, 3) := by decide +kernel
theorem dL_act_173 : decode cL_act 173 = .ok (.iconst 1, 1) := by decide +kernel
theorem dL_act_174 : decode cL_act 174 = .ok (.ireturn, 1) := by decide +kernel
theorem dL_act_175 : decode cL_act 175 = .ok (.aload_n 1, 1) := by decide +kernel
theorem dL_act_176 : decode cL_act 176 = .ok (.getfield 15, 3) := by decide +kernel
theorem dL_act_179 : decode cL_act 179 = .ok (.iload_n 3, 1) := by decide +kernel
theorem dL_act_180 : decode cL_act 180 = .ok (.aload 4, 2) := by decide +kernel
theorem dL_act_182 : decode cL_act 182 = .ok (.iconst 0, 1) := by decide +kernel
theorem dL_act_183 : decode cL_act 183 = .ok (.iload 5, 2) := by decide +kernel
theorem dL_act_185 : decode cL_act 185 = .ok (.iconst 1, 1) := by decide +kernel
theorem dL_act_186 : decode cL_act 186 = .ok (.isub, 1) := by decide +kernel
theorem dL_act_187 : decode cL_act 187 = .ok (.invokestatic 37, 3) := by decide +kernel
theorem dL_act_190 : decode cL_act 190 = .ok (.aastore, 1) := by decide +kernel
theorem dL_act_191 : decode cL_act 191 = .ok (.aload_n 0, 1) := by decide +kernel
theorem dL_act_192 : decode cL_act 192 = .ok (.iload_n 3, 1) := by decide +kernel
theorem dL_act_193 : decode cL_act 193 = .ok (.invokevirtual 41, 3) := by decide +kernel
theorem dL_act_196 : decode cL_act 196 = .ok (.aload 4, 2) := by decide +kernel
theorem dL_act_198 : decode cL_act 198 = .ok (.iload 5, 2) := by decide +kernel
theorem dL_act_200 : decode cL_act 200 = .ok (.iconst 1, 1) := by decide +kernel
theorem dL_act_201 : decode cL_act 201 = .ok (.isub, 1) := by decide +kernel
theorem dL_act_202 : decode cL_act 202 = .ok (.iaload, 1) := by decide +kernel
theorem dL_act_203 : decode cL_act 203 = .ok (.if_icmp .ne 7, 3) := by decide +kernel
theorem dL_act_206 : decode cL_act 206 = .ok (.iconst 1, 1) := by decide +kernel
theorem dL_act_207 : decode cL_act 207 = .ok (.goto 4, 3) := by decide +kernel
theorem dL_act_210 : decode cL_act 210 = .ok (.iconst 0, 1) := by decide +kernel
theorem dL_act_211 : decode cL_act 211 = .ok (.ireturn, 1) := by decide +kernel
theorem dL_act_212 : decode cL_act 212 = .ok (.aload_n 1, 1) := by decide +kernel
theorem dL_act_213 : decode cL_act 213 = .ok (.getfield 15, 3) := by decide +kernel
theorem dL_act_216 : decode cL_act 216 = .ok (.iload_n 3, 1) := by decide +kernel
theorem dL_act_217 : decode cL_act 217 = .ok (.aload 4, 2) := by decide +kernel
theorem dL_act_219 : decode cL_act 219 = .ok (.invokestatic 45, 3) := by decide +kernel
theorem dL_act_222 : decode cL_act 222 = .ok (.aastore, 1) := by decide +kernel
theorem dL_act_223 : decode cL_act 223 = .ok (.aload_n 0, 1) := by decide +kernel
theorem dL_act_224 : decode cL_act 224 = .ok (.iload_n 3, 1) := by decide +kernel
theorem dL_act_225 : decode cL_act 225 = .ok (.invokevirtual 49, 3) := by decide +kernel
theorem dL_act_228 : decode cL_act 228 = .ok (.iload 5, 2) := by decide +kernel
theorem dL_act_230 : decode cL_act 230 = .ok (.if_icmp .ne 7, 3) := by decide +kernel
theorem dL_act_233 : decode cL_act 233 = .ok (.iconst 1, 1) := by decide +kernel
theorem dL_act_234 : decode cL_act 234 = .ok (.goto 4, 3) := by decide +kernel
theorem dL_act_237 : decode cL_act 237 = .ok (.iconst 0, 1) := by decide +kernel
theorem dL_act_238 : decode cL_act 238 = .ok (.ireturn, 1) := by decide +kernel
theorem dL_act_239 : decode cL_act 239 = .ok (.aload_n 1, 1) := by decide +kernel
theorem dL_act_240 : decode cL_act 240 = .ok (.getfield 15, 3) := by decide +kernel
theorem dL_act_243 : decode cL_act 243 = .ok (.iconst 1, 1) := by decide +kernel
theorem dL_act_244 : decode cL_act 244 = .ok (.iload_n 3, 1) := by decide +kernel
theorem dL_act_245 : decode cL_act 245 = .ok (.isub, 1) := by decide +kernel
theorem dL_act_246 : decode cL_act 246 = .ok (.aaload, 1) := by decide +kernel
theorem dL_act_247 : decode cL_act 247 = .ok (.astore 8, 2) := by decide +kernel
theorem dL_act_249 : decode cL_act 249 = .ok (.iload 5, 2) := by decide +kernel
theorem dL_act_251 : decode cL_act 251 = .ok (.aload 8, 2) := by decide +kernel
theorem dL_act_253 : decode cL_act 253 = .ok (.arraylength, 1) := by decide +kernel
theorem dL_act_254 : decode cL_act 254 = .ok (.iadd, 1) := by decide +kernel
theorem dL_act_255 : decode cL_act 255 = .ok (.bipush 30, 2) := by decide +kernel
theorem dL_act_257 : decode cL_act 257 = .ok (.if_icmp .gt 7, 3) := by decide +kernel
theorem dL_act_260 : decode cL_act 260 = .ok (.iconst 1, 1) := by decide +kernel
theorem dL_act_261 : decode cL_act 261 = .ok (.goto 4, 3) := by decide +kernel
theorem dL_act_264 : decode cL_act 264 = .ok (.iconst 0, 1) := by decide +kernel
theorem dL_act_265 : decode cL_act 265 = .ok (.istore 9, 2) := by decide +kernel
theorem dL_act_267 : decode cL_act 267 = .ok (.iload 9, 2) := by decide +kernel
theorem dL_act_269 : decode cL_act 269 = .ok (.ifCond .eq 16, 3) := by decide +kernel
theorem dL_act_272 : decode cL_act 272 = .ok (.aload_n 1, 1) := by decide +kernel
theorem dL_act_273 : decode cL_act 273 = .ok (.getfield 15, 3) := by decide +kernel
theorem dL_act_276 : decode cL_act 276 = .ok (.iload_n 3, 1) := by decide +kernel
theorem dL_act_277 : decode cL_act 277 = .ok (.aload 4, 2) := by decide +kernel
theorem dL_act_279 : decode cL_act 279 = .ok (.aload 8, 2) := by decide +kernel
theorem dL_act_281 : decode cL_act 281 = .ok (.invokestatic 28, 3) := by decide +kernel
theorem dL_act_284 : decode cL_act 284 = .ok (.aastore, 1) := by decide +kernel
theorem dL_act_285 : decode cL_act 285 = .ok (.aload_n 0, 1) := by decide +kernel
theorem dL_act_286 : decode cL_act 286 = .ok (.iload_n 3, 1) := by decide +kernel
theorem dL_act_287 : decode cL_act 287 = .ok (.invokevirtual 52, 3) := by decide +kernel
theorem dL_act_290 : decode cL_act 290 = .ok (.istore 10, 2) := by decide +kernel
theorem dL_act_292 : decode cL_act 292 = .ok (.iload 9, 2) := by decide +kernel
theorem dL_act_294 : decode cL_act 294 = .ok (.ifCond .eq 18, 3) := by decide +kernel
theorem dL_act_297 : decode cL_act 297 = .ok (.iload 10, 2) := by decide +kernel
theorem dL_act_299 : decode cL_act 299 = .ok (.iload 5, 2) := by decide +kernel
theorem dL_act_301 : decode cL_act 301 = .ok (.aload 8, 2) := by decide +kernel
theorem dL_act_303 : decode cL_act 303 = .ok (.arraylength, 1) := by decide +kernel
theorem dL_act_304 : decode cL_act 304 = .ok (.iadd, 1) := by decide +kernel
theorem dL_act_305 : decode cL_act 305 = .ok (.if_icmp .ne 7, 3) := by decide +kernel
theorem dL_act_308 : decode cL_act 308 = .ok (.iconst 1, 1) := by decide +kernel
theorem dL_act_309 : decode cL_act 309 = .ok (.goto 4, 3) := by decide +kernel
theorem dL_act_312 : decode cL_act 312 = .ok (.iconst 0, 1) := by decide +kernel
theorem dL_act_313 : decode cL_act 313 = .ok (.ireturn, 1) := by decide +kernel
theorem dL_act_314 : decode cL_act 314 = .ok (.astore 10, 2) := by decide +kernel
theorem dL_act_316 : decode cL_act 316 = .ok (.iload 9, 2) := by decide +kernel
theorem dL_act_318 : decode cL_act 318 = .ok (.ifCond .ne 7, 3) := by decide +kernel
theorem dL_act_321 : decode cL_act 321 = .ok (.iconst 1, 1) := by decide +kernel
theorem dL_act_322 : decode cL_act 322 = .ok (.goto 4, 3) := by decide +kernel
theorem dL_act_325 : decode cL_act 325 = .ok (.iconst 0, 1) := by decide +kernel
theorem dL_act_326 : decode cL_act 326 = .ok (.ireturn, 1) := by decide +kernel
theorem dL_act_327 : decode cL_act 327 = .ok (.iload 7, 2) := by decide +kernel
theorem dL_act_329 : decode cL_act 329 = .ok (.iconst 1, 1) := by decide +kernel
theorem dL_act_330 : decode cL_act 330 = .ok (.iadd, 1) := by decide +kernel
theorem dL_act_331 : decode cL_act 331 = .ok (.iload 5, 2) := by decide +kernel
theorem dL_act_333 : decode cL_act 333 = .ok (.if_icmp .lt 5, 3) := by decide +kernel
theorem dL_act_336 : decode cL_act 336 = .ok (.iconst 1, 1) := by decide +kernel
theorem dL_act_337 : decode cL_act 337 = .ok (.ireturn, 1) := by decide +kernel
theorem dL_act_338 : decode cL_act 338 = .ok (.aload 4, 2) := by decide +kernel
theorem dL_act_340 : decode cL_act 340 = .ok (.iload 7, 2) := by decide +kernel
theorem dL_act_342 : decode cL_act 342 = .ok (.iaload, 1) := by decide +kernel
theorem dL_act_343 : decode cL_act 343 = .ok (.invokestatic 57, 3) := by decide +kernel
theorem dL_act_346 : decode cL_act 346 = .ok (.aload 4, 2) := by decide +kernel
theorem dL_act_348 : decode cL_act 348 = .ok (.iload 7, 2) := by decide +kernel
theorem dL_act_350 : decode cL_act 350 = .ok (.iconst 1, 1) := by decide +kernel
theorem dL_act_351 : decode cL_act 351 = .ok (.iadd, 1) := by decide +kernel
theorem dL_act_352 : decode cL_act 352 = .ok (.iaload, 1) := by decide +kernel
theorem dL_act_353 : decode cL_act 353 = .ok (.invokestatic 57, 3) := by decide +kernel
theorem dL_act_356 : decode cL_act 356 = .ok (.isub, 1) := by decide +kernel
theorem dL_act_357 : decode cL_act 357 = .ok (.invokestatic 57, 3) := by decide +kernel
theorem dL_act_360 : decode cL_act 360 = .ok (.iconst 1, 1) := by decide +kernel
theorem dL_act_361 : decode cL_act 361 = .ok (.if_icmp .le 7, 3) := by decide +kernel
theorem dL_act_364 : decode cL_act 364 = .ok (.iconst 1, 1) := by decide +kernel
theorem dL_act_365 : decode cL_act 365 = .ok (.goto 4, 3) := by decide +kernel
theorem dL_act_368 : decode cL_act 368 = .ok (.iconst 0, 1) := by decide +kernel
theorem dL_act_369 : decode cL_act 369 = .ok (.istore 8, 2) := by decide +kernel
theorem dL_act_371 : decode cL_act 371 = .ok (.iload 8, 2) := by decide +kernel
theorem dL_act_373 : decode cL_act 373 = .ok (.ifCond .eq 55, 3) := by decide +kernel
theorem dL_act_376 : decode cL_act 376 = .ok (.aload_n 1, 1) := by decide +kernel
theorem dL_act_377 : decode cL_act 377 = .ok (.getfield 15, 3) := by decide +kernel
theorem dL_act_380 : decode cL_act 380 = .ok (.iload_n 3, 1) := by decide +kernel
theorem dL_act_381 : decode cL_act 381 = .ok (.aload 4, 2) := by decide +kernel
theorem dL_act_383 : decode cL_act 383 = .ok (.iconst 0, 1) := by decide +kernel
theorem dL_act_384 : decode cL_act 384 = .ok (.iload 7, 2) := by decide +kernel
theorem dL_act_386 : decode cL_act 386 = .ok (.invokestatic 37, 3) := by decide +kernel
theorem dL_act_389 : decode cL_act 389 = .ok (.iconst 2, 1) := by decide +kernel
theorem dL_act_390 : decode cL_act 390 = .ok (.newarray .int, 2) := by decide +kernel
theorem dL_act_392 : decode cL_act 392 = .ok (.dup, 1) := by decide +kernel
theorem dL_act_393 : decode cL_act 393 = .ok (.iconst 0, 1) := by decide +kernel
theorem dL_act_394 : decode cL_act 394 = .ok (.aload 4, 2) := by decide +kernel
theorem dL_act_396 : decode cL_act 396 = .ok (.iload 7, 2) := by decide +kernel
theorem dL_act_398 : decode cL_act 398 = .ok (.iconst 1, 1) := by decide +kernel
theorem dL_act_399 : decode cL_act 399 = .ok (.iadd, 1) := by decide +kernel
theorem dL_act_400 : decode cL_act 400 = .ok (.iaload, 1) := by decide +kernel
theorem dL_act_401 : decode cL_act 401 = .ok (.iastore, 1) := by decide +kernel
theorem dL_act_402 : decode cL_act 402 = .ok (.dup, 1) := by decide +kernel
theorem dL_act_403 : decode cL_act 403 = .ok (.iconst 1, 1) := by decide +kernel
theorem dL_act_404 : decode cL_act 404 = .ok (.aload 4, 2) := by decide +kernel
theorem dL_act_406 : decode cL_act 406 = .ok (.iload 7, 2) := by decide +kernel
theorem dL_act_408 : decode cL_act 408 = .ok (.iaload, 1) := by decide +kernel
theorem dL_act_409 : decode cL_act 409 = .ok (.iastore, 1) := by decide +kernel
theorem dL_act_410 : decode cL_act 410 = .ok (.invokestatic 28, 3) := by decide +kernel
theorem dL_act_413 : decode cL_act 413 = .ok (.aload 4, 2) := by decide +kernel
theorem dL_act_415 : decode cL_act 415 = .ok (.iload 7, 2) := by decide +kernel
theorem dL_act_417 : decode cL_act 417 = .ok (.iconst 2, 1) := by decide +kernel
theorem dL_act_418 : decode cL_act 418 = .ok (.iadd, 1) := by decide +kernel
theorem dL_act_419 : decode cL_act 419 = .ok (.iload 5, 2) := by decide +kernel
theorem dL_act_421 : decode cL_act 421 = .ok (.invokestatic 37, 3) := by decide +kernel
theorem dL_act_424 : decode cL_act 424 = .ok (.invokestatic 28, 3) := by decide +kernel
theorem dL_act_427 : decode cL_act 427 = .ok (.aastore, 1) := by decide +kernel
theorem dL_act_428 : decode cL_act 428 = .ok (.aload_n 0, 1) := by decide +kernel
theorem dL_act_429 : decode cL_act 429 = .ok (.iload_n 3, 1) := by decide +kernel
theorem dL_act_430 : decode cL_act 430 = .ok (.iload 7, 2) := by decide +kernel
theorem dL_act_432 : decode cL_act 432 = .ok (.invokevirtual 62, 3) := by decide +kernel
theorem dL_act_435 : decode cL_act 435 = .ok (.istore 9, 2) := by decide +kernel
theorem dL_act_437 : decode cL_act 437 = .ok (.iload 8, 2) := by decide +kernel
theorem dL_act_439 : decode cL_act 439 = .ok (.ifCond .eq 19, 3) := by decide +kernel
theorem dL_act_442 : decode cL_act 442 = .ok (.iload 9, 2) := by decide +kernel
theorem dL_act_444 : decode cL_act 444 = .ok (.aload 4, 2) := by decide +kernel
theorem dL_act_446 : decode cL_act 446 = .ok (.iload 7, 2) := by decide +kernel
theorem dL_act_448 : decode cL_act 448 = .ok (.iconst 1, 1) := by decide +kernel
theorem dL_act_449 : decode cL_act 449 = .ok (.iadd, 1) := by decide +kernel
theorem dL_act_450 : decode cL_act 450 = .ok (.iaload, 1) := by decide +kernel
theorem dL_act_451 : decode cL_act 451 = .ok (.if_icmp .ne 7, 3) := by decide +kernel
theorem dL_act_454 : decode cL_act 454 = .ok (.iconst 1, 1) := by decide +kernel
theorem dL_act_455 : decode cL_act 455 = .ok (.goto 4, 3) := by decide +kernel
theorem dL_act_458 : decode cL_act 458 = .ok (.iconst 0, 1) := by decide +kernel
theorem dL_act_459 : decode cL_act 459 = .ok (.ireturn, 1) := by decide +kernel
theorem dL_act_460 : decode cL_act 460 = .ok (.astore 9, 2) := by decide +kernel
theorem dL_act_462 : decode cL_act 462 = .ok (.iload 8, 2) := by decide +kernel
theorem dL_act_464 : decode cL_act 464 = .ok (.ifCond .ne 7, 3) := by decide +kernel
theorem dL_act_467 : decode cL_act 467 = .ok (.iconst 1, 1) := by decide +kernel
theorem dL_act_468 : decode cL_act 468 = .ok (.goto 4, 3) := by decide +kernel
theorem dL_act_471 : decode cL_act 471 = .ok (.iconst 0, 1) := by decide +kernel
theorem dL_act_472 : decode cL_act 472 = .ok (.ireturn, 1) := by decide +kernel
theorem dL_act_473 : decode cL_act 473 = .ok (.iload 7, 2) := by decide +kernel
theorem dL_act_475 : decode cL_act 475 = .ok (.istore 8, 2) := by decide +kernel
theorem dL_act_477 : decode cL_act 477 = .ok (.iload 7, 2) := by decide +kernel
theorem dL_act_479 : decode cL_act 479 = .ok (.istore 9, 2) := by decide +kernel
theorem dL_act_481 : decode cL_act 481 = .ok (.iload 9, 2) := by decide +kernel
theorem dL_act_483 : decode cL_act 483 = .ok (.iconst 2, 1) := by decide +kernel
theorem dL_act_484 : decode cL_act 484 = .ok (.iadd, 1) := by decide +kernel
theorem dL_act_485 : decode cL_act 485 = .ok (.iload 5, 2) := by decide +kernel
theorem dL_act_487 : decode cL_act 487 = .ok (.if_icmp .ge 29, 3) := by decide +kernel
theorem dL_act_490 : decode cL_act 490 = .ok (.aload 4, 2) := by decide +kernel
theorem dL_act_492 : decode cL_act 492 = .ok (.iload 9, 2) := by decide +kernel
theorem dL_act_494 : decode cL_act 494 = .ok (.invokestatic 65, 3) := by decide +kernel
theorem dL_act_497 : decode cL_act 497 = .ok (.ifCond .ne 6, 3) := by decide +kernel
theorem dL_act_500 : decode cL_act 500 = .ok (.goto 10, 3) := by decide +kernel
theorem dL_act_503 : decode cL_act 503 = .ok (.iload 9, 2) := by decide +kernel
theorem dL_act_505 : decode cL_act 505 = .ok (.istore 8, 2) := by decide +kernel
theorem dL_act_507 : decode cL_act 507 = .ok (.goto 9, 3) := by decide +kernel
theorem dL_act_510 : decode cL_act 510 = .ok (.iinc 9 1, 3) := by decide +kernel
theorem dL_act_513 : decode cL_act 513 = .ok (.goto (-32), 3) := by decide +kernel
theorem dL_act_516 : decode cL_act 516 = .ok (.iload 8, 2) := by decide +kernel
theorem dL_act_518 : decode cL_act 518 = .ok (.iconst 2, 1) := by decide +kernel
theorem dL_act_519 : decode cL_act 519 = .ok (.iadd, 1) := by decide +kernel
theorem dL_act_520 : decode cL_act 520 = .ok (.iload 5, 2) := by decide +kernel
theorem dL_act_522 : decode cL_act 522 = .ok (.if_icmp .lt 5, 3) := by decide +kernel
theorem dL_act_525 : decode cL_act 525 = .ok (.iconst 1, 1) := by decide +kernel
theorem dL_act_526 : decode cL_act 526 = .ok (.ireturn, 1) := by decide +kernel
theorem dL_act_527 : decode cL_act 527 = .ok (.aload 4, 2) := by decide +kernel
theorem dL_act_529 : decode cL_act 529 = .ok (.iload 8, 2) := by decide +kernel
theorem dL_act_531 : decode cL_act 531 = .ok (.invokestatic 65, 3) := by decide +kernel
theorem dL_act_534 : decode cL_act 534 = .ok (.istore 9, 2) := by decide +kernel
theorem dL_act_536 : decode cL_act 536 = .ok (.aload 4, 2) := by decide +kernel
theorem dL_act_538 : decode cL_act 538 = .ok (.iload 8, 2) := by decide +kernel
theorem dL_act_540 : decode cL_act 540 = .ok (.iconst 1, 1) := by decide +kernel
theorem dL_act_541 : decode cL_act 541 = .ok (.iadd, 1) := by decide +kernel
theorem dL_act_542 : decode cL_act 542 = .ok (.iaload, 1) := by decide +kernel
theorem dL_act_543 : decode cL_act 543 = .ok (.istore 10, 2) := by decide +kernel
theorem dL_act_545 : decode cL_act 545 = .ok (.iload 9, 2) := by decide +kernel
theorem dL_act_547 : decode cL_act 547 = .ok (.ifCond .eq 55, 3) := by decide +kernel
theorem dL_act_550 : decode cL_act 550 = .ok (.aload_n 1, 1) := by decide +kernel
theorem dL_act_551 : decode cL_act 551 = .ok (.getfield 15, 3) := by decide +kernel
theorem dL_act_554 : decode cL_act 554 = .ok (.iload_n 3, 1) := by decide +kernel
theorem dL_act_555 : decode cL_act 555 = .ok (.aload 4, 2) := by decide +kernel
theorem dL_act_557 : decode cL_act 557 = .ok (.iconst 0, 1) := by decide +kernel
theorem dL_act_558 : decode cL_act 558 = .ok (.iload 8, 2) := by decide +kernel
theorem dL_act_560 : decode cL_act 560 = .ok (.invokestatic 37, 3) := by decide +kernel
theorem dL_act_563 : decode cL_act 563 = .ok (.iconst 3, 1) := by decide +kernel
theorem dL_act_564 : decode cL_act 564 = .ok (.newarray .int, 2) := by decide +kernel
theorem dL_act_566 : decode cL_act 566 = .ok (.dup, 1) := by decide +kernel
theorem dL_act_567 : decode cL_act 567 = .ok (.iconst 0, 1) := by decide +kernel
theorem dL_act_568 : decode cL_act 568 = .ok (.iload 10, 2) := by decide +kernel
theorem dL_act_570 : decode cL_act 570 = .ok (.iastore, 1) := by decide +kernel
theorem dL_act_571 : decode cL_act 571 = .ok (.dup, 1) := by decide +kernel
theorem dL_act_572 : decode cL_act 572 = .ok (.iconst 1, 1) := by decide +kernel
theorem dL_act_573 : decode cL_act 573 = .ok (.aload 4, 2) := by decide +kernel
theorem dL_act_575 : decode cL_act 575 = .ok (.iload 8, 2) := by decide +kernel
theorem dL_act_577 : decode cL_act 577 = .ok (.iaload, 1) := by decide +kernel
theorem dL_act_578 : decode cL_act 578 = .ok (.iastore, 1) := by decide +kernel
theorem dL_act_579 : decode cL_act 579 = .ok (.dup, 1) := by decide +kernel
theorem dL_act_580 : decode cL_act 580 = .ok (.iconst 2, 1) := by decide +kernel
theorem dL_act_581 : decode cL_act 581 = .ok (.iload 10, 2) := by decide +kernel
theorem dL_act_583 : decode cL_act 583 = .ok (.iastore, 1) := by decide +kernel
theorem dL_act_584 : decode cL_act 584 = .ok (.invokestatic 28, 3) := by decide +kernel
theorem dL_act_587 : decode cL_act 587 = .ok (.aload 4, 2) := by decide +kernel
theorem dL_act_589 : decode cL_act 589 = .ok (.iload 8, 2) := by decide +kernel
theorem dL_act_591 : decode cL_act 591 = .ok (.iconst 3, 1) := by decide +kernel
theorem dL_act_592 : decode cL_act 592 = .ok (.iadd, 1) := by decide +kernel
theorem dL_act_593 : decode cL_act 593 = .ok (.iload 5, 2) := by decide +kernel
theorem dL_act_595 : decode cL_act 595 = .ok (.invokestatic 37, 3) := by decide +kernel
theorem dL_act_598 : decode cL_act 598 = .ok (.invokestatic 28, 3) := by decide +kernel
theorem dL_act_601 : decode cL_act 601 = .ok (.aastore, 1) := by decide +kernel
theorem dL_act_602 : decode cL_act 602 = .ok (.aload_n 0, 1) := by decide +kernel
theorem dL_act_603 : decode cL_act 603 = .ok (.iload_n 3, 1) := by decide +kernel
theorem dL_act_604 : decode cL_act 604 = .ok (.iload 8, 2) := by decide +kernel
theorem dL_act_606 : decode cL_act 606 = .ok (.invokevirtual 69, 3) := by decide +kernel
theorem dL_act_609 : decode cL_act 609 = .ok (.istore 11, 2) := by decide +kernel
theorem dL_act_611 : decode cL_act 611 = .ok (.iload 9, 2) := by decide +kernel
theorem dL_act_613 : decode cL_act 613 = .ok (.ifCond .eq 14, 3) := by decide +kernel
theorem dL_act_616 : decode cL_act 616 = .ok (.iload 11, 2) := by decide +kernel
theorem dL_act_618 : decode cL_act 618 = .ok (.iload 10, 2) := by decide +kernel
theorem dL_act_620 : decode cL_act 620 = .ok (.if_icmp .ne 7, 3) := by decide +kernel
theorem dL_act_623 : decode cL_act 623 = .ok (.iconst 1, 1) := by decide +kernel
theorem dL_act_624 : decode cL_act 624 = .ok (.goto 4, 3) := by decide +kernel
theorem dL_act_627 : decode cL_act 627 = .ok (.iconst 0, 1) := by decide +kernel
theorem dL_act_628 : decode cL_act 628 = .ok (.ireturn, 1) := by decide +kernel
theorem dL_act_629 : decode cL_act 629 = .ok (.astore 11, 2) := by decide +kernel
theorem dL_act_631 : decode cL_act 631 = .ok (.iload 9, 2) := by decide +kernel
theorem dL_act_633 : decode cL_act 633 = .ok (.ifCond .ne 7, 3) := by decide +kernel
theorem dL_act_636 : decode cL_act 636 = .ok (.iconst 1, 1) := by decide +kernel
theorem dL_act_637 : decode cL_act 637 = .ok (.goto 4, 3) := by decide +kernel
theorem dL_act_640 : decode cL_act 640 = .ok (.iconst 0, 1) := by decide +kernel
theorem dL_act_641 : decode cL_act 641 = .ok (.ireturn, 1) := by decide +kernel
theorem dL_act_642 : decode cL_act 642 = .ok (.iload 5, 2) := by decide +kernel
theorem dL_act_644 : decode cL_act 644 = .ok (.bipush 28, 2) := by decide +kernel
theorem dL_act_646 : decode cL_act 646 = .ok (.if_icmp .gt 7, 3) := by decide +kernel
theorem dL_act_649 : decode cL_act 649 = .ok (.iconst 1, 1) := by decide +kernel
theorem dL_act_650 : decode cL_act 650 = .ok (.goto 4, 3) := by decide +kernel
theorem dL_act_653 : decode cL_act 653 = .ok (.iconst 0, 1) := by decide +kernel
theorem dL_act_654 : decode cL_act 654 = .ok (.istore 8, 2) := by decide +kernel
theorem dL_act_656 : decode cL_act 656 = .ok (.iload 8, 2) := by decide +kernel
theorem dL_act_658 : decode cL_act 658 = .ok (.ifCond .eq 46, 3) := by decide +kernel
theorem dL_act_661 : decode cL_act 661 = .ok (.aload_n 1, 1) := by decide +kernel
theorem dL_act_662 : decode cL_act 662 = .ok (.getfield 15, 3) := by decide +kernel
theorem dL_act_665 : decode cL_act 665 = .ok (.iload_n 3, 1) := by decide +kernel
theorem dL_act_666 : decode cL_act 666 = .ok (.aload 4, 2) := by decide +kernel
theorem dL_act_668 : decode cL_act 668 = .ok (.iconst 0, 1) := by decide +kernel
theorem dL_act_669 : decode cL_act 669 = .ok (.iload 7, 2) := by decide +kernel
theorem dL_act_671 : decode cL_act 671 = .ok (.invokestatic 37, 3) := by decide +kernel
theorem dL_act_674 : decode cL_act 674 = .ok (.iconst 2, 1) := by decide +kernel
theorem dL_act_675 : decode cL_act 675 = .ok (.newarray .int, 2) := by decide +kernel
theorem dL_act_677 : decode cL_act 677 = .ok (.dup, 1) := by decide +kernel
theorem dL_act_678 : decode cL_act 678 = .ok (.iconst 0, 1) := by decide +kernel
theorem dL_act_679 : decode cL_act 679 = .ok (.iload 6, 2) := by decide +kernel
theorem dL_act_681 : decode cL_act 681 = .ok (.iastore, 1) := by decide +kernel
theorem dL_act_682 : decode cL_act 682 = .ok (.dup, 1) := by decide +kernel
theorem dL_act_683 : decode cL_act 683 = .ok (.iconst 1, 1) := by decide +kernel
theorem dL_act_684 : decode cL_act 684 = .ok (.iload 6, 2) := by decide +kernel
theorem dL_act_686 : decode cL_act 686 = .ok (.ineg, 1) := by decide +kernel
theorem dL_act_687 : decode cL_act 687 = .ok (.iastore, 1) := by decide +kernel
theorem dL_act_688 : decode cL_act 688 = .ok (.invokestatic 28, 3) := by decide +kernel
theorem dL_act_691 : decode cL_act 691 = .ok (.aload 4, 2) := by decide +kernel
theorem dL_act_693 : decode cL_act 693 = .ok (.iload 7, 2) := by decide +kernel
theorem dL_act_695 : decode cL_act 695 = .ok (.iload 5, 2) := by decide +kernel
theorem dL_act_697 : decode cL_act 697 = .ok (.invokestatic 37, 3) := by decide +kernel
theorem dL_act_700 : decode cL_act 700 = .ok (.invokestatic 28, 3) := by decide +kernel
theorem dL_act_703 : decode cL_act 703 = .ok (.aastore, 1) := by decide +kernel
theorem dL_act_704 : decode cL_act 704 = .ok (.aload_n 0, 1) := by decide +kernel
theorem dL_act_705 : decode cL_act 705 = .ok (.iload_n 3, 1) := by decide +kernel
theorem dL_act_706 : decode cL_act 706 = .ok (.iload 7, 2) := by decide +kernel
theorem dL_act_708 : decode cL_act 708 = .ok (.iload 6, 2) := by decide +kernel
theorem dL_act_710 : decode cL_act 710 = .ok (.invokevirtual 72, 3) := by decide +kernel
theorem dL_act_713 : decode cL_act 713 = .ok (.istore 9, 2) := by decide +kernel
theorem dL_act_715 : decode cL_act 715 = .ok (.iload 8, 2) := by decide +kernel
theorem dL_act_717 : decode cL_act 717 = .ok (.ifCond .eq 16, 3) := by decide +kernel
theorem dL_act_720 : decode cL_act 720 = .ok (.iload 9, 2) := by decide +kernel
theorem dL_act_722 : decode cL_act 722 = .ok (.iload 5, 2) := by decide +kernel
theorem dL_act_724 : decode cL_act 724 = .ok (.iconst 2, 1) := by decide +kernel
theorem dL_act_725 : decode cL_act 725 = .ok (.iadd, 1) := by decide +kernel
theorem dL_act_726 : decode cL_act 726 = .ok (.if_icmp .ne 7, 3) := by decide +kernel
theorem dL_act_729 : decode cL_act 729 = .ok (.iconst 1, 1) := by decide +kernel
theorem dL_act_730 : decode cL_act 730 = .ok (.goto 4, 3) := by decide +kernel
theorem dL_act_733 : decode cL_act 733 = .ok (.iconst 0, 1) := by decide +kernel
theorem dL_act_734 : decode cL_act 734 = .ok (.ireturn, 1) := by decide +kernel
theorem dL_act_735 : decode cL_act 735 = .ok (.astore 9, 2) := by decide +kernel
theorem dL_act_737 : decode cL_act 737 = .ok (.iload 8, 2) := by decide +kernel
theorem dL_act_739 : decode cL_act 739 = .ok (.ifCond .ne 7, 3) := by decide +kernel
theorem dL_act_742 : decode cL_act 742 = .ok (.iconst 1, 1) := by decide +kernel
theorem dL_act_743 : decode cL_act 743 = .ok (.goto 4, 3) := by decide +kernel
theorem dL_act_746 : decode cL_act 746 = .ok (.iconst 0, 1) := by decide +kernel
theorem dL_act_747 : decode cL_act 747 = .ok (.ireturn, 1) := by decide +kernel
theorem dL_act_748 : decode cL_act 748 = .ok (.aload 4, 2) := by decide +kernel
theorem dL_act_750 : decode cL_act 750 = .ok (.invokestatic 76, 3) := by decide +kernel
theorem dL_act_753 : decode cL_act 753 = .ok (.astore 8, 2) := by decide +kernel
theorem dL_act_755 : decode cL_act 755 = .ok (.aload 8, 2) := by decide +kernel
theorem dL_act_757 : decode cL_act 757 = .ok (.ifnonnull 8, 3) := by decide +kernel
theorem dL_act_760 : decode cL_act 760 = .ok (.aload 4, 2) := by decide +kernel
theorem dL_act_762 : decode cL_act 762 = .ok (.goto 10, 3) := by decide +kernel
theorem dL_act_765 : decode cL_act 765 = .ok (.aload 4, 2) := by decide +kernel
theorem dL_act_767 : decode cL_act 767 = .ok (.aload 8, 2) := by decide +kernel
theorem dL_act_769 : decode cL_act 769 = .ok (.invokestatic 79, 3) := by decide +kernel
theorem dL_act_772 : decode cL_act 772 = .ok (.astore 9, 2) := by decide +kernel
theorem dL_act_774 : decode cL_act 774 = .ok (.aload 8, 2) := by decide +kernel
theorem dL_act_776 : decode cL_act 776 = .ok (.ifnull 15, 3) := by decide +kernel
theorem dL_act_779 : decode cL_act 779 = .ok (.aload 9, 2) := by decide +kernel
theorem dL_act_781 : decode cL_act 781 = .ok (.arraylength, 1) := by decide +kernel
theorem dL_act_782 : decode cL_act 782 = .ok (.bipush 30, 2) := by decide +kernel
theorem dL_act_784 : decode cL_act 784 = .ok (.if_icmp .gt 7, 3) := by decide +kernel
theorem dL_act_787 : decode cL_act 787 = .ok (.iconst 1, 1) := by decide +kernel
theorem dL_act_788 : decode cL_act 788 = .ok (.goto 4, 3) := by decide +kernel
theorem dL_act_791 : decode cL_act 791 = .ok (.iconst 0, 1) := by decide +kernel
theorem dL_act_792 : decode cL_act 792 = .ok (.istore 10, 2) := by decide +kernel
theorem dL_act_794 : decode cL_act 794 = .ok (.iload 10, 2) := by decide +kernel
theorem dL_act_796 : decode cL_act 796 = .ok (.ifCond .eq 11, 3) := by decide +kernel
theorem dL_act_799 : decode cL_act 799 = .ok (.aload_n 1, 1) := by decide +kernel
theorem dL_act_800 : decode cL_act 800 = .ok (.getfield 15, 3) := by decide +kernel
theorem dL_act_803 : decode cL_act 803 = .ok (.iload_n 3, 1) := by decide +kernel
theorem dL_act_804 : decode cL_act 804 = .ok (.aload 9, 2) := by decide +kernel
theorem dL_act_806 : decode cL_act 806 = .ok (.aastore, 1) := by decide +kernel
theorem dL_act_807 : decode cL_act 807 = .ok (.aload_n 0, 1) := by decide +kernel
theorem dL_act_808 : decode cL_act 808 = .ok (.iload_n 3, 1) := by decide +kernel
theorem dL_act_809 : decode cL_act 809 = .ok (.invokevirtual 82, 3) := by decide +kernel
theorem dL_act_812 : decode cL_act 812 = .ok (.istore 11, 2) := by decide +kernel
theorem dL_act_814 : decode cL_act 814 = .ok (.iload 10, 2) := by decide +kernel
theorem dL_act_816 : decode cL_act 816 = .ok (.ifCond .eq 15, 3) := by decide +kernel
theorem dL_act_819 : decode cL_act 819 = .ok (.iload 11, 2) := by decide +kernel
theorem dL_act_821 : decode cL_act 821 = .ok (.aload 9, 2) := by decide +kernel
theorem dL_act_823 : decode cL_act 823 = .ok (.arraylength, 1) := by decide +kernel
theorem dL_act_824 : decode cL_act 824 = .ok (.if_icmp .ne 7, 3) := by decide +kernel
theorem dL_act_827 : decode cL_act 827 = .ok (.iconst 1, 1) := by decide +kernel
theorem dL_act_828 : decode cL_act 828 = .ok (.goto 4, 3) := by decide +kernel
theorem dL_act_831 : decode cL_act 831 = .ok (.iconst 0, 1) := by decide +kernel
theorem dL_act_832 : decode cL_act 832 = .ok (.ireturn, 1) := by decide +kernel
theorem dL_act_833 : decode cL_act 833 = .ok (.astore 11, 2) := by decide +kernel
theorem dL_act_835 : decode cL_act 835 = .ok (.iload 10, 2) := by decide +kernel
theorem dL_act_837 : decode cL_act 837 = .ok (.ifCond .ne 7, 3) := by decide +kernel
theorem dL_act_840 : decode cL_act 840 = .ok (.iconst 1, 1) := by decide +kernel
theorem dL_act_841 : decode cL_act 841 = .ok (.goto 4, 3) := by decide +kernel
theorem dL_act_844 : decode cL_act 844 = .ok (.iconst 0, 1) := by decide +kernel
theorem dL_act_845 : decode cL_act 845 = .ok (.ireturn, 1) := by decide +kernel
theorem dL_isTriple_0 : decode cL_isTriple 0 = .ok (.aload_n 0, 1) := by decide +kernel
theorem dL_isTriple_1 : decode cL_isTriple 1 = .ok (.iload_n 1, 1) := by decide +kernel
theorem dL_isTriple_2 : decode cL_isTriple 2 = .ok (.iaload, 1) := by decide +kernel
theorem dL_isTriple_3 : decode cL_isTriple 3 = .ok (.aload_n 0, 1) := by decide +kernel
theorem dL_isTriple_4 : decode cL_isTriple 4 = .ok (.iload_n 1, 1) := by decide +kernel
theorem dL_isTriple_5 : decode cL_isTriple 5 = .ok (.iconst 2, 1) := by decide +kernel
theorem dL_isTriple_6 : decode cL_isTriple 6 = .ok (.iadd, 1) := by decide +kernel
theorem dL_isTriple_7 : decode cL_isTriple 7 = .ok (.iaload, 1) := by decide +kernel
theorem dL_isTriple_8 : decode cL_isTriple 8 = .ok (.if_icmp .ne 35, 3) := by decide +kernel
theorem dL_isTriple_11 : decode cL_isTriple 11 = .ok (.aload_n 0, 1) := by decide +kernel
theorem dL_isTriple_12 : decode cL_isTriple 12 = .ok (.iload_n 1, 1) := by decide +kernel
theorem dL_isTriple_13 : decode cL_isTriple 13 = .ok (.iaload, 1) := by decide +kernel
theorem dL_isTriple_14 : decode cL_isTriple 14 = .ok (.aload_n 0, 1) := by decide +kernel
theorem dL_isTriple_15 : decode cL_isTriple 15 = .ok (.iload_n 1, 1) := by decide +kernel
theorem dL_isTriple_16 : decode cL_isTriple 16 = .ok (.iconst 1, 1) := by decide +kernel
theorem dL_isTriple_17 : decode cL_isTriple 17 = .ok (.iadd, 1) := by decide +kernel
theorem dL_isTriple_18 : decode cL_isTriple 18 = .ok (.iaload, 1) := by decide +kernel
theorem dL_isTriple_19 : decode cL_isTriple 19 = .ok (.imul, 1) := by decide +kernel
theorem dL_isTriple_20 : decode cL_isTriple 20 = .ok (.ifCond .le 23, 3) := by decide +kernel
theorem dL_isTriple_23 : decode cL_isTriple 23 = .ok (.aload_n 0, 1) := by decide +kernel
theorem dL_isTriple_24 : decode cL_isTriple 24 = .ok (.iload_n 1, 1) := by decide +kernel
theorem dL_isTriple_25 : decode cL_isTriple 25 = .ok (.iaload, 1) := by decide +kernel
theorem dL_isTriple_26 : decode cL_isTriple 26 = .ok (.aload_n 0, 1) := by decide +kernel
theorem dL_isTriple_27 : decode cL_isTriple 27 = .ok (.iload_n 1, 1) := by decide +kernel
theorem dL_isTriple_28 : decode cL_isTriple 28 = .ok (.iconst 1, 1) := by decide +kernel
theorem dL_isTriple_29 : decode cL_isTriple 29 = .ok (.iadd, 1) := by decide +kernel
theorem dL_isTriple_30 : decode cL_isTriple 30 = .ok (.iaload, 1) := by decide +kernel
theorem dL_isTriple_31 : decode cL_isTriple 31 = .ok (.isub, 1) := by decide +kernel
theorem dL_isTriple_32 : decode cL_isTriple 32 = .ok (.invokestatic 57, 3) := by decide +kernel
theorem dL_isTriple_35 : decode cL_isTriple 35 = .ok (.iconst 1, 1) := by decide +kernel
theorem dL_isTriple_36 : decode cL_isTriple 36 = .ok (.if_icmp .ne 7, 3) := by decide +kernel
theorem dL_isTriple_39 : decode cL_isTriple 39 = .ok (.iconst 1, 1) := by decide +kernel
theorem dL_isTriple_40 : decode cL_isTriple 40 = .ok (.goto 4, 3) := by decide +kernel
theorem dL_isTriple_43 : decode cL_isTriple 43 = .ok (.iconst 0, 1) := by decide +kernel
theorem dL_isTriple_44 : decode cL_isTriple 44 = .ok (.ireturn, 1) := by decide +kernel
